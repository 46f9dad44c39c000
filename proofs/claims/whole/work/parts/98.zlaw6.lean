section LAW6
def st_sx : List Nat := [74, 84, 89, 94, 99, 103, 106, 109, 112, 76, 78, 86, 91, 96]
def st_tm (i : Nat) : Term := .string "StoneHall$Line" (st_sx.getD i 96)
def st_ad (en : Nat → Nat) (aL aS : Nat) (adK adV : Nat → Nat) (m0 m1 : Nat) (k : Nat) : Nat := if k < 9 then en k else if k = 20 then aL else if k = 21 then aS else if k < 44 then adK (k - 30) else if k < 74 then adV (k - 60) else if k = 80 then m0 else m1
theorem st_a9 {en adK adV : Nat → Nat} {aL aS m0 m1 i : Nat} (h : i < 9) : st_ad en aL aS adK adV m0 m1 i = en i := if_pos h
theorem st_a30 {en adK adV : Nat → Nat} {aL aS m0 m1 i : Nat} (h : i < 14) : st_ad en aL aS adK adV m0 m1 (30 + i) = adK i := by
  unfold st_ad
  rw [if_neg (by omega), if_neg (by omega), if_neg (by omega), if_pos (by omega), show 30 + i - 30 = i by omega]
theorem st_a60 {en adK adV : Nat → Nat} {aL aS m0 m1 i : Nat} (h : i < 14) : st_ad en aL aS adK adV m0 m1 (60 + i) = adV i := by
  unfold st_ad
  rw [if_neg (by omega), if_neg (by omega), if_neg (by omega), if_neg (by omega), if_pos (by omega), show 60 + i - 60 = i by omega]
theorem va_En.cg {E d : String} {nm : List String} {F : List (String × String × String × List Int32)} {ad ad' : Nat → Nat} {A : Nat → Prop} {U : State} {H : Heap} (h : va_En E d nm F ad A U H) (e : ∀ i, i < nm.length → ad' i = ad i) : va_En E d nm F ad' A U H :=
  ⟨fun i hi => by rw [e i hi]; exact h.1 i hi, fun i j hi hj => by rw [e i hi, e j hj]; exact h.2 i j hi hj⟩
theorem vk_S.cg {N : Nat} {len : List Nat} {byt : List (List Int32)} {adK adV adK' adV' : Nat → Nat} {A : Nat → Prop} {U : State} {H : Heap} (h : vk_S N len byt adK adV A U H) (e1 : ∀ i, i < N → adK' i = adK i) (e2 : ∀ i, i < N → adV' i = adV i) : vk_S N len byt adK' adV' A U H :=
  ⟨fun i hi => by rw [e1 i hi, e2 i hi]; exact h.1 i hi, fun i j hi hj => by rw [e1 i hi, e1 j hj]; exact h.2 i j hi hj⟩
set_option maxHeartbeats 8000000 in
set_option maxRecDepth 100000 in
/-- what stands still, out of what the start is said to be -/
theorem st_of {a : Array Value} {s : State} {A : Nat → Prop} (hA : ∀ q : Nat, q < s.heap.size → ¬ A q) (hts : ∀ w ∈ lw_tbl, w.before a s = true) (hs : ∀ w ∈ flatC (Jvm.Cond.and given_1 narrow_1), w.before a s = true) : ∃ ad : Nat → Nat, ∀ g : pz_G, g.2.2 = ad → pz_St g A s s.heap := by
  obtain ⟨en, hEn, hev⟩ := va_Enof2 (A := A) (E := "StoneHall$Line") (d := "LStoneHall$Line;") (nm := pz_nm) (F := pz_lf) (args := a) (s := s)
    (fun i hi => by
      have hi : i < 9 := hi
      rcases (show i = 0 ∨ i = 1 ∨ i = 2 ∨ i = 3 ∨ i = 4 ∨ i = 5 ∨ i = 6 ∨ i = 7 ∨ i = 8 by omega) with rfl | rfl | rfl | rfl | rfl | rfl | rfl | rfl | rfl <;> exact hts _ (by decide +kernel)) (hts _ (by decide +kernel)) (fun i hi => by
      have hi : i < 9 := hi
      rcases (show i = 0 ∨ i = 1 ∨ i = 2 ∨ i = 3 ∨ i = 4 ∨ i = 5 ∨ i = 6 ∨ i = 7 ∨ i = 8 by omega) with rfl | rfl | rfl | rfl | rfl | rfl | rfl | rfl | rfl <;> exact hs _ (by decide +kernel)) (List.forall_mem_cons.mpr ⟨fun i hi => by
      have hi : i < 9 := hi
      rcases (show i = 0 ∨ i = 1 ∨ i = 2 ∨ i = 3 ∨ i = 4 ∨ i = 5 ∨ i = 6 ∨ i = 7 ∨ i = 8 by omega) with rfl | rfl | rfl | rfl | rfl | rfl | rfl | rfl | rfl <;> exact hs _ (by decide +kernel), List.forall_mem_cons.mpr ⟨fun i hi => by
      have hi : i < 9 := hi
      rcases (show i = 0 ∨ i = 1 ∨ i = 2 ∨ i = 3 ∨ i = 4 ∨ i = 5 ∨ i = 6 ∨ i = 7 ∨ i = 8 by omega) with rfl | rfl | rfl | rfl | rfl | rfl | rfl | rfl | rfl <;> exact hs _ (by decide +kernel), fun _ h => nomatch h⟩⟩) (fun i j hi hj hne => by
      have hi : i < 9 := hi
      have hj : j < 9 := hj
      rcases (show i = 0 ∨ i = 1 ∨ i = 2 ∨ i = 3 ∨ i = 4 ∨ i = 5 ∨ i = 6 ∨ i = 7 ∨ i = 8 by omega) with rfl | rfl | rfl | rfl | rfl | rfl | rfl | rfl | rfl <;> rcases (show j = 0 ∨ j = 1 ∨ j = 2 ∨ j = 3 ∨ j = 4 ∨ j = 5 ∨ j = 6 ∨ j = 7 ∨ j = 8 by omega) with rfl | rfl | rfl | rfl | rfl | rfl | rfl | rfl | rfl <;> first | exact absurd rfl hne | exact Or.inl (hs _ (by decide +kernel)) | exact Or.inr (hs _ (by decide +kernel))) hA
  obtain ⟨adK, adV, hStr, hsev⟩ := vk_Sof (A := A) (N := 14) (tm := st_tm) (len := pz_len) (byt := pz_byt) (args := a) (s := s)
    (fun i hi => by rcases (show i = 0 ∨ i = 1 ∨ i = 2 ∨ i = 3 ∨ i = 4 ∨ i = 5 ∨ i = 6 ∨ i = 7 ∨ i = 8 ∨ i = 9 ∨ i = 10 ∨ i = 11 ∨ i = 12 ∨ i = 13 by omega) with rfl | rfl | rfl | rfl | rfl | rfl | rfl | rfl | rfl | rfl | rfl | rfl | rfl | rfl <;> decide) (fun i hi => by rcases (show i = 0 ∨ i = 1 ∨ i = 2 ∨ i = 3 ∨ i = 4 ∨ i = 5 ∨ i = 6 ∨ i = 7 ∨ i = 8 ∨ i = 9 ∨ i = 10 ∨ i = 11 ∨ i = 12 ∨ i = 13 by omega) with rfl | rfl | rfl | rfl | rfl | rfl | rfl | rfl | rfl | rfl | rfl | rfl | rfl | rfl <;> exact hs _ (by decide +kernel)) (fun i hi => by rcases (show i = 0 ∨ i = 1 ∨ i = 2 ∨ i = 3 ∨ i = 4 ∨ i = 5 ∨ i = 6 ∨ i = 7 ∨ i = 8 ∨ i = 9 ∨ i = 10 ∨ i = 11 ∨ i = 12 ∨ i = 13 by omega) with rfl | rfl | rfl | rfl | rfl | rfl | rfl | rfl | rfl | rfl | rfl | rfl | rfl | rfl <;> exact hs _ (by decide +kernel)) (fun i hi => by rcases (show i = 0 ∨ i = 1 ∨ i = 2 ∨ i = 3 ∨ i = 4 ∨ i = 5 ∨ i = 6 ∨ i = 7 ∨ i = 8 ∨ i = 9 ∨ i = 10 ∨ i = 11 ∨ i = 12 ∨ i = 13 by omega) with rfl | rfl | rfl | rfl | rfl | rfl | rfl | rfl | rfl | rfl | rfl | rfl | rfl | rfl <;> exact hs _ (by decide +kernel)) (fun i hi => by rcases (show i = 0 ∨ i = 1 ∨ i = 2 ∨ i = 3 ∨ i = 4 ∨ i = 5 ∨ i = 6 ∨ i = 7 ∨ i = 8 ∨ i = 9 ∨ i = 10 ∨ i = 11 ∨ i = 12 ∨ i = 13 by omega) with rfl | rfl | rfl | rfl | rfl | rfl | rfl | rfl | rfl | rfl | rfl | rfl | rfl | rfl <;> exact hs _ (by decide +kernel))
    (fun i hi j hj => by
      rcases (show i = 0 ∨ i = 1 ∨ i = 2 ∨ i = 3 ∨ i = 4 ∨ i = 5 ∨ i = 6 ∨ i = 7 ∨ i = 8 ∨ i = 9 ∨ i = 10 ∨ i = 11 ∨ i = 12 ∨ i = 13 by omega) with rfl | rfl | rfl | rfl | rfl | rfl | rfl | rfl | rfl | rfl | rfl | rfl | rfl | rfl
      · have hj : j < 5 := hj
        rcases (show j = 0 ∨ j = 1 ∨ j = 2 ∨ j = 3 ∨ j = 4 by omega) with rfl | rfl | rfl | rfl | rfl <;> exact hs _ (by decide +kernel)
      · have hj : j < 3 := hj
        rcases (show j = 0 ∨ j = 1 ∨ j = 2 by omega) with rfl | rfl | rfl <;> exact hs _ (by decide +kernel)
      · have hj : j < 7 := hj
        rcases (show j = 0 ∨ j = 1 ∨ j = 2 ∨ j = 3 ∨ j = 4 ∨ j = 5 ∨ j = 6 by omega) with rfl | rfl | rfl | rfl | rfl | rfl | rfl <;> exact hs _ (by decide +kernel)
      · have hj : j < 7 := hj
        rcases (show j = 0 ∨ j = 1 ∨ j = 2 ∨ j = 3 ∨ j = 4 ∨ j = 5 ∨ j = 6 by omega) with rfl | rfl | rfl | rfl | rfl | rfl | rfl <;> exact hs _ (by decide +kernel)
      · have hj : j < 7 := hj
        rcases (show j = 0 ∨ j = 1 ∨ j = 2 ∨ j = 3 ∨ j = 4 ∨ j = 5 ∨ j = 6 by omega) with rfl | rfl | rfl | rfl | rfl | rfl | rfl <;> exact hs _ (by decide +kernel)
      · have hj : j < 3 := hj
        rcases (show j = 0 ∨ j = 1 ∨ j = 2 by omega) with rfl | rfl | rfl <;> exact hs _ (by decide +kernel)
      · have hj : j < 4 := hj
        rcases (show j = 0 ∨ j = 1 ∨ j = 2 ∨ j = 3 by omega) with rfl | rfl | rfl | rfl <;> exact hs _ (by decide +kernel)
      · have hj : j < 4 := hj
        rcases (show j = 0 ∨ j = 1 ∨ j = 2 ∨ j = 3 by omega) with rfl | rfl | rfl | rfl <;> exact hs _ (by decide +kernel)
      · have hj : j < 5 := hj
        rcases (show j = 0 ∨ j = 1 ∨ j = 2 ∨ j = 3 ∨ j = 4 by omega) with rfl | rfl | rfl | rfl | rfl <;> exact hs _ (by decide +kernel)
      · have hj : j < 5 := hj
        rcases (show j = 0 ∨ j = 1 ∨ j = 2 ∨ j = 3 ∨ j = 4 by omega) with rfl | rfl | rfl | rfl | rfl <;> exact hs _ (by decide +kernel)
      · have hj : j < 6 := hj
        rcases (show j = 0 ∨ j = 1 ∨ j = 2 ∨ j = 3 ∨ j = 4 ∨ j = 5 by omega) with rfl | rfl | rfl | rfl | rfl | rfl <;> exact hs _ (by decide +kernel)
      · have hj : j < 4 := hj
        rcases (show j = 0 ∨ j = 1 ∨ j = 2 ∨ j = 3 by omega) with rfl | rfl | rfl | rfl <;> exact hs _ (by decide +kernel)
      · have hj : j < 4 := hj
        rcases (show j = 0 ∨ j = 1 ∨ j = 2 ∨ j = 3 by omega) with rfl | rfl | rfl | rfl <;> exact hs _ (by decide +kernel)
      · exact absurd hj (by show ¬ j < 0; omega))
    (fun i j hi hj hne => by rcases (show i = 0 ∨ i = 1 ∨ i = 2 ∨ i = 3 ∨ i = 4 ∨ i = 5 ∨ i = 6 ∨ i = 7 ∨ i = 8 ∨ i = 9 ∨ i = 10 ∨ i = 11 ∨ i = 12 ∨ i = 13 by omega) with rfl | rfl | rfl | rfl | rfl | rfl | rfl | rfl | rfl | rfl | rfl | rfl | rfl | rfl <;> rcases (show j = 0 ∨ j = 1 ∨ j = 2 ∨ j = 3 ∨ j = 4 ∨ j = 5 ∨ j = 6 ∨ j = 7 ∨ j = 8 ∨ j = 9 ∨ j = 10 ∨ j = 11 ∨ j = 12 ∨ j = 13 by omega) with rfl | rfl | rfl | rfl | rfl | rfl | rfl | rfl | rfl | rfl | rfl | rfl | rfl | rfl <;> first | exact absurd rfl hne | exact Or.inl (hs _ (by decide +kernel)) | exact Or.inr (hs _ (by decide +kernel))) hA
  have LN : ∀ j : Nat, j < 9 → (Term.elem (.static "StoneHall" "LINES" "[LStoneHall$Line;") (.int (Int32.ofNat j))).eval a s none [] s = some (.ref (en j)) := fun i hi => by
    have he := hev i hi
    rcases (show i = 0 ∨ i = 1 ∨ i = 2 ∨ i = 3 ∨ i = 4 ∨ i = 5 ∨ i = 6 ∨ i = 7 ∨ i = 8 by omega) with rfl | rfl | rfl | rfl | rfl | rfl | rfl | rfl | rfl <;> exact va_eqv (hs _ (by decide +kernel)) he
  obtain ⟨aL, hL1, hL2⟩ := va_Tof (A := A) (tm := .static "StoneHall" "LINES" "[LStoneHall$Line;") (ty := .object "StoneHall$Line") (N := 9) (f := fun j => .ref (en j)) (by omega) (hs _ (by decide +kernel)) (va_eqv (u := .int 9) (hs _ (by decide +kernel)) rfl) LN hA
  obtain ⟨aS, hS1, hS2⟩ := va_Tof (A := A) (tm := .static "StoneHall$Chances" "STEPS" "[I") (ty := .int) (N := 4) (f := fun j => .int (pz_stp.getD j 0)) (by omega) (hs _ (by decide +kernel)) (va_eqv (u := .int 4) (hs _ (by decide +kernel)) rfl) (fun i hi => by rcases (show i = 0 ∨ i = 1 ∨ i = 2 ∨ i = 3 by omega) with rfl | rfl | rfl | rfl <;> exact va_eqv (u := .int _) (hs _ (by decide +kernel)) rfl) hA
  obtain ⟨m0, _, _, _, h80, _⟩ := Cond.exactly_spec (show (Cond.exactly (.string "StoneHall" 172) "java/lang/String").before a s = true from hs _ (by decide +kernel))
  obtain ⟨m1, _, _, _, h81, _⟩ := Cond.exactly_spec (show (Cond.exactly (.string "StoneHall" 185) "java/lang/String").before a s = true from hs _ (by decide +kernel))
  refine ⟨st_ad en aL aS adK adV m0 m1, fun g hg => ?_⟩
  have hT : va_T (.object "StoneHall$Line") aL 9 (fun j => .ref (st_ad en aL aS adK adV m0 m1 j)) A s s.heap := by
    obtain ⟨cell, t1, t2, t3, t4, t5, t6, t7⟩ := hL2
    exact ⟨cell, t1, t2, t3, t4, t5, fun j hj => by
      show cell.slots[j]? = some (Value.ref (st_ad en aL aS adK adV m0 m1 j))
      rw [st_a9 hj]
      exact t6 j hj, t7⟩
  unfold pz_St
  rw [hg]
  refine ⟨hEn.cg (fun i hi => st_a9 hi), va_Zof (hts _ (by decide +kernel)) (hts _ (by decide +kernel)) hL1 hA, hT, va_Zof (hts _ (by decide +kernel)) (hts _ (by decide +kernel)) hS1 hA, hS2, ?_, ?_, ?_, hStr.cg (fun i hi => st_a30 hi) (fun i hi => st_a60 hi), va_Zof (hts _ (by decide +kernel)) (hts _ (by decide +kernel)) (va_eqv (u := .int 1) (hs _ (by decide +kernel)) rfl) hA, va_Zqof (hts _ (by decide +kernel)) (hts _ (by decide +kernel)) (hs _ (by decide +kernel)) hA, vx_Zqof (hts _ (by decide +kernel)) (hts _ (by decide +kernel)) (hs _ (by decide +kernel)) hA, vx_Zqof (hts _ (by decide +kernel)) (hts _ (by decide +kernel)) (hs _ (by decide +kernel)) hA, vk_R.of (hts _ (by decide +kernel)) h80, vk_R.of (hts _ (by decide +kernel)) h81, va_Nw.of rfl (hts _ (by decide +kernel)), va_Nw.of rfl (hts _ (by decide +kernel)), va_Nw.of rfl (hts _ (by decide +kernel)), va_Nw.of rfl (hts _ (by decide +kernel)), va_Nw.of rfl (hts _ (by decide +kernel)), va_Nw.of rfl (hts _ (by decide +kernel)), va_Nw.of rfl (hts _ (by decide +kernel)), va_AO.of (hts _ (by decide +kernel))⟩
  · refine va_Efof (E := "StoneHall$Line") (d0 := "LStoneHall$Line;") (nm := pz_nm) (tm := fun i => st_tm i) (fun i hi => by rw [st_a9 hi]; exact hev i hi) (fun i hi => by rcases (show i = 0 ∨ i = 1 ∨ i = 2 ∨ i = 3 ∨ i = 4 ∨ i = 5 ∨ i = 6 ∨ i = 7 ∨ i = 8 by omega) with rfl | rfl | rfl | rfl | rfl | rfl | rfl | rfl | rfl <;> exact hs _ (by decide +kernel)) (fun i hi => ?_) hA
    rw [st_a30 (by omega)]
    exact hsev i (by omega)
  · refine va_Efof (E := "StoneHall$Line") (d0 := "LStoneHall$Line;") (nm := pz_nm) (tm := fun i => st_tm (pz_us.getD i 13)) (fun i hi => by rw [st_a9 hi]; exact hev i hi) (fun i hi => by rcases (show i = 0 ∨ i = 1 ∨ i = 2 ∨ i = 3 ∨ i = 4 ∨ i = 5 ∨ i = 6 ∨ i = 7 ∨ i = 8 by omega) with rfl | rfl | rfl | rfl | rfl | rfl | rfl | rfl | rfl <;> exact hs _ (by decide +kernel)) (fun i hi => ?_) hA
    rw [st_a30 (pz_us14 hi)]
    exact hsev _ (pz_us14 hi)
  · refine va_Efof (E := "StoneHall$Line") (d0 := "LStoneHall$Line;") (nm := pz_nm) (tm := fun i => st_tm (pz_ot.getD i 13)) (fun i hi => by rw [st_a9 hi]; exact hev i hi) (fun i hi => by rcases (show i = 0 ∨ i = 1 ∨ i = 2 ∨ i = 3 ∨ i = 4 ∨ i = 5 ∨ i = 6 ∨ i = 7 ∨ i = 8 by omega) with rfl | rfl | rfl | rfl | rfl | rfl | rfl | rfl | rfl <;> exact hs _ (by decide +kernel)) (fun i hi => ?_) hA
    rw [st_a30 (pz_ot14 hi)]
    exact hsev _ (pz_ot14 hi)
end LAW6
