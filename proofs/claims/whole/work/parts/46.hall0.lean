section PZH
variable {B : pz_B} {cc : ByteArray} {nL : Nat} {ret : Option FieldType} {own : String} {g : pz_G} {R : Room} {k n pc : Nat} {lv lv' : List (Nat × Value)} {st : List Value} {ws ws' w1 : va_W}
/-- a contract whose answer is one known reference, or null -/
def pz_pw {S : Type} (v : Value) (post : S → Prop) (w : S → va_W) : Option Value → va_W → Prop := fun r w1 => ∃ (u : S), r = some v ∧ w1 = w u ∧ post u
theorem pz_clsB {s : State} (hK : va_K g.1 vwCl (pz_tys g) s) {cA : ClassId} (hA : va_RA s cA (.object "StoneHall$Boulder")) : cA = g.2.1 4 := by
  obtain ⟨_, _, -, -, -, h1⟩ := (hK.2 4 (g.2.1 4, .object "StoneHall$Boulder") rfl).2
  obtain ⟨_, _, -, -, -, h2⟩ := hA
  exact Option.some.inj (Eq.trans (Eq.symm h2) h1)
/-- a row of boulders -/
theorem pz_newq {x : Int32} {N' ix : Nat} (F : pz_F B cc nL ret own g R) (hw : Cond.classLink own ix "StoneHall$Boulder" ∈ pz_T) (hx : ¬ x < 0) (hN : x.toNatClampNeg = N') (hby : N' * 4 ≤ 536870912) (hcs : k + 1 ≤ R.cells ∧ n + N' ≤ R.slots) (d : decode cc pc = .ok (.anewarray ix, 3))
    (h : ∀ q : Nat, pz_At B (k + 1) (n + N') (pc + 3) lv (.ref q :: st) (ws ++ [(q, .inl (g.2.1 4, N', .inr (.inr (.inr (.inr (fun _ => none))))))])) : pz_At B k n pc lv (.int x :: st) ws := by
  intro ls H locs hl hP hD hS
  have hRR := F.2.2.2.2.2.2.2.2.2.2.1
  have hG := F.2.2.2.2.2.2.2.2.2.1
  refine va_newq F.1 F.2.1 F.2.2.2.2.1 (F.2.2.2.2.2.1 _ hw) (pz_nest F).2.2.2.2.2.2.2 F.2.2.2.2.2.2.1 (by rw [← hG]; exact hP) hD hS F.2.2.2.2.2.2.2.1 hx hN hby (by rw [hRR]; exact hcs.1) (by rw [hRR]; exact hcs.2) d (fun q cA H1 hK1 hP1 hD1 hS1 => ?_)
  have e : cA = g.2.1 4 := pz_clsB F.2.2.2.2.2.2.1 (hK1.2 5 (cA, .object "StoneHall$Boulder") rfl).2
  subst e
  exact h q ls H1 locs hl (by rw [hG]; exact hP1) hD1 hS1
theorem pu_inM {m : Int32} {M N : Nat} (h : M ≤ N) (hN : N < 2 ^ 31) (q1 : ¬ m < 0) (q2 : ¬ nI M ≤ m) : vp_in m N := by
  have h1 : vp_in m M := pu_in1 q1 q2 (nI_toInt (by omega))
  exact fun h2 => h1 (h2.imp id (fun z => Nat.le_trans h z))
/-- the five numbers of a feed -/
def fe_w (a b c d e : Int32) (j : Nat) : Int32 := if j = 0 then a else if j = 1 then b else if j = 2 then c else if j = 3 then d else e
def fe_b (w : Int32) (j : Nat) : Int32 := (w >>> (nI (24 - 8 * j) &&& 31)).toInt8.toInt32
/-- a number that one of M men, kinds has -/
def hs_in (m : Int32) (M : Nat) : Prop := ¬ m < 0 ∧ m < nI M
theorem hs_of {m r : Int32} {M : Nat} (h : r = if m < 0 then 0 else if nI M ≤ m then 0 else 1) : (hs_in m M ∧ r = 1) ∨ (¬ hs_in m M ∧ r = 0) := by
  by_cases q1 : m < 0
  · rw [if_pos q1] at h
    exact Or.inr ⟨fun h2 => h2.1 q1, h⟩
  · rw [if_neg q1] at h
    by_cases q2 : nI M ≤ m
    · rw [if_pos q2] at h
      exact Or.inr ⟨fun h2 => absurd q2 (Int32.not_le.mpr h2.2), h⟩
    · rw [if_neg q2] at h
      exact Or.inl ⟨⟨q1, Int32.not_le.mp q2⟩, h⟩
theorem hs_vp {m : Int32} {M N : Nat} (h : M ≤ N) (hN : N < 2 ^ 31) (hm : hs_in m M) : vp_in m N := pu_inM h hN hm.1 (Int32.not_le.mpr hm.2)
theorem hs_nI {m : Int32} {M : Nat} (hM : M < 2 ^ 31) (hm : hs_in m M) : ∃ v, v < M ∧ m = nI v := by
  have h1 := hs_vp (Nat.le_refl M) hM hm
  refine ⟨m.toNatClampNeg, ?_, ?_⟩
  · have h2 : ¬ M ≤ m.toNatClampNeg := fun h => h1 (Or.inr h)
    omega
  · have h3 : (nI m.toNatClampNeg).toInt = m.toInt := by
      rw [nI_toInt (by have h2 : ¬ M ≤ m.toNatClampNeg := fun h => h1 (Or.inr h); omega)]
      have h4 : ¬ m.toInt < 0 := by
        intro h5
        exact hm.1 (Int32.lt_iff_toInt_lt.mpr h5)
      show ((m.toInt.toNat : Nat) : Int) = m.toInt
      omega
    exact (Int32.toInt_inj.mp h3).symm
def sh_ok (M : Nat) (pa : Nat → Int32) (fr to p : Int32) : Prop := hs_in fr M ∧ hs_in to M ∧ ¬ fr = to ∧ ¬ p < 1 ∧ p ≤ pa fr.toNatClampNeg
def bi_ok (M : Nat) (pa : Nat → Int32) (m c : Int32) : Prop := hs_in m M ∧ ¬ c < 1 ∧ c ≤ 99999 ∧ pa m.toNatClampNeg ≤ 0
/-- the lowest fraction as the class keeps it -/
def fr_is (x y up lo up2 lo2 : Int64) : Prop := if pu_cd 100 x y ≤ 0 then up2 = up ∧ lo2 = lo else up2 = x / pu_cd 100 x y ∧ lo2 = y / pu_cd 100 x y
def fr_ans (x y : Int64) (w : Int32) (r : Int64) : Prop := ∃ up lo up2 lo2, fr_is x y up lo up2 lo2 ∧ r = if w = 0 then up2 else lo2
def of_b (inf : Nat → Int32) (z : Int32) : Int32 := if z < 0 then inf 7 else inf (8 + z.toNatClampNeg)
def la_s (ins se : Int32) : Int32 := if se = 0 then -1 else pu_gi ins (se - 1)
theorem la_s4 (ins se : Int32) : la_s ins se < 4 := by
  unfold la_s
  split
  · decide
  · obtain ⟨j, h1, h2⟩ := pu_gi4 ins (se - 1)
    rw [h2]
    exact nI_lt (b := 4) h1 (by omega)
end PZH
