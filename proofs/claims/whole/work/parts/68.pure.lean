section PU60
theorem rt_num0 {c : Nat → Int32} {s : Nat} : ∀ i, (∀ a, a < i → pu_di (c (s + a)) = true) → ∃ u, u < 10000000 ∧ rt_n0 c s i = nI u ∧ pu_num c s i = nI (min u 1000000) := by
  intro i
  induction i with
  | zero => intro _; exact ⟨0, by omega, nI_0.symm, nI_0.symm⟩
  | succ i ih =>
    intro h
    obtain ⟨u, hu, e1, e2⟩ := ih (fun a ha => h a (by omega))
    obtain ⟨d, hd, ed⟩ := pu_dig (h i (by omega))
    have k1 : ∀ x : Nat, (10 : Int32) * nI x + nI (48 + d) - 48 = nI (10 * x + d) := by
      intro x
      have a1 : (10 : Int32) * nI x = nI (10 * x) := pu_mulN 10 x
      have a2 : nI (10 * x + (48 + d)) - (48 : Int32) = nI (10 * x + (48 + d) - 48) := pk_sub (a := 10 * x + (48 + d)) (b := 48) (by omega)
      rw [a1, nI_add, a2, show 10 * x + (48 + d) - 48 = 10 * x + d by omega]
    have k2 : ∀ x : Nat, nI x * 10 + (nI (48 + d) - 48) = nI (10 * x + d) := by
      intro x
      have a1 : nI x * (10 : Int32) = nI (x * 10) := pu_mulN x 10
      have a2 : nI (48 + d) - (48 : Int32) = nI (48 + d - 48) := pk_sub (a := 48 + d) (b := 48) (by omega)
      rw [a1, a2, nI_add, show x * 10 + (48 + d - 48) = 10 * x + d by omega]
    rw [rt_n0, pu_num, e1, e2, ed, k1, k2]
    by_cases q : 999999 < u
    · have q1 : (999999 : Int32) < nI u := nI_lt (a := 999999) q (by omega)
      have q2 : ¬ nI (10 * min u 1000000 + d) < 1000000 := nI_nlt (b := 1000000) (by omega) (by omega)
      rw [if_pos q1, if_neg q2]
      refine ⟨u, hu, rfl, ?_⟩
      rw [show min u 1000000 = 1000000 by omega]
      rfl
    · have q1 : ¬ (999999 : Int32) < nI u := nI_nlt (a := 999999) (by omega) (by omega)
      rw [if_neg q1, show min u 1000000 = u by omega]
      refine ⟨10 * u + d, by omega, rfl, ?_⟩
      by_cases q3 : 10 * u + d < 1000000
      · have q4 : nI (10 * u + d) < 1000000 := nI_lt (b := 1000000) q3 (by omega)
        rw [if_pos q4, show min (10 * u + d) 1000000 = 10 * u + d by omega]
      · have q4 : ¬ nI (10 * u + d) < 1000000 := nI_nlt (b := 1000000) (by omega) (by omega)
        rw [if_neg q4, show min (10 * u + d) 1000000 = 1000000 by omega]
        rfl
theorem tk_k_cases (c : Nat → Int32) (e j : Nat) : tk_k c e j = 0 ∨ tk_k c e j = 1 ∨ tk_k c e j = 2 ∨ tk_k c e j = 3 ∨ tk_k c e j = 4 := by
  unfold tk_k
  split
  · split
    · exact Or.inr (Or.inl rfl)
    · split
      · exact Or.inr (Or.inr (Or.inl rfl))
      · split
        · exact Or.inr (Or.inr (Or.inr (Or.inl rfl)))
        · exact Or.inr (Or.inr (Or.inr (Or.inr rfl)))
  · exact Or.inl rfl
/-- the kind of a token as the reference sees it -/
theorem rt_k_of (c : Nat → Int32) (e j : Nat) {t : Int32} (h0 : ¬ t = 1) (h4 : ¬ t = 4) : rt_k c e j = t ↔ tk_k c e j = t := by
  unfold rt_k
  by_cases h : tk_k c e j = 1
  · rw [if_pos h, h]
    constructor
    · intro e1
      split at e1
      · exact absurd e1.symm h4
      · exact absurd e1.symm h0
    · intro e1; exact absurd e1.symm h0
  · rw [if_neg h]
theorem rt_num2 {c : Nat → Int32} {e j m : Nat} {w : Int32} (hj : j ≤ e) (hm : m < 1000000) (hk : tk_k c e j = 2) : (¬ nI m < rt_h c e j w ∧ tk_n c e j ≤ nI m ∧ tk_n c e j = rt_h c e j w ∧ ∃ v, v ≤ m ∧ tk_n c e j = nI v) ∨ (nI m < rt_h c e j w ∧ ¬ tk_n c e j ≤ nI m) := by
  have hh : rt_h c e j w = rt_n c e j := by
    unfold rt_h
    rw [hk, if_neg (by decide), if_pos rfl]
  have hse : tk_s c e j < e := by
    rcases Nat.lt_or_ge (tk_s c e j) e with h | h
    · exact h
    · have : tk_k c e j = 0 := by unfold tk_k; rw [if_neg (by omega)]
      rw [this] at hk
      exact absurd hk (by decide)
  have hle : ¬ pu_le (c (tk_s c e j)) = true := by
    intro h
    have : tk_k c e j = 1 := by unfold tk_k; rw [if_pos hse, if_pos h]
    rw [this] at hk
    exact absurd hk (by decide)
  have hdi : pu_di (c (tk_s c e j)) = true := by
    apply Classical.byContradiction
    intro h
    have h2 := hk
    unfold tk_k at h2
    rw [if_pos hse, if_neg hle, if_neg h] at h2
    split at h2 <;> exact absurd h2 (by decide)
  have hte : tk_e c e j = pu_sc pu_di c e e (tk_s c e j) := by
    unfold tk_e
    rw [if_pos hse, if_neg hle, if_pos hdi]
  have hs := tk_s_in (c := c) hj
  have hsc := pu_sc_scan (P := pu_di) (c := c) e (tk_s c e j) hs.2 (by omega)
  obtain ⟨u, hu, e1, e2⟩ := rt_num0 (c := c) (s := tk_s c e j) (tk_e c e j - tk_s c e j) (fun a ha => hsc.2.2.1 _ (by omega) (by rw [← hte]; omega))
  have f1 : rt_n c e j = nI u := e1
  have f2 : tk_n c e j = nI (min u 1000000) := e2
  rw [hh, f1, f2]
  by_cases q : m < u
  · right
    refine ⟨nI_lt q (by omega), fun h => ?_⟩
    have := (nI_leI (by omega) (by omega)).mp h
    omega
  · left
    rw [show min u 1000000 = u by omega]
    exact ⟨nI_nlt (by omega) (by omega), nI_le (by omega) (by omega), rfl, u, by omega, rfl⟩
theorem wb_uniq {c : Nat → Int32} {a b k k' : Nat} (hk : k < 13) (hk' : k' < 13) (h : pu_wb c a b k = true) (h' : pu_wb c a b k' = true) : k = k' := by
  obtain ⟨h1, h2⟩ := pu_wb_iff.mp h
  obtain ⟨h3, h4⟩ := pu_wb_iff.mp h'
  have key : ∀ k, k < 13 → ∀ k', k' < 13 → pz_ln k = pz_ln k' → (∀ i, i < pz_ln k → pz_by k i = pz_by k' i) → k = k' := by decide
  refine key k hk k' hk' (by omega) (fun i hi => ?_)
  rw [← h2 i hi, ← h4 i (by omega)]
/-- what a word of the text is to the reference -/
theorem rt_cases (c : Nat → Int32) (e j : Nat) (w : Int32) : (rt_k c e j = 1 ∧ ∃ k, k < 13 ∧ rt_h c e j w = nI k ∧ tk_w c e j k = true ∧ ∀ x, x < 13 → x ≠ k → tk_w c e j x = false) ∨ (¬ rt_k c e j = 1 ∧ ∀ x, x < 13 → tk_w c e j x = false) := by
  by_cases hk : tk_k c e j = 1
  · have hw : ∀ x, tk_w c e j x = pu_wb c (tk_s c e j) (tk_e c e j) x := fun x => by unfold tk_w; rw [hk]; simp
    have hh : rt_h c e j w = rt_w c e j := by unfold rt_h; rw [if_pos hk]
    cases hf : (List.range 13).find? (fun k => pu_wb c (tk_s c e j) (tk_e c e j) k) with
    | none =>
      right
      have e1 : rt_w c e j = -1 := by unfold rt_w rt_w0; rw [hf]
      refine ⟨?_, fun x hx => ?_⟩
      · unfold rt_k
        rw [if_pos hk, e1, if_pos (by decide)]
        decide
      · rw [hw]
        have := List.find?_eq_none.mp hf x (List.mem_range.mpr hx)
        simpa using this
    | some k =>
      left
      have hk13 : k < 13 := List.mem_range.mp (List.mem_of_find?_eq_some hf)
      have hkw : pu_wb c (tk_s c e j) (tk_e c e j) k = true := List.find?_some hf
      have e1 : rt_w c e j = nI k := by unfold rt_w rt_w0; rw [hf]
      refine ⟨?_, k, hk13, hh.trans e1, by rw [hw]; exact hkw, fun x hx hne => ?_⟩
      · unfold rt_k
        rw [if_pos hk, e1, if_neg (nI_pos (by omega))]
      · rw [hw]
        cases hc : pu_wb c (tk_s c e j) (tk_e c e j) x
        · rfl
        · exact absurd (wb_uniq hx hk13 hc hkw) hne
  · right
    refine ⟨?_, fun x _ => ?_⟩
    · unfold rt_k
      rw [if_neg hk]
      exact hk
    · unfold tk_w
      rw [decide_eq_false hk]
      rfl
theorem tk_l_some {c : Nat → Int32} {e j k : Nat} (hk : k < 9) (h : tk_w c e j k = true) (h2 : ∀ x, x < 13 → x ≠ k → tk_w c e j x = false) : tk_l c e j = some k := pl_find 9 k hk h (fun a ha => h2 a (by omega) (by omega))
theorem tk_l_none {c : Nat → Int32} {e j : Nat} (h2 : ∀ x, x < 9 → tk_w c e j x = false) : tk_l c e j = none := pl_find0 h2
theorem us_ot {li : Nat} (h : li < 3) : pz_us.getD li 13 < 13 ∧ pz_ot.getD li 13 < 13 ∧ ¬ pz_us.getD li 13 = pz_ot.getD li 13 ∧ ¬ pz_ln (pz_us.getD li 13) = 0 := by
  have : ∀ li, li < 3 → pz_us.getD li 13 < 13 ∧ pz_ot.getD li 13 < 13 ∧ ¬ pz_us.getD li 13 = pz_ot.getD li 13 ∧ ¬ pz_ln (pz_us.getD li 13) = 0 := by decide
  exact this li h
theorem us_no {li : Nat} (h : 3 ≤ li) (h9 : li < 9) : pz_ln (pz_us.getD li 13) = 0 ∧ ∃ m, m < 1000000 ∧ pz_mo li = nI m ∧ (if nI li = 3 then (100 : Int32) else if nI li = 5 then 100 else if nI li = 4 then 99999 else 999) = nI m := by
  have h1 : ∀ li, li < 9 → 3 ≤ li → pz_ln (pz_us.getD li 13) = 0 := by decide
  refine ⟨h1 li h9 h, ?_⟩
  rcases (show li = 3 ∨ li = 4 ∨ li = 5 ∨ li = 6 ∨ li = 7 ∨ li = 8 by omega) with rfl | rfl | rfl | rfl | rfl | rfl
  · exact ⟨100, by omega, by decide, by decide⟩
  · exact ⟨99999, by omega, by decide, by decide⟩
  · exact ⟨100, by omega, by decide, by decide⟩
  · exact ⟨999, by omega, by decide, by decide⟩
  · exact ⟨999, by omega, by decide, by decide⟩
  · exact ⟨999, by omega, by decide, by decide⟩
/-- a number's saying -/
theorem pl_num {c : Nat → Int32} {e y li m : Nat} (sl : Nat) (w : Int32) (hy : y ≤ e) (h0 : pz_ln (pz_us.getD li 13) = 0) (hm : pz_mo li = nI m) (hm2 : m < 1000000) :
    (¬ rt_k c e y = 2 ∧ pl_end c e y li sl = (1, tk_s c e y, 0, 0, 0)) ∨ (rt_k c e y = 2 ∧ nI m < rt_h c e y w ∧ pl_end c e y li sl = (2, tk_s c e y, 0, 0, 0)) ∨ (rt_k c e y = 2 ∧ ¬ nI m < rt_h c e y w ∧ ¬ rt_h c e y w < 0 ∧ pl_end c e y li sl = if tk_k c e (tk_e c e y) = 3 then (0, 0, tk_e c e (tk_e c e y), sl, rt_h c e y w) else (1, tk_s c e (tk_e c e y), 0, 0, 0)) := by
  by_cases hk : tk_k c e y = 2
  · right
    have hk2 : rt_k c e y = 2 := (rt_k_of c e y (by decide) (by decide)).mpr hk
    rcases rt_num2 (w := w) hy hm2 hk with ⟨a1, a2, a3, v, a4, a5⟩ | ⟨a1, a2⟩
    · right
      have hs : pl_say c e y li = (0, rt_h c e y w) := by
        unfold pl_say
        rw [if_pos h0, if_pos hk, hm, if_pos a2, a3]
      refine ⟨hk2, a1, ?_, ?_⟩
      · rw [← a3, a5]; exact nI_pos (by omega)
      · unfold pl_end
        rw [hs, if_pos rfl]
    · left
      have hs : pl_say c e y li = (2, 0) := by
        unfold pl_say
        rw [if_pos h0, if_pos hk, hm, if_neg a2]
      refine ⟨hk2, a1, ?_⟩
      unfold pl_end
      rw [hs, if_neg (by decide)]
  · left
    have hs : pl_say c e y li = (1, 0) := by
      unfold pl_say
      rw [if_pos h0, if_neg hk]
    refine ⟨fun h => hk ((rt_k_of c e y (by decide) (by decide)).mp h), ?_⟩
    unfold pl_end
    rw [hs, if_neg (by decide)]
/-- a word's saying -/
theorem pl_word {c : Nat → Int32} {e y li : Nat} (sl : Nat) (w : Int32) (hli : li < 3) :
    (¬ (rt_k c e y = 1 ∧ (rt_h c e y w = nI (pz_us.getD li 13) ∨ rt_h c e y w = nI (pz_ot.getD li 13))) ∧ pl_end c e y li sl = (1, tk_s c e y, 0, 0, 0)) ∨ (rt_k c e y = 1 ∧ rt_h c e y w = nI (pz_ot.getD li 13) ∧ pl_end c e y li sl = if tk_k c e (tk_e c e y) = 3 then (0, 0, tk_e c e (tk_e c e y), sl, 1) else (1, tk_s c e (tk_e c e y), 0, 0, 0)) ∨ (rt_k c e y = 1 ∧ rt_h c e y w = nI (pz_us.getD li 13) ∧ ¬ rt_h c e y w = nI (pz_ot.getD li 13) ∧ pl_end c e y li sl = if tk_k c e (tk_e c e y) = 3 then (0, 0, tk_e c e (tk_e c e y), sl, 0) else (1, tk_s c e (tk_e c e y), 0, 0, 0)) := by
  obtain ⟨u1, u2, u3, u4⟩ := us_ot hli
  rcases rt_cases c e y w with ⟨hk, k, k1, k2, k3, k4⟩ | ⟨hk, k4⟩
  · by_cases e1 : k = pz_ot.getD li 13
    · right; left
      have hs : pl_say c e y li = (0, 1) := by
        unfold pl_say
        rw [if_neg u4, ← e1, if_pos k3]
      refine ⟨hk, by rw [k2, e1], ?_⟩
      unfold pl_end
      rw [hs, if_pos rfl]
    · have o1 := k4 _ u2 (fun e => e1 e.symm)
      by_cases e2 : k = pz_us.getD li 13
      · right; right
        have hs : pl_say c e y li = (0, 0) := by
          unfold pl_say
          rw [if_neg u4, if_neg (by rw [o1]; decide), ← e2, if_pos k3]
        refine ⟨hk, by rw [k2, e2], ?_, ?_⟩
        · rw [k2]
          intro h
          exact e1 ((nI_eq (by omega) (by omega)).mp h)
        · unfold pl_end
          rw [hs, if_pos rfl]
      · left
        have o2 := k4 _ u1 (fun e => e2 e.symm)
        have hs : pl_say c e y li = (1, 0) := by
          unfold pl_say
          rw [if_neg u4, if_neg (by rw [o1]; decide), if_neg (by rw [o2]; decide)]
        refine ⟨?_, ?_⟩
        · rintro ⟨_, h | h⟩
          · rw [k2] at h
            exact e2 ((nI_eq (by omega) (by omega)).mp h)
          · rw [k2] at h
            exact e1 ((nI_eq (by omega) (by omega)).mp h)
        · unfold pl_end
          rw [hs, if_neg (by decide)]
  · left
    have hs : pl_say c e y li = (1, 0) := by
      unfold pl_say
      rw [if_neg u4, if_neg (by rw [k4 _ u2]; decide), if_neg (by rw [k4 _ u1]; decide)]
    refine ⟨fun h => hk h.1, ?_⟩
    unfold pl_end
    rw [hs, if_neg (by decide)]
theorem pl_line_w {c : Nat → Int32} {e j k : Nat} {to : Nat → Int32} (hl : tk_l c e j = some k) (h8 : ¬ k = 8) (ht : to k = 0) : pl_line c e to j = pl_end c e (tk_e c e j) k k := by
  unfold pl_line
  rw [hl]
  show (if k = 8 then _ else if to k = 0 then _ else _) = _
  rw [if_neg h8, if_pos ht]
theorem pl_line_w3 {c : Nat → Int32} {e j k : Nat} {to : Nat → Int32} (hl : tk_l c e j = some k) (h8 : ¬ k = 8) (ht : ¬ to k = 0) : pl_line c e to j = (3, tk_s c e j, 0, 0, 0) := by
  unfold pl_line
  rw [hl]
  show (if k = 8 then _ else if to k = 0 then _ else _) = _
  rw [if_neg h8, if_neg ht]
theorem pl_line_n {c : Nat → Int32} {e j : Nat} {to : Nat → Int32} (hl : tk_l c e j = none) : pl_line c e to j = (1, tk_s c e j, 0, 0, 0) := by
  unfold pl_line
  rw [hl]
/-- an offer's line -/
theorem pl_line_o {c : Nat → Int32} {e j : Nat} {to : Nat → Int32} (w : Int32) (hj : tk_e c e j ≤ e) (hl : tk_l c e j = some 8) :
    (¬ rt_k c e (tk_e c e j) = 2 ∧ pl_line c e to j = (1, tk_s c e (tk_e c e j), 0, 0, 0)) ∨ (rt_k c e (tk_e c e j) = 2 ∧ 3 < rt_h c e (tk_e c e j) w ∧ pl_line c e to j = (2, tk_s c e (tk_e c e j), 0, 0, 0)) ∨ (rt_k c e (tk_e c e j) = 2 ∧ ¬ 3 < rt_h c e (tk_e c e j) w ∧ ∃ v, v ≤ 3 ∧ rt_h c e (tk_e c e j) w = nI v ∧ ((¬ to (8 + v) = 0 ∧ pl_line c e to j = (3, tk_s c e (tk_e c e j), 0, 0, 0)) ∨ (to (8 + v) = 0 ∧ pl_line c e to j = pl_end c e (tk_e c e (tk_e c e j)) 8 (8 + v)))) := by
  have hu : pl_line c e to j = (if tk_k c e (tk_e c e j) = 2 then
        (if tk_n c e (tk_e c e j) ≤ 3 then
          (if to (8 + (tk_n c e (tk_e c e j)).toNatClampNeg) = 0 then pl_end c e (tk_e c e (tk_e c e j)) 8 (8 + (tk_n c e (tk_e c e j)).toNatClampNeg) else (3, tk_s c e (tk_e c e j), 0, 0, 0))
        else (2, tk_s c e (tk_e c e j), 0, 0, 0))
      else (1, tk_s c e (tk_e c e j), 0, 0, 0)) := by
    unfold pl_line
    rw [hl]
    rfl
  by_cases hk : tk_k c e (tk_e c e j) = 2
  · right
    have hk2 : rt_k c e (tk_e c e j) = 2 := (rt_k_of c e _ (by decide) (by decide)).mpr hk
    rw [if_pos hk] at hu
    rcases rt_num2 (m := 3) (w := w) hj (by omega) hk with ⟨a1, a2, a3, v, a4, a5⟩ | ⟨a1, a2⟩
    · right
      have a2' : tk_n c e (tk_e c e j) ≤ 3 := a2
      rw [if_pos a2', a5, nI_clamp (by omega)] at hu
      refine ⟨hk2, a1, v, a4, a3.symm.trans a5, ?_⟩
      by_cases ht : to (8 + v) = 0
      · rw [if_pos ht] at hu
        exact Or.inr ⟨ht, hu⟩
      · rw [if_neg ht] at hu
        exact Or.inl ⟨ht, hu⟩
    · left
      have a2' : ¬ tk_n c e (tk_e c e j) ≤ 3 := a2
      rw [if_neg a2'] at hu
      exact ⟨hk2, a1, hu⟩
  · left
    rw [if_neg hk] at hu
    exact ⟨fun h => hk ((rt_k_of c e _ (by decide) (by decide)).mp h), hu⟩
end PU60
