/-! ===== pure words: what the methods compute ===== -/
section PU
/-- a share of c coins by parts p -/
def dv_q (pa : Nat → Int32) (c : Int32) (i : Nat) : Int32 := pa i * c / 16
/-- coins left behind the first i shares -/
def dv_o (pa : Nat → Int32) (c : Int32) : Nat → Int32
  | 0 => c
  | i + 1 => dv_o pa c i - dv_q pa c i
/-- coins left ahead of man i as one each are given -/
def dv_x (pa : Nat → Int32) (o : Int32) : Nat → Int32
  | 0 => o
  | i + 1 => if 0 < dv_x pa o i ∧ 0 < pa i then dv_x pa o i + (-1) else dv_x pa o i
/-- what man i gets of c coins among n men -/
def dv_f (pa : Nat → Int32) (n : Nat) (c : Int32) (i : Nat) : Int32 := if 0 < dv_x pa (dv_o pa c n) i ∧ 0 < pa i then dv_q pa c i + 1 else dv_q pa c i
theorem pu_nlt {x y : Int32} (h : ¬ x < y) : y ≤ x := Int32.not_lt.mp h
theorem pu_nle {x y : Int32} (h : ¬ x ≤ y) : y < x := Int32.not_le.mp h
theorem pu_updS {f : Nat → Int32} {i : Nat} (h : i < 2 ^ 31) {x : Int32} : upd f (nI i).toNatClampNeg x i = x := by rw [nI_clamp h]; exact pk_us
theorem pu_updN {f : Nat → Int32} {i a : Nat} (h : i < 2 ^ 31) (ha : a ≠ i) {x : Int32} : upd f (nI i).toNatClampNeg x a = f a := by rw [nI_clamp h]; exact pk_un ha
/-- the grade of slice s of what is told -/
def pu_gi (ins s : Int32) : Int32 := (ins >>> ((2 * s) &&& 31)) &&& 3
end PU
section PU2
theorem pu_in1 {x M : Int32} {N : Nat} (h0 : ¬ x < 0) (h : ¬ M ≤ x) (hM : M.toInt = N) : vp_in x N := by
  rw [vp_in_iff]
  rw [Int32.lt_iff_toInt_lt] at h0
  rw [Int32.le_iff_toInt_le, hM] at h
  have e0 : (0 : Int32).toInt = 0 := by decide
  omega
theorem pu_in2 {x M : Int32} {N : Nat} (h0 : ¬ x < 0) (h : x < M) (hM : M.toInt = N) : vp_in x N := pu_in1 h0 (Int32.not_le.mpr h) hM
/-- a number of things that is small -/
theorem pu_nn {n : Nat} (h : n < 2 ^ 31) : ¬ nI n < 0 := nI_pos h
theorem pu_inN {n : Nat} {M : Int32} {N : Nat} (hn : n < 2 ^ 31) (h : ¬ M ≤ nI n) (hM : M.toInt = N) : vp_in (nI n) N := pu_in1 (nI_pos hn) h hM
theorem pu_lt {j n : Nat} (hn : j < 2 ^ 31) (hm : n < 2 ^ 31) (q : ¬ nI n ≤ nI j) : j < n := by
  rcases Nat.lt_or_ge j n with h | h
  · exact h
  · exact absurd (nI_le h hn) q
theorem pu_ge {j n : Nat} (hm : n < 2 ^ 31) (q : nI n ≤ nI j) : n ≤ j := by
  rcases Nat.lt_or_ge j n with h | h
  · exact absurd q (nI_ge h hm)
  · exact h
end PU2
section PU3
/-- the sign at place j of a text of e bytes; -1 behind it -/
def pu_cs (byt : Nat → Int32) (e j : Nat) : Int32 := if j < e then byt j &&& 255 else -1
def pu_bl (c : Int32) : Bool := decide (c = 10) || decide (c = 32)
def pu_le (c : Int32) : Bool := decide (97 ≤ c) && decide (c ≤ 122)
def pu_di (c : Int32) : Bool := decide (48 ≤ c) && decide (c ≤ 57)
/-- k is where a run of signs from j on ends -/
def pu_scan (P : Int32 → Bool) (s : Nat → Int32) (j e k : Nat) : Prop := j ≤ k ∧ k ≤ e ∧ (∀ a, j ≤ a → a < k → P (s a) = true) ∧ (k < e → P (s k) = false)
theorem pu_scan_uniq {P : Int32 → Bool} {s : Nat → Int32} {j e k k' : Nat} (h : pu_scan P s j e k) (h' : pu_scan P s j e k') : k = k' := by
  rcases Nat.lt_trichotomy k k' with h1 | h1 | h1
  · have a := h.2.2.2 (by have := h'.2.1; omega)
    have b := h'.2.2.1 k h.1 h1
    rw [a] at b; cases b
  · exact h1
  · have a := h'.2.2.2 (by have := h.2.1; omega)
    have b := h.2.2.1 k' h'.1 h1
    rw [a] at b; cases b
/-- the number that i digits from j on spell, a million at most -/
def pu_num (s : Nat → Int32) (j : Nat) : Nat → Int32
  | 0 => 0
  | i + 1 => if pu_num s j i * 10 + (s (j + i) - 48) < 1000000 then pu_num s j i * 10 + (s (j + i) - 48) else 1000000
theorem pu_and255 (x : Int32) : ∃ a : Nat, a < 256 ∧ x &&& 255 = nI a := by
  obtain ⟨a, h1, h2⟩ := pk_andE x (m := 255) 8 (by decide)
  exact ⟨a, h1, h2⟩
theorem pu_cs_in {byt : Nat → Int32} {e j : Nat} (h : j < e) : pu_cs byt e j = byt j &&& 255 := if_pos h
theorem pu_cs_out {byt : Nat → Int32} {e j : Nat} (h : ¬ j < e) : pu_cs byt e j = -1 := if_neg h
theorem pu_cs_nn {byt : Nat → Int32} {e j : Nat} (h : j < e) : ¬ pu_cs byt e j = -1 := by
  rw [pu_cs_in h]
  obtain ⟨a, h1, h2⟩ := pu_and255 (byt j)
  rw [h2]
  intro q
  have q2 := congrArg Int32.toInt q
  rw [nI_toInt (by omega)] at q2
  have e1 : (-1 : Int32).toInt = -1 := by decide
  omega
end PU3
section PU4
/-- where a run of signs from j on ends -/
def pu_sc (P : Int32 → Bool) (c : Nat → Int32) (e : Nat) : Nat → Nat → Nat
  | 0, j => j
  | f + 1, j => if j < e ∧ P (c j) = true then pu_sc P c e f (j + 1) else j
theorem pu_sc_scan {P : Int32 → Bool} {c : Nat → Int32} {e : Nat} : ∀ (f j : Nat), j ≤ e → e - j ≤ f → pu_scan P c j e (pu_sc P c e f j) := by
  intro f
  induction f with
  | zero =>
    intro j h1 h2
    exact ⟨Nat.le_refl _, h1, fun a h3 h4 => absurd h4 (by simp only [pu_sc]; omega), fun h => absurd h (by simp only [pu_sc]; omega)⟩
  | succ f ih =>
    intro j h1 h2
    by_cases h : j < e ∧ P (c j) = true
    · rw [pu_sc, if_pos h]
      obtain ⟨a1, a2, a3, a4⟩ := ih (j + 1) (by omega) (by omega)
      refine ⟨by omega, a2, fun a h3 h4 => ?_, a4⟩
      by_cases h5 : a = j
      · rw [h5]; exact h.2
      · exact a3 a (by omega) h4
    · rw [pu_sc, if_neg h]
      refine ⟨Nat.le_refl _, h1, fun a h3 h4 => absurd h4 (by omega), fun h3 => ?_⟩
      cases hp : P (c j)
      · rfl
      · exact absurd ⟨h3, hp⟩ h
theorem pu_sc_of {P : Int32 → Bool} {c : Nat → Int32} {e j k : Nat} (h : pu_scan P c j e k) : k = pu_sc P c e e j := pu_scan_uniq h (pu_sc_scan e j (Nat.le_trans h.1 h.2.1) (by omega))
/-- the token behind place j: where it begins, its sort (0 end, 1 word, 2 number, 3 ';', 4 other), where it ends, its number -/
def tk_s (c : Nat → Int32) (e j : Nat) : Nat := pu_sc pu_bl c e e j
def tk_k (c : Nat → Int32) (e j : Nat) : Int32 := if tk_s c e j < e then (if pu_le (c (tk_s c e j)) = true then 1 else if pu_di (c (tk_s c e j)) = true then 2 else if c (tk_s c e j) = 59 then 3 else 4) else 0
def tk_e (c : Nat → Int32) (e j : Nat) : Nat := if tk_s c e j < e then (if pu_le (c (tk_s c e j)) = true then pu_sc pu_le c e e (tk_s c e j) else if pu_di (c (tk_s c e j)) = true then pu_sc pu_di c e e (tk_s c e j) else tk_s c e j + 1) else tk_s c e j
def tk_n (c : Nat → Int32) (e j : Nat) : Int32 := pu_num c (tk_s c e j) (tk_e c e j - tk_s c e j)
theorem tk_s_in {c : Nat → Int32} {e j : Nat} (h : j ≤ e) : j ≤ tk_s c e j ∧ tk_s c e j ≤ e := by
  have := pu_sc_scan (P := pu_bl) (c := c) e j h (by omega)
  exact ⟨this.1, this.2.1⟩
theorem tk_e_in {c : Nat → Int32} {e j : Nat} (h : j ≤ e) : tk_s c e j ≤ tk_e c e j ∧ tk_e c e j ≤ e := by
  have h1 := tk_s_in (c := c) h
  unfold tk_e
  by_cases h2 : tk_s c e j < e
  · rw [if_pos h2]
    by_cases h3 : pu_le (c (tk_s c e j)) = true
    · rw [if_pos h3]
      have := pu_sc_scan (P := pu_le) (c := c) e (tk_s c e j) h1.2 (by omega)
      exact ⟨this.1, this.2.1⟩
    · rw [if_neg h3]
      by_cases h4 : pu_di (c (tk_s c e j)) = true
      · rw [if_pos h4]
        have := pu_sc_scan (P := pu_di) (c := c) e (tk_s c e j) h1.2 (by omega)
        exact ⟨this.1, this.2.1⟩
      · rw [if_neg h4]; omega
  · rw [if_neg h2]; omega
/-- a token that isn't the end takes a sign at least -/
theorem tk_go {c : Nat → Int32} {e j : Nat} (h : j ≤ e) (hk : ¬ tk_k c e j = 0) : tk_s c e j < tk_e c e j := by
  have h1 := tk_s_in (c := c) h
  have h2 : tk_s c e j < e := by
    rcases Nat.lt_or_ge (tk_s c e j) e with h2 | h2
    · exact h2
    · exact absurd (by unfold tk_k; rw [if_neg (by omega)]) hk
  unfold tk_e
  rw [if_pos h2]
  by_cases h3 : pu_le (c (tk_s c e j)) = true
  · rw [if_pos h3]
    have := pu_sc_scan (P := pu_le) (c := c) e (tk_s c e j) h1.2 (by omega)
    rcases Nat.lt_or_ge (tk_s c e j) (pu_sc pu_le c e e (tk_s c e j)) with h5 | h5
    · exact h5
    · have h6 : pu_sc pu_le c e e (tk_s c e j) = tk_s c e j := by have := this.1; omega
      have h7 := this.2.2.2 (by rw [h6]; exact h2)
      rw [h6, h3] at h7
      cases h7
  · rw [if_neg h3]
    by_cases h4 : pu_di (c (tk_s c e j)) = true
    · rw [if_pos h4]
      have := pu_sc_scan (P := pu_di) (c := c) e (tk_s c e j) h1.2 (by omega)
      rcases Nat.lt_or_ge (tk_s c e j) (pu_sc pu_di c e e (tk_s c e j)) with h5 | h5
      · exact h5
      · have h6 : pu_sc pu_di c e e (tk_s c e j) = tk_s c e j := by have := this.1; omega
        have h7 := this.2.2.2 (by rw [h6]; exact h2)
        rw [h6, h4] at h7
        cases h7
    · rw [if_neg h4]; omega
/-- the signs from a to b are text si -/
def pu_wd (c : Nat → Int32) (a b si : Nat) : Prop := b = a + pz_ln si ∧ ∀ i, i < pz_ln si → c (a + i) = pz_by si i
end PU4
section PU5
theorem pz_ln8 {i : Nat} (h : i < 14) : pz_ln i < 8 := by
  have : ∀ i, i < 14 → pz_ln i < 8 := by decide
  exact this i h
theorem pz_chr {si i : Nat} (h : si < 14) (hi : i < pz_ln si) : ((pz_by si i &&& 255).toUInt32 % 65536).toInt32 = pz_by si i := by
  have : ∀ si, si < 14 → ∀ i, i < pz_ln si → ((pz_by si i &&& 255).toUInt32 % 65536).toInt32 = pz_by si i := by decide +kernel
  exact this si h i hi
/-- the signs from a to b are text si, as a truth value -/
def pu_wb (c : Nat → Int32) (a b si : Nat) : Bool := decide (b = a + pz_ln si ∧ ∀ i, i < pz_ln si → c (a + i) = pz_by si i)
theorem pu_wb_iff {c : Nat → Int32} {a b si : Nat} : pu_wb c a b si = true ↔ pu_wd c a b si := by
  unfold pu_wb pu_wd
  exact decide_eq_true_iff
/-- is the token behind j the word si -/
def tk_w (c : Nat → Int32) (e j si : Nat) : Bool := decide (tk_k c e j = 1) && pu_wb c (tk_s c e j) (tk_e c e j) si
/-- which line's word the token behind j is -/
def tk_l (c : Nat → Int32) (e j : Nat) : Option Nat := (List.range 9).find? (fun i => tk_w c e j i)
/-- what the token behind j says for line li: a fault's number (0: none) and a value -/
def pl_say (c : Nat → Int32) (e j li : Nat) : Int32 × Int32 :=
  if pz_ln (pz_us.getD li 13) = 0 then (if tk_k c e j = 2 then (if tk_n c e j ≤ pz_mo li then (0, tk_n c e j) else (2, 0)) else (1, 0))
  else if tk_w c e j (pz_ot.getD li 13) = true then (0, 1) else if tk_w c e j (pz_us.getD li 13) = true then (0, 0) else (1, 0)
/-- the end of a line of slot sl whose saying is behind j: fault, its place; the next line's place, slot, value -/
def pl_end (c : Nat → Int32) (e j li sl : Nat) : Int32 × Nat × Nat × Nat × Int32 :=
  if (pl_say c e j li).1 = 0 then (if tk_k c e (tk_e c e j) = 3 then (0, 0, tk_e c e (tk_e c e j), sl, (pl_say c e j li).2) else (1, tk_s c e (tk_e c e j), 0, 0, 0))
  else ((pl_say c e j li).1, tk_s c e j, 0, 0, 0)
/-- a line behind j, of a text of which the slots 'to' are told -/
def pl_line (c : Nat → Int32) (e : Nat) (to : Nat → Int32) (j : Nat) : Int32 × Nat × Nat × Nat × Int32 :=
  match tk_l c e j with
  | none => (1, tk_s c e j, 0, 0, 0)
  | some w =>
    if w = 8 then
      (if tk_k c e (tk_e c e j) = 2 then
        (if tk_n c e (tk_e c e j) ≤ 3 then
          (if to (8 + (tk_n c e (tk_e c e j)).toNatClampNeg) = 0 then pl_end c e (tk_e c e (tk_e c e j)) 8 (8 + (tk_n c e (tk_e c e j)).toNatClampNeg) else (3, tk_s c e (tk_e c e j), 0, 0, 0))
        else (2, tk_s c e (tk_e c e j), 0, 0, 0))
      else (1, tk_s c e (tk_e c e j), 0, 0, 0))
    else if to w = 0 then pl_end c e (tk_e c e j) w w else (3, tk_s c e j, 0, 0, 0)
end PU5
section PU6
theorem pz_slN {i : Nat} (h : i < 9) : pz_sl i = nI i := by
  have : ∀ i, i < 9 → pz_sl i = nI i := by decide
  exact this i h
theorem pz_us14 {i : Nat} (h : i < 9) : pz_us.getD i 13 < 14 := by
  have : ∀ i, i < 9 → pz_us.getD i 13 < 14 := by decide
  exact this i h
theorem pz_ot14 {i : Nat} (h : i < 9) : pz_ot.getD i 13 < 14 := by
  have : ∀ i, i < 9 → pz_ot.getD i 13 < 14 := by decide
  exact this i h
theorem pl_find {p : Nat → Bool} : ∀ (n k : Nat), k < n → p k = true → (∀ a, a < k → p a = false) → (List.range n).find? p = some k := by
  intro n
  induction n with
  | zero => intro k h; omega
  | succ n ih =>
    intro k hk hp hn
    rw [List.range_succ, List.find?_append]
    rcases Nat.lt_or_ge k n with h | h
    · rw [ih k h hp hn]; rfl
    · have e : k = n := by omega
      subst e
      have h2 : (List.range k).find? p = none := by
        rw [List.find?_eq_none]
        intro x hx
        rw [hn x (List.mem_range.mp hx)]
        decide
      rw [h2]
      simp [hp]
theorem pl_find0 {p : Nat → Bool} {n : Nat} (hn : ∀ a, a < n → p a = false) : (List.range n).find? p = none := by
  rw [List.find?_eq_none]
  intro x hx
  rw [hn x (List.mem_range.mp hx)]
  decide
theorem tk_l_lt {c : Nat → Int32} {e j w : Nat} (h : tk_l c e j = some w) : w < 9 := List.mem_range.mp (List.mem_of_find?_eq_some h)
theorem tk_w_of {c : Nat → Int32} {e j si : Nat} (h : tk_k c e j = 1 ∧ pu_wd c (tk_s c e j) (tk_e c e j) si) : tk_w c e j si = true := by
  unfold tk_w
  rw [Bool.and_eq_true, decide_eq_true_iff, pu_wb_iff]
  exact h
theorem tk_w_no {c : Nat → Int32} {e j si : Nat} (h : ¬ (tk_k c e j = 1 ∧ pu_wd c (tk_s c e j) (tk_e c e j) si)) : tk_w c e j si = false := by
  cases hc : tk_w c e j si
  · rfl
  · unfold tk_w at hc
    rw [Bool.and_eq_true, decide_eq_true_iff, pu_wb_iff] at hc
    exact absurd hc h
end PU6
section PU7
theorem pu_n1 : ¬ (1 : Int32) = 0 := by decide
theorem pu_n2 : ¬ (2 : Int32) = 0 := by decide
theorem pu_n3 : ¬ (3 : Int32) = 0 := by decide
theorem pu_dig {c : Int32} (h : pu_di c = true) : ∃ d, d < 10 ∧ c = nI (48 + d) := by
  unfold pu_di at h
  rw [Bool.and_eq_true, decide_eq_true_iff, decide_eq_true_iff] at h
  have h0 : ¬ c < 0 := fun q => absurd (Int32.lt_of_le_of_lt h.1 q) (by decide)
  obtain ⟨m, hm, rfl⟩ := nI_of2 (M := 57) (n := 57) (by decide) h0 h.2
  have h1 : 48 ≤ m := (nI_leI (a := 48) (b := m) (by omega) (by omega)).mp h.1
  exact ⟨m - 48, by omega, by congr 1; omega⟩
theorem pu_million : (1000000 : Int32) = nI 1000000 := rfl
/-- the number that digits spell is a number up to a million -/
theorem pu_num_in {c : Nat → Int32} {j : Nat} : ∀ i, (∀ a, a < i → pu_di (c (j + a)) = true) → ∃ v, v ≤ 1000000 ∧ pu_num c j i = nI v := by
  intro i
  induction i with
  | zero => intro _; exact ⟨0, by omega, rfl⟩
  | succ i ih =>
    intro h
    obtain ⟨v, hv, hv2⟩ := ih (fun a ha => h a (by omega))
    obtain ⟨d, hd, hd2⟩ := pu_dig (h i (by omega))
    have e : pu_num c j i * 10 + (c (j + i) - 48) = nI (v * 10 + d) := by
      rw [hv2, hd2, show (48 : Int32) = nI 48 from rfl, show (10 : Int32) = nI 10 from rfl, pk_sub (by omega), pk_mul, nI_add]
      congr 1
      omega
    rw [pu_num, e]
    by_cases h2 : nI (v * 10 + d) < 1000000
    · rw [if_pos h2]
      rw [pu_million, nI_ltI (by omega) (by omega)] at h2
      exact ⟨v * 10 + d, by omega, rfl⟩
    · rw [if_neg h2]
      exact ⟨1000000, by omega, rfl⟩
theorem tk_n_in {c : Nat → Int32} {e j : Nat} (hj : j ≤ e) (hk : tk_k c e j = 2) : ∃ v, v ≤ 1000000 ∧ tk_n c e j = nI v := by
  have h1 := tk_s_in (c := c) hj
  have hse : tk_s c e j < e := by
    rcases Nat.lt_or_ge (tk_s c e j) e with h | h
    · exact h
    · unfold tk_k at hk
      rw [if_neg (by omega)] at hk
      exact absurd hk (by decide)
  unfold tk_k at hk
  rw [if_pos hse] at hk
  by_cases h2 : pu_le (c (tk_s c e j)) = true
  · rw [if_pos h2] at hk
    exact absurd hk (by decide)
  · rw [if_neg h2] at hk
    by_cases h3 : pu_di (c (tk_s c e j)) = true
    · have ee : tk_e c e j = pu_sc pu_di c e e (tk_s c e j) := by
        unfold tk_e
        rw [if_pos hse, if_neg h2, if_pos h3]
      have hs := pu_sc_scan (P := pu_di) (c := c) e (tk_s c e j) h1.2 (by omega)
      unfold tk_n
      refine pu_num_in _ (fun a ha => ?_)
      rw [ee] at ha
      exact hs.2.2.1 _ (by omega) (by omega)
    · rw [if_neg h3] at hk
      by_cases h4 : c (tk_s c e j) = 59
      · rw [if_pos h4] at hk; exact absurd hk (by decide)
      · rw [if_neg h4] at hk; exact absurd hk (by decide)
end PU7
section PU8
/-- a text's lines from place j on: fault, its place, how many lines, what they say -/
def pl_read (c : Nat → Int32) (e : Nat) : Nat → Nat → Nat → (Nat → Int32) → (Nat → Int32) → Int32 × Nat × Nat × (Nat → Int32)
  | 0, _, lines, dr, _ => (0, 0, lines, dr)
  | f + 1, j, lines, dr, to =>
    if tk_k c e j = 0 then (0, 0, lines, dr)
    else if (pl_line c e to j).1 = 0 then pl_read c e f (pl_line c e to j).2.2.1 (lines + 1) (upd dr (pl_line c e to j).2.2.2.1 (pl_line c e to j).2.2.2.2) (upd to (pl_line c e to j).2.2.2.1 1)
    else ((pl_line c e to j).1, (pl_line c e to j).2.1, 0, dr)
/-- a line that is well ends further on -/
theorem pl_line_go {c : Nat → Int32} {e j : Nat} {to : Nat → Int32} (hj : j ≤ e) (h : (pl_line c e to j).1 = 0) : j < (pl_line c e to j).2.2.1 ∧ (pl_line c e to j).2.2.1 ≤ e := by
  have hend : ∀ (x li sl : Nat), j ≤ x → x ≤ e → (pl_end c e x li sl).1 = 0 → j < (pl_end c e x li sl).2.2.1 ∧ (pl_end c e x li sl).2.2.1 ≤ e := by
    intro x li sl h1 h2 h3
    unfold pl_end at h3 ⊢
    by_cases a : (pl_say c e x li).1 = 0
    · rw [if_pos a] at h3 ⊢
      by_cases b : tk_k c e (tk_e c e x) = 3
      · rw [if_pos b]
        have q1 := tk_s_in (c := c) h2
        have q2 := tk_e_in (c := c) h2
        have q3 := tk_go (c := c) q2.2 (by rw [b]; decide)
        have q4 := tk_s_in (c := c) q2.2
        have q5 := tk_e_in (c := c) q2.2
        show j < tk_e c e (tk_e c e x) ∧ tk_e c e (tk_e c e x) ≤ e
        omega
      · rw [if_neg b] at h3
        exact absurd h3 pu_n1
    · rw [if_neg a] at h3
      exact absurd h3 a
  have q1 := tk_s_in (c := c) hj
  have q2 := tk_e_in (c := c) hj
  have q3 := tk_s_in (c := c) q2.2
  have q4 := tk_e_in (c := c) q2.2
  unfold pl_line at h ⊢
  split at h
  · exact absurd h pu_n1
  · rename_i w hw
    by_cases a : w = 8
    · rw [if_pos a] at h ⊢
      by_cases b : tk_k c e (tk_e c e j) = 2
      · rw [if_pos b] at h ⊢
        by_cases d : tk_n c e (tk_e c e j) ≤ 3
        · rw [if_pos d] at h ⊢
          by_cases f : to (8 + (tk_n c e (tk_e c e j)).toNatClampNeg) = 0
          · rw [if_pos f] at h ⊢
            exact hend _ _ _ (by omega) (by omega) h
          · rw [if_neg f] at h
            exact absurd h pu_n3
        · rw [if_neg d] at h
          exact absurd h pu_n2
      · rw [if_neg b] at h
        exact absurd h pu_n1
    · rw [if_neg a] at h ⊢
      by_cases b : to w = 0
      · rw [if_pos b] at h ⊢
        exact hend _ _ _ (by omega) (by omega) h
      · rw [if_neg b] at h
        exact absurd h pu_n3
/-- at the end of the text there is no token -/
theorem tk_k_end {c : Nat → Int32} {e : Nat} : tk_k c e e = 0 := by
  have h := tk_s_in (c := c) (Nat.le_refl e)
  unfold tk_k
  rw [if_neg (by omega)]
end PU8
section PU9
/-- may a grade have this weight -/
def pu_cw (gc gr w : Int32) : Int32 := if w < 0 then 0 else if gc ≤ gr then (if (0 : Int32) < w then 0 else 1) else (if (16 : Int32) < w then 0 else 1)
/-- powers of a weight -/
def pu_pw (w : Int32) : Nat → Int64
  | 0 => 1
  | i + 1 => pu_pw w i * w.toInt64
/-- Euclid's way, so many steps -/
def pu_cd : Nat → Int64 → Int64 → Int64
  | 0, a, _ => a
  | f + 1, a, b => if b = 0 then a else pu_cd f b (a - a / b * b)
/-- how likely kind k is by the first s slices, times a number -/
def pu_wg (pr we : Nat → Int32) (ins : Int32) (k : Nat) : Nat → Int64
  | 0 => (pr k).toInt64
  | s + 1 => pu_wg pr we ins k s * (we (4 * k + (pu_gi ins (nI s)).toNatClampNeg)).toInt64
/-- all kinds together -/
def pu_wa (pr we : Nat → Int32) (ins : Int32) (s : Nat) : Nat → Int64
  | 0 => 0
  | k + 1 => pu_wa pr we ins s k + pu_wg pr we ins k s
theorem pu_gi4 (ins s : Int32) : ∃ j, j < 4 ∧ pu_gi ins s = nI j := pk_andE _ (m := 3) 2 (by decide)
/-- odds of what is seen next: over kinds -/
def pu_on (oth : Nat → Int64) (we : Nat → Int32) (q : Nat) : Nat → Int64
  | 0 => 0
  | k + 1 => pu_on oth we q k + oth k * (we (4 * k + q)).toInt64
/-- odds of a kind as more is seen: over grades -/
def pu_of (od : Int64) (po : Nat → Int64) (fu : Nat → Int32) (k : Nat) : Nat → Int64
  | 0 => od
  | q + 1 => pu_of od po fu k q * po ((4 * k + q) * 9 + (fu q).toNatClampNeg)
end PU9
section PU10
def pu_w4 (w0 w1 w2 w3 : Int32) (q : Nat) : Int32 := if q = 0 then w0 else if q = 1 then w1 else if q = 2 then w2 else w3
/-- may there be such a kind -/
def pu_kok (gc p w0 w1 w2 w3 : Int32) : Prop := ¬ p < 1 ∧ ¬ (99 : Int32) < p ∧ ¬ pu_cw gc 0 w0 = 0 ∧ ¬ pu_cw gc 1 w1 = 0 ∧ ¬ pu_cw gc 2 w2 = 0 ∧ ¬ pu_cw gc 3 w3 = 0 ∧ w0 + w1 + w2 + w3 = 16
end PU10
section PU11
def pu_rg (acc o : Int64) (wo we : Nat → Int32) (k : Nat) : Nat → Int64
  | 0 => acc
  | q + 1 => pu_rg acc o wo we k q + o * (we (4 * k + q)).toInt64 * (wo q).toInt64
/-- what a slice is worth, times all odds and 16 -/
def pu_rs (od : Nat → Int64) (wo we : Nat → Int32) (G : Nat) : Nat → Int64
  | 0 => 0
  | k + 1 => pu_rg (pu_rs od wo we G k) (od k) wo we k G
def pu_s16 (x : Int32) : Int64 := (1 : Int64) <<< ((4 * x).toInt64 &&& 63)
def pu_step (q : Nat) : Nat := if q = 0 then 0 else if q = 1 then 81 else if q = 2 then 9 else 1
theorem pu_stepN {q : Nat} (h : q < 4) : pz_stp.getD q 0 = nI (pu_step q) := by
  have : ∀ q, q < 4 → pz_stp.getD q 0 = nI (pu_step q) := by decide
  exact this q h
theorem pu_step_le (q : Nat) : pu_step q ≤ 81 := by
  unfold pu_step
  split
  · omega
  · split
    · omega
    · split <;> omega
/-- the value of the next cut: over grades; os: odds of each, nx: what cutting on is worth behind it, b: slices behind -/
def pu_vc (cost : Int32) (wo inf : Nat → Int32) (os nx : Nat → Int64) (b : Int32) : Nat → Int64
  | 0 => 0
  | q + 1 => if os q * pu_s16 b ≤ 0 then pu_vc cost wo inf os nx b q else
      pu_vc cost wo inf os nx b q + (os q * pu_s16 b * (wo q - cost).toInt64 + (if nx q < os q * pu_s16 b * b.toInt64 * (inf (8 + q)).toInt64 then os q * pu_s16 b * b.toInt64 * (inf (8 + q)).toInt64 else nx q))
theorem pu_vc_congr {cost b : Int32} {wo inf : Nat → Int32} {os os' nx nx' : Nat → Int64} : ∀ G, (∀ q, q < G → os q = os' q) → (∀ q, q < G → nx q = nx' q) → pu_vc cost wo inf os nx b G = pu_vc cost wo inf os' nx' b G := by
  intro G
  induction G with
  | zero => intro _ _; rfl
  | succ G ih =>
    intro h1 h2
    rw [pu_vc, pu_vc, ih (fun q hq => h1 q (by omega)) (fun q hq => h2 q (by omega)), h1 G (by omega), h2 G (by omega)]
theorem pu_on_congr {o o' : Nat → Int64} {we : Nat → Int32} {q : Nat} : ∀ K, (∀ a, a < K → o a = o' a) → pu_on o we q K = pu_on o' we q K := by
  intro K
  induction K with
  | zero => intro _; rfl
  | succ K ih =>
    intro h
    rw [pu_on, pu_on, ih (fun a ha => h a (by omega)), h K (by omega)]
/-- how many more of each grade -/
def pu_fu (c0 c1 c2 c3 : Nat) (q : Nat) : Int32 := nI (if q = 0 then c0 else if q = 1 then c1 else if q = 2 then c2 else c3)
def pu_os (od po : Nat → Int64) (we : Nat → Int32) (K c0 c1 c2 c3 : Nat) (q : Nat) : Int64 := pu_on (fun a => pu_of (od a) po (pu_fu c0 c1 c2 c3) a 4) we q K
/-- what cutting on is worth with t slices left of 'left', when so many more of grades 1 to 3 were seen -/
def pu_V (cost : Int32) (wo inf we : Nat → Int32) (od po : Nat → Int64) (K G left : Nat) : Nat → Nat → Nat → Nat → Int64
  | 0, _, _, _ => 0
  | t + 1, c1, c2, c3 => pu_vc cost wo inf (pu_os od po we K (left - (t + 1) - c1 - c2 - c3) c1 c2 c3) (fun q => pu_V cost wo inf we od po K G left t (c1 + if q = 1 then 1 else 0) (c2 + if q = 2 then 1 else 0) (c3 + if q = 3 then 1 else 0)) (nI t) G
end PU11
section PU12
theorem pu_pl_inj {c1 c2 c3 i1 i2 i3 : Nat} (h2 : c2 ≤ 8) (h3 : c3 ≤ 8) (k2 : i2 ≤ 8) (k3 : i3 ≤ 8) (e : 81 * c1 + 9 * c2 + c3 = 81 * i1 + 9 * i2 + i3) : c1 = i1 ∧ c2 = i2 ∧ c3 = i3 := by
  have a1 : (81 * c1 + 9 * c2 + c3) / 81 = c1 := by omega
  have a2 : (81 * i1 + 9 * i2 + i3) / 81 = i1 := by omega
  have e1 : c1 = i1 := by rw [← a1, ← a2, e]
  subst e1
  have b1 : (9 * c2 + c3) / 9 = c2 := by omega
  have b2 : (9 * i2 + i3) / 9 = i2 := by omega
  have e2 : 9 * c2 + c3 = 9 * i2 + i3 := by omega
  have e3 : c2 = i2 := by rw [← b1, ← b2, e2]
  exact ⟨rfl, e3, by omega⟩
end PU12
