/-! ===== pure words: what the methods compute ===== -/
section PU
/-- a share of c coins by parts p -/
def dv_q (pa : Nat → Int32) (c : Int32) (i : Nat) : Int32 := pa i * c / 16
/-- coins left behind the first i shares -/
def dv_o (pa : Nat → Int32) (c : Int32) : Nat → Int32
  | 0 => c
  | i + 1 => dv_o pa c i - dv_q pa c i
/-- coins left ahead of man i as one each are given -/
def dv_x (pa : Nat → Int32) (o : Int32) : Nat → Int32
  | 0 => o
  | i + 1 => if 0 < dv_x pa o i ∧ 0 < pa i then dv_x pa o i + (-1) else dv_x pa o i
/-- what man i gets of c coins among n men -/
def dv_f (pa : Nat → Int32) (n : Nat) (c : Int32) (i : Nat) : Int32 := if 0 < dv_x pa (dv_o pa c n) i ∧ 0 < pa i then dv_q pa c i + 1 else dv_q pa c i
theorem pu_nlt {x y : Int32} (h : ¬ x < y) : y ≤ x := Int32.not_lt.mp h
theorem pu_nle {x y : Int32} (h : ¬ x ≤ y) : y < x := Int32.not_le.mp h
theorem pu_updS {f : Nat → Int32} {i : Nat} (h : i < 2 ^ 31) {x : Int32} : upd f (nI i).toNatClampNeg x i = x := by rw [nI_clamp h]; exact pk_us
theorem pu_updN {f : Nat → Int32} {i a : Nat} (h : i < 2 ^ 31) (ha : a ≠ i) {x : Int32} : upd f (nI i).toNatClampNeg x a = f a := by rw [nI_clamp h]; exact pk_un ha
/-- the grade of slice s of what is told -/
def pu_gi (ins s : Int32) : Int32 := (ins >>> ((2 * s) &&& 31)) &&& 3
end PU
section PU2
theorem pu_in1 {x M : Int32} {N : Nat} (h0 : ¬ x < 0) (h : ¬ M ≤ x) (hM : M.toInt = N) : vp_in x N := by
  rw [vp_in_iff]
  rw [Int32.lt_iff_toInt_lt] at h0
  rw [Int32.le_iff_toInt_le, hM] at h
  have e0 : (0 : Int32).toInt = 0 := by decide
  omega
theorem pu_in2 {x M : Int32} {N : Nat} (h0 : ¬ x < 0) (h : x < M) (hM : M.toInt = N) : vp_in x N := pu_in1 h0 (Int32.not_le.mpr h) hM
/-- a number of things that is small -/
theorem pu_nn {n : Nat} (h : n < 2 ^ 31) : ¬ nI n < 0 := nI_pos h
theorem pu_inN {n : Nat} {M : Int32} {N : Nat} (hn : n < 2 ^ 31) (h : ¬ M ≤ nI n) (hM : M.toInt = N) : vp_in (nI n) N := pu_in1 (nI_pos hn) h hM
theorem pu_lt {j n : Nat} (hn : j < 2 ^ 31) (hm : n < 2 ^ 31) (q : ¬ nI n ≤ nI j) : j < n := by
  rcases Nat.lt_or_ge j n with h | h
  · exact h
  · exact absurd (nI_le h hn) q
theorem pu_ge {j n : Nat} (hm : n < 2 ^ 31) (q : nI n ≤ nI j) : n ≤ j := by
  rcases Nat.lt_or_ge j n with h | h
  · exact absurd q (nI_ge h hm)
  · exact h
end PU2
section PU3
/-- the sign at place j of a text of e bytes; -1 behind it -/
def pu_cs (byt : Nat → Int32) (e j : Nat) : Int32 := if j < e then byt j &&& 255 else -1
def pu_bl (c : Int32) : Bool := decide (c = 10) || decide (c = 32)
def pu_le (c : Int32) : Bool := decide (97 ≤ c) && decide (c ≤ 122)
def pu_di (c : Int32) : Bool := decide (48 ≤ c) && decide (c ≤ 57)
/-- k is where a run of signs from j on ends -/
def pu_scan (P : Int32 → Bool) (s : Nat → Int32) (j e k : Nat) : Prop := j ≤ k ∧ k ≤ e ∧ (∀ a, j ≤ a → a < k → P (s a) = true) ∧ (k < e → P (s k) = false)
theorem pu_scan_uniq {P : Int32 → Bool} {s : Nat → Int32} {j e k k' : Nat} (h : pu_scan P s j e k) (h' : pu_scan P s j e k') : k = k' := by
  rcases Nat.lt_trichotomy k k' with h1 | h1 | h1
  · have a := h.2.2.2 (by have := h'.2.1; omega)
    have b := h'.2.2.1 k h.1 h1
    rw [a] at b; cases b
  · exact h1
  · have a := h'.2.2.2 (by have := h.2.1; omega)
    have b := h.2.2.1 k' h'.1 h1
    rw [a] at b; cases b
/-- the number that i digits from j on spell, a million at most -/
def pu_num (s : Nat → Int32) (j : Nat) : Nat → Int32
  | 0 => 0
  | i + 1 => if pu_num s j i * 10 + (s (j + i) - 48) < 1000000 then pu_num s j i * 10 + (s (j + i) - 48) else 1000000
theorem pu_and255 (x : Int32) : ∃ a : Nat, a < 256 ∧ x &&& 255 = nI a := by
  obtain ⟨a, h1, h2⟩ := pk_andE x (m := 255) 8 (by decide)
  exact ⟨a, h1, h2⟩
theorem pu_cs_in {byt : Nat → Int32} {e j : Nat} (h : j < e) : pu_cs byt e j = byt j &&& 255 := if_pos h
theorem pu_cs_out {byt : Nat → Int32} {e j : Nat} (h : ¬ j < e) : pu_cs byt e j = -1 := if_neg h
theorem pu_cs_nn {byt : Nat → Int32} {e j : Nat} (h : j < e) : ¬ pu_cs byt e j = -1 := by
  rw [pu_cs_in h]
  obtain ⟨a, h1, h2⟩ := pu_and255 (byt j)
  rw [h2]
  intro q
  have q2 := congrArg Int32.toInt q
  rw [nI_toInt (by omega)] at q2
  have e1 : (-1 : Int32).toInt = -1 := by decide
  omega
end PU3
