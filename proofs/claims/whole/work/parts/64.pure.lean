section PU50
/-- the words of the reference, one behind the other -/
def pz_wd : List Int32 := [112, 114, 105, 99, 101, 32, 116, 105, 101, 32, 100, 101, 102, 97, 117, 108, 116, 32, 100, 101, 112, 111, 115, 105, 116, 32, 114, 101, 115, 101, 114, 118, 101, 32, 116, 97, 120, 32, 99, 111, 115, 116, 32, 115, 104, 117, 116, 32, 111, 102, 102, 101, 114, 32, 102, 105, 114, 115, 116, 32, 115, 101, 99, 111, 110, 100, 32, 110, 111, 110, 101, 32, 110, 101, 120, 116, 32]
def wo_off (k : Nat) : Nat := [0, 6, 10, 18, 26, 34, 38, 43, 48, 54, 60, 67, 72, 77].getD k 77
theorem wo_f1 {k i : Nat} (hk : k < 13) (hi : i < pz_ln k) : pz_wd.getD (wo_off k + i) 0 = pz_by k i ∧ ¬ pz_by k i = 32 := by
  have : ∀ k, k < 13 → ∀ i, i < pz_ln k → pz_wd.getD (wo_off k + i) 0 = pz_by k i ∧ ¬ pz_by k i = 32 := by decide
  exact this k hk i hi
theorem wo_f2 {k : Nat} (hk : k < 13) : pz_wd.getD (wo_off k + pz_ln k) 0 = 32 ∧ wo_off (k + 1) = wo_off k + pz_ln k + 1 ∧ wo_off k + pz_ln k < 77 := by
  have : ∀ k, k < 13 → pz_wd.getD (wo_off k + pz_ln k) 0 = 32 ∧ wo_off (k + 1) = wo_off k + pz_ln k + 1 ∧ wo_off k + pz_ln k < 77 := by decide
  exact this k hk
/-- a text's signs -/
def rt_c (qT : Nat → Int32) (e j : Nat) : Int32 := if j < e then qT j else -1
/-- which word stands there; -1: none -/
def rt_w0 (c : Nat → Int32) (a b : Nat) : Int32 := match (List.range 13).find? (fun k => pu_wb c a b k) with
  | some k => nI k
  | none => -1
theorem rt_w0_some {c : Nat → Int32} {a b k : Nat} (hk : k < 13) (h : pu_wb c a b k = true) (h2 : ∀ x, x < k → pu_wb c a b x = false) : rt_w0 c a b = nI k := by
  unfold rt_w0
  rw [pl_find 13 k hk h h2]
theorem rt_w0_none {c : Nat → Int32} {a b : Nat} (h2 : ∀ x, x < 13 → pu_wb c a b x = false) : rt_w0 c a b = -1 := by
  unfold rt_w0
  rw [pl_find0 h2]
/-- the number of the reference -/
def rt_n0 (c : Nat → Int32) (s : Nat) : Nat → Int32
  | 0 => 0
  | i + 1 => if (999999 : Int32) < rt_n0 c s i then rt_n0 c s i else 10 * rt_n0 c s i + c (s + i) - 48
def rt_w (c : Nat → Int32) (e j : Nat) : Int32 := rt_w0 c (tk_s c e j) (tk_e c e j)
def rt_n (c : Nat → Int32) (e j : Nat) : Int32 := rt_n0 c (tk_s c e j) (tk_e c e j - tk_s c e j)
def rt_k (c : Nat → Int32) (e j : Nat) : Int32 := if tk_k c e j = 1 then (if rt_w c e j < 0 then 4 else 1) else tk_k c e j
def rt_h (c : Nat → Int32) (e j : Nat) (wh : Int32) : Int32 := if tk_k c e j = 1 then rt_w c e j else if tk_k c e j = 2 then rt_n c e j else wh
end PU50
