/-! ===== pure words: what the methods compute ===== -/
section PU
/-- a share of c coins by parts p -/
def dv_q (pa : Nat → Int32) (c : Int32) (i : Nat) : Int32 := pa i * c / 16
/-- coins left behind the first i shares -/
def dv_o (pa : Nat → Int32) (c : Int32) : Nat → Int32
  | 0 => c
  | i + 1 => dv_o pa c i - dv_q pa c i
/-- coins left ahead of man i as one each are given -/
def dv_x (pa : Nat → Int32) (o : Int32) : Nat → Int32
  | 0 => o
  | i + 1 => if 0 < dv_x pa o i ∧ 0 < pa i then dv_x pa o i + (-1) else dv_x pa o i
/-- what man i gets of c coins among n men -/
def dv_f (pa : Nat → Int32) (n : Nat) (c : Int32) (i : Nat) : Int32 := if 0 < dv_x pa (dv_o pa c n) i ∧ 0 < pa i then dv_q pa c i + 1 else dv_q pa c i
theorem pu_nlt {x y : Int32} (h : ¬ x < y) : y ≤ x := Int32.not_lt.mp h
theorem pu_nle {x y : Int32} (h : ¬ x ≤ y) : y < x := Int32.not_le.mp h
theorem pu_updS {f : Nat → Int32} {i : Nat} (h : i < 2 ^ 31) {x : Int32} : upd f (nI i).toNatClampNeg x i = x := by rw [nI_clamp h]; exact pk_us
theorem pu_updN {f : Nat → Int32} {i a : Nat} (h : i < 2 ^ 31) (ha : a ≠ i) {x : Int32} : upd f (nI i).toNatClampNeg x a = f a := by rw [nI_clamp h]; exact pk_un ha
/-- the grade of slice s of what is told -/
def pu_gi (ins s : Int32) : Int32 := (ins >>> ((2 * s) &&& 31)) &&& 3
end PU
