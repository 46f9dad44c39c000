section PU13
/-- a bid's place among those ranked, the last one first -/
def sa_ins (bc : Nat → Int32) (k : Nat) : List Nat → List Nat
  | [] => [k]
  | x :: xs => if bc x < bc k then x :: sa_ins bc k xs else k :: x :: xs
def sa_rl (bc : Nat → Int32) (ok : Nat → Bool) : Nat → List Nat
  | 0 => []
  | i + 1 => if ok i = true then sa_ins bc i (sa_rl bc ok i) else sa_rl bc ok i
def sa_out (ok : Nat → Bool) : Nat → Nat
  | 0 => 0
  | i + 1 => if ok i = true then sa_out ok i else sa_out ok i + 1
theorem sa_ins_len (bc : Nat → Int32) (k : Nat) : ∀ l : List Nat, (sa_ins bc k l).length = l.length + 1 := by
  intro l
  induction l with
  | nil => rfl
  | cons x xs ih =>
    unfold sa_ins
    split
    · simp [ih]
    · simp
/-- how many are moved, and what stands where behind it -/
theorem sa_ins_at (bc : Nat → Int32) (k : Nat) : ∀ l : List Nat, ∃ d, d ≤ l.length ∧ (∀ j, j < d → bc (l.getD j 0) < bc k) ∧ (d < l.length → ¬ bc (l.getD d 0) < bc k) ∧ ∀ j, (sa_ins bc k l).getD j 0 = if j < d then l.getD j 0 else if j = d then k else l.getD (j - 1) 0 := by
  intro l
  induction l with
  | nil =>
    refine ⟨0, by simp, fun j h => absurd h (by omega), fun h => absurd h (by simp), fun j => ?_⟩
    cases j with
    | zero => rfl
    | succ j => simp [sa_ins]
  | cons x xs ih =>
    obtain ⟨d, h1, h2, h3, h4⟩ := ih
    by_cases h : bc x < bc k
    · refine ⟨d + 1, by simp; omega, fun j hj => ?_, fun hd => ?_, fun j => ?_⟩
      · cases j with
        | zero => exact h
        | succ j => exact h2 j (by omega)
      · exact h3 (by simp at hd; omega)
      · unfold sa_ins
        rw [if_pos h]
        cases j with
        | zero => simp
        | succ j =>
          show (sa_ins bc k xs).getD j 0 = _
          rw [h4 j]
          by_cases a : j < d
          · rw [if_pos a, if_pos (c := j + 1 < d + 1) (by omega)]; rfl
          · rw [if_neg a, if_neg (c := j + 1 < d + 1) (by omega)]
            by_cases b : j = d
            · rw [if_pos b, if_pos (c := j + 1 = d + 1) (by omega)]
            · rw [if_neg b, if_neg (c := j + 1 = d + 1) (by omega)]
              obtain ⟨j, rfl⟩ : ∃ j', j = j' + 1 := ⟨j - 1, by omega⟩
              rfl
    · refine ⟨0, by omega, fun j hj => absurd hj (by omega), fun _ => h, fun j => ?_⟩
      unfold sa_ins
      rw [if_neg h, if_neg (by omega)]
      cases j with
      | zero => rfl
      | succ j => rw [if_neg (by omega)]; rfl
def sa_dep (inf : Nat → Int32) (c : Int32) : Int32 := c * inf 3 / 100
def sa_give (pa : Nat → Int32) (M : Nat) (c : Int32) (P : Nat → Int32) : Nat → Int32 := fun a => if a < M then P a + dv_f pa M c a else P a
def sa_pay (P : Nat → Int32) (m : Nat) (x : Int32) : Nat → Int32 := upd P m (P m - x)
/-- what the one at place f of n is asked -/
def sa_ask (inf co : Nat → Int32) (f n : Nat) : Int32 := if inf 0 = 1 then (if (if f + 1 < n then co (f + 1) else 1) < inf 4 then inf 4 else (if f + 1 < n then co (f + 1) else 1)) else co f
/-- the sale from the last r of n bids on: who wins, price, tax, purses, defaults -/
def sa_run (bb co inf pa : Nat → Int32) (M n : Nat) : Nat → (Nat → Int32) → Nat → Int32 × Int32 × Int32 × (Nat → Int32) × Nat
  | 0, P, df => (-1, 0, 0, P, df)
  | r + 1, P, df =>
    if inf 1 = 1 ∧ n - (r + 1) + 1 < n ∧ co (n - (r + 1)) = co (n - (r + 1) + 1) then (-1, 0, 0, P, df)
    else if sa_ask inf co (n - (r + 1)) n ≤ P (bb (n - (r + 1))).toNatClampNeg then
      (bb (n - (r + 1)), sa_ask inf co (n - (r + 1)) n, sa_ask inf co (n - (r + 1)) n * inf 5 / 100, sa_give pa M (sa_ask inf co (n - (r + 1)) n - sa_ask inf co (n - (r + 1)) n * inf 5 / 100) (sa_pay P (bb (n - (r + 1))).toNatClampNeg (sa_ask inf co (n - (r + 1)) n)), df)
    else if inf 2 = 1 then sa_run bb co inf pa M n r (sa_give pa M (sa_dep inf (co (n - (r + 1)))) (sa_pay P (bb (n - (r + 1))).toNatClampNeg (sa_dep inf (co (n - (r + 1)))))) (df + 1)
    else (-1, 0, 0, sa_give pa M (sa_dep inf (co (n - (r + 1)))) (sa_pay P (bb (n - (r + 1))).toNatClampNeg (sa_dep inf (co (n - (r + 1))))), df + 1)
end PU13
