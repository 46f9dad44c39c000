section PU13
/-- a bid's place among those ranked, the last one first -/
def sa_ins (bc : Nat → Int32) (k : Nat) : List Nat → List Nat
  | [] => [k]
  | x :: xs => if bc x < bc k then x :: sa_ins bc k xs else k :: x :: xs
def sa_rl (bc : Nat → Int32) (ok : Nat → Bool) : Nat → List Nat
  | 0 => []
  | i + 1 => if ok i = true then sa_ins bc i (sa_rl bc ok i) else sa_rl bc ok i
def sa_out (ok : Nat → Bool) : Nat → Nat
  | 0 => 0
  | i + 1 => if ok i = true then sa_out ok i else sa_out ok i + 1
theorem sa_ins_len (bc : Nat → Int32) (k : Nat) : ∀ l : List Nat, (sa_ins bc k l).length = l.length + 1 := by
  intro l
  induction l with
  | nil => rfl
  | cons x xs ih =>
    unfold sa_ins
    split
    · simp [ih]
    · simp
/-- how many are moved, and what stands where behind it -/
theorem sa_ins_at (bc : Nat → Int32) (k : Nat) : ∀ l : List Nat, ∃ d, d ≤ l.length ∧ (∀ j, j < d → bc (l.getD j 0) < bc k) ∧ (d < l.length → ¬ bc (l.getD d 0) < bc k) ∧ ∀ j, (sa_ins bc k l).getD j 0 = if j < d then l.getD j 0 else if j = d then k else l.getD (j - 1) 0 := by
  intro l
  induction l with
  | nil =>
    refine ⟨0, by simp, fun j h => absurd h (by omega), fun h => absurd h (by simp), fun j => ?_⟩
    cases j with
    | zero => rfl
    | succ j => simp [sa_ins]
  | cons x xs ih =>
    obtain ⟨d, h1, h2, h3, h4⟩ := ih
    by_cases h : bc x < bc k
    · refine ⟨d + 1, by simp; omega, fun j hj => ?_, fun hd => ?_, fun j => ?_⟩
      · cases j with
        | zero => exact h
        | succ j => exact h2 j (by omega)
      · exact h3 (by simp at hd; omega)
      · unfold sa_ins
        rw [if_pos h]
        cases j with
        | zero => simp
        | succ j =>
          show (sa_ins bc k xs).getD j 0 = _
          rw [h4 j]
          by_cases a : j < d
          · rw [if_pos a, if_pos (c := j + 1 < d + 1) (by omega)]; rfl
          · rw [if_neg a, if_neg (c := j + 1 < d + 1) (by omega)]
            by_cases b : j = d
            · rw [if_pos b, if_pos (c := j + 1 = d + 1) (by omega)]
            · rw [if_neg b, if_neg (c := j + 1 = d + 1) (by omega)]
              obtain ⟨j, rfl⟩ : ∃ j', j = j' + 1 := ⟨j - 1, by omega⟩
              rfl
    · refine ⟨0, by omega, fun j hj => absurd hj (by omega), fun _ => h, fun j => ?_⟩
      unfold sa_ins
      rw [if_neg h, if_neg (by omega)]
      cases j with
      | zero => rfl
      | succ j => rw [if_neg (by omega)]; rfl
def sa_dep (inf : Nat → Int32) (c : Int32) : Int32 := c * inf 3 / 100
def sa_give (pa : Nat → Int32) (M : Nat) (c : Int32) (P : Nat → Int32) : Nat → Int32 := fun a => if a < M then P a + dv_f pa M c a else P a
def sa_pay (P : Nat → Int32) (m : Nat) (x : Int32) : Nat → Int32 := upd P m (P m - x)
/-- what the one at place f of n is asked -/
def sa_ask (inf co : Nat → Int32) (f n : Nat) : Int32 := if inf 0 = 1 then (if (if f + 1 < n then co (f + 1) else 1) < inf 4 then inf 4 else (if f + 1 < n then co (f + 1) else 1)) else co f
/-- the sale from the last r of n bids on: who wins, price, tax, purses, defaults -/
def sa_run (bb co inf pa : Nat → Int32) (M n : Nat) : Nat → (Nat → Int32) → Nat → Int32 × Int32 × Int32 × (Nat → Int32) × Nat
  | 0, P, df => (-1, 0, 0, P, df)
  | r + 1, P, df =>
    if inf 1 = 1 ∧ n - (r + 1) + 1 < n ∧ co (n - (r + 1)) = co (n - (r + 1) + 1) then (-1, 0, 0, P, df)
    else if sa_ask inf co (n - (r + 1)) n ≤ P (bb (n - (r + 1))).toNatClampNeg then
      (bb (n - (r + 1)), sa_ask inf co (n - (r + 1)) n, sa_ask inf co (n - (r + 1)) n * inf 5 / 100, sa_give pa M (sa_ask inf co (n - (r + 1)) n - sa_ask inf co (n - (r + 1)) n * inf 5 / 100) (sa_pay P (bb (n - (r + 1))).toNatClampNeg (sa_ask inf co (n - (r + 1)) n)), df)
    else if inf 2 = 1 then sa_run bb co inf pa M n r (sa_give pa M (sa_dep inf (co (n - (r + 1)))) (sa_pay P (bb (n - (r + 1))).toNatClampNeg (sa_dep inf (co (n - (r + 1)))))) (df + 1)
    else (-1, 0, 0, sa_give pa M (sa_dep inf (co (n - (r + 1)))) (sa_pay P (bb (n - (r + 1))).toNatClampNeg (sa_dep inf (co (n - (r + 1))))), df + 1)
end PU13
section PU14
/-- may a bid stay in the sale -/
def sa_ok (bd bc inf pa pu : Nat → Int32) (k : Nat) : Bool := decide (¬ bc k < inf 4) && (decide (¬ 0 < pa (bd k).toNatClampNeg) && decide (¬ pu (bd k).toNatClampNeg < sa_dep inf (bc k)))
theorem sa_rl_len (bc : Nat → Int32) (ok : Nat → Bool) : ∀ i, (sa_rl bc ok i).length ≤ i := by
  intro i
  induction i with
  | zero => exact Nat.le_refl _
  | succ i ih =>
    unfold sa_rl
    split
    · rw [sa_ins_len]; omega
    · omega
/-- arrays hold what a ranked list says -/
def sa_rep (bd bc bb co : Nat → Int32) (l : List Nat) : Prop := ∀ a, a < l.length → bb a = bd (l.getD (l.length - 1 - a) 0) ∧ co a = bc (l.getD (l.length - 1 - a) 0)
theorem sa_rep_ins {bd bc bb co bb2 co2 : Nat → Int32} {l : List Nat} {k n p : Nat} (hn : l.length = n) (hr : sa_rep bd bc bb co l) (hp : p ≤ n) (h1 : p = 0 ∨ ¬ co (p - 1) < bc k) (h2 : ∀ a, p ≤ a → a < n → co a < bc k) (h3 : ∀ a, a < p → co2 a = co a ∧ bb2 a = bb a) (h4 : co2 p = bc k) (h5 : bb2 p = bd k) (h6 : ∀ a, p < a → a ≤ n → co2 a = co (a - 1) ∧ bb2 a = bb (a - 1)) : sa_rep bd bc bb2 co2 (sa_ins bc k l) := by
  obtain ⟨d, d1, d2, d3, d4⟩ := sa_ins_at bc k l
  have hpd : p = n - d := by
    rcases Nat.lt_trichotomy p (n - d) with h | h | h
    · have a1 := h2 (n - 1 - d) (by omega) (by omega)
      rw [(hr (n - 1 - d) (by omega)).2, show l.length - 1 - (n - 1 - d) = d by omega] at a1
      exact absurd a1 (d3 (by omega))
    · exact h
    · rcases h1 with h1 | h1
      · omega
      · rw [(hr (p - 1) (by omega)).2] at h1
        exact absurd (d2 (l.length - 1 - (p - 1)) (by omega)) h1
  intro a ha
  rw [sa_ins_len] at ha ⊢
  rw [d4]
  rcases Nat.lt_trichotomy a p with h | h | h
  · rw [if_neg (by omega), if_neg (by omega), (h3 a h).1, (h3 a h).2, show l.length + 1 - 1 - a - 1 = l.length - 1 - a by omega]
    exact hr a (by omega)
  · rw [if_neg (by omega), if_pos (by omega), h, h4, h5]
    exact ⟨rfl, rfl⟩
  · rw [if_pos (by omega), (h6 a h (by omega)).1, (h6 a h (by omega)).2, show l.length + 1 - 1 - a = l.length - 1 - (a - 1) by omega]
    exact hr (a - 1) (by omega)
end PU14

section PU15
theorem sa_gp_congr {pa P P' : Nat → Int32} {M m : Nat} {c d : Int32} (hm : m < 8) (h : ∀ x, x < 8 → P x = P' x) : ∀ x, x < 8 → sa_give pa M c (sa_pay P m d) x = sa_give pa M c (sa_pay P' m d) x := by
  intro x hx
  have e : sa_pay P m d x = sa_pay P' m d x := by
    unfold sa_pay
    by_cases q : x = m
    · rw [q, pk_us, pk_us, h m hm]
    · rw [pk_un q, pk_un q, h x hx]
  unfold sa_give
  rw [e]
theorem sa_ins_in (bc : Nat → Int32) (k N : Nat) : ∀ l : List Nat, (∀ x ∈ l, x < N) → k < N → ∀ x ∈ sa_ins bc k l, x < N := by
  intro l
  induction l with
  | nil =>
    intro _ hk x hx
    have e : x = k := by simpa [sa_ins] using hx
    rw [e]; exact hk
  | cons y ys ih =>
    intro h hk x hx
    unfold sa_ins at hx
    split at hx
    · rcases List.mem_cons.mp hx with e | e
      · rw [e]; exact h y List.mem_cons_self
      · exact ih (fun z hz => h z (List.mem_cons_of_mem _ hz)) hk x e
    · rcases List.mem_cons.mp hx with e | e
      · rw [e]; exact hk
      · exact h x e
theorem sa_rl_mem (bc : Nat → Int32) (ok : Nat → Bool) : ∀ i, ∀ x ∈ sa_rl bc ok i, x < i := by
  intro i
  induction i with
  | zero => intro x hx; exact absurd hx (by simp [sa_rl])
  | succ i ih =>
    intro x hx
    unfold sa_rl at hx
    split at hx
    · exact sa_ins_in bc i (i + 1) _ (fun z hz => Nat.lt_succ_of_lt (ih z hz)) (Nat.lt_succ_self i) x hx
    · exact Nat.lt_succ_of_lt (ih x hx)
theorem sa_rl_in (bc : Nat → Int32) (ok : Nat → Bool) (b k : Nat) (h : k < (sa_rl bc ok b).length) : (sa_rl bc ok b).getD k 0 < b := by
  have e : (sa_rl bc ok b).getD k 0 = (sa_rl bc ok b)[k]'h := by simp [List.getD_eq_getElem?_getD, h]
  rw [e]
  exact sa_rl_mem bc ok b _ (List.getElem_mem h)
theorem pu_nn1 {v : Nat} (h : v < 2 ^ 31) : ¬ nI v = -1 := by
  intro e
  exact nI_pos h (by rw [e]; decide)
/-- how a sale ended: winner, price, tax, defaults, purses, parts -/
def sa_end (bb co inf pa pu : Nat → Int32) (M n : Nat) (r pc tx df : Int32) (pu2 pa2 : Nat → Int32) : Prop :=
  ∃ S, S = sa_run bb co inf pa M n n pu 0 ∧ r = S.1 ∧ pc = S.2.1 ∧ tx = S.2.2.1 ∧ (∀ x, x < 8 → pu2 x = S.2.2.2.1 x) ∧ df = nI S.2.2.2.2 ∧ ∀ x, x < 8 → pa2 x = if r = -1 then pa x else if x = r.toNatClampNeg then 16 else 0
end PU15
