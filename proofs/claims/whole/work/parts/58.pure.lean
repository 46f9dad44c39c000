section PU31
def rw_sc (t : Nat) : Int64 := lN (16 ^ t)
def rw_sum (cn : Nat → Nat) : Nat := cn 0 + cn 1 + cn 2 + cn 3
def rw_V (qw qr : Nat → Int32) (E : (Nat → Nat) → Int64) (G : Nat) : Nat → (Nat → Nat) → Int64
  | 0, _ => 0
  | t + 1, cn => rw_cut qw qr E (nI (t + 1)) (rw_sc (t + 1)) (fun q => if rw_V qw qr E G t (rw_inc cn q) ≤ rw_sell qr E (nI t) (nI q) (rw_sc t) (rw_inc cn q) then rw_sell qr E (nI t) (nI q) (rw_sc t) (rw_inc cn q) else rw_V qw qr E G t (rw_inc cn q)) cn G
def rw_RB (qw qr : Nat → Int32) (E : (Nat → Nat) → Int64) (G t : Nat) (cn : Nat → Nat) (la : Nat) : Int64 := if rw_V qw qr E G t cn ≤ rw_sell qr E (nI t) (nI la) (rw_sc t) cn then rw_sell qr E (nI t) (nI la) (rw_sc t) cn else rw_V qw qr E G t cn
theorem rw_cutc {qw qr : Nat → Int32} {E : (Nat → Nat) → Int64} {tl : Int32} {sc : Int64} {nx nx' : Nat → Int64} {cn : Nat → Nat} : ∀ g, (∀ q, q < g → 0 < E (rw_inc cn q) → (1 : Int32) < tl → nx q = nx' q) → rw_cut qw qr E tl sc nx cn g = rw_cut qw qr E tl sc nx' cn g := by
  intro g
  induction g with
  | zero => intro _; rfl
  | succ g ih =>
    intro h
    rw [rw_cut, rw_cut, ih (fun q hq => h q (by omega))]
    by_cases h1 : 0 < E (rw_inc cn g)
    · rw [if_pos h1, if_pos h1]
      by_cases h2 : (1 : Int32) < tl
      · rw [if_pos h2, if_pos h2, h g (by omega) h1 h2]
      · rw [if_neg h2, if_neg h2]
    · rw [if_neg h1, if_neg h1]
theorem rw_incc {cn cn' : Nat → Nat} (h : ∀ a, a < 4 → cn a = cn' a) (q : Nat) : ∀ a, a < 4 → rw_inc cn q a = rw_inc cn' q a := by
  intro a ha
  unfold rw_inc
  rw [h a ha]
theorem rw_cutE {qw qr : Nat → Int32} {E : (Nat → Nat) → Int64} {tl : Int32} {sc : Int64} {nx nx' : Nat → Int64} {cn cn' : Nat → Nat} (hE : ∀ cn cn' : Nat → Nat, (∀ a, a < 4 → cn a = cn' a) → E cn = E cn') (h : ∀ a, a < 4 → cn a = cn' a) : ∀ g, (∀ q, q < g → nx q = nx' q) → rw_cut qw qr E tl sc nx cn g = rw_cut qw qr E tl sc nx' cn' g := by
  intro g
  induction g with
  | zero => intro _; rw [rw_cut, rw_cut, hE cn cn' h]
  | succ g ih =>
    intro h2
    rw [rw_cut, rw_cut, ih (fun q hq => h2 q (by omega)), hE _ _ (rw_incc h g), h2 g (by omega)]
theorem rw_sellc {qr : Nat → Int32} {E : (Nat → Nat) → Int64} {tl la : Int32} {sc : Int64} {cn cn' : Nat → Nat} (hE : ∀ cn cn' : Nat → Nat, (∀ a, a < 4 → cn a = cn' a) → E cn = E cn') (h : ∀ a, a < 4 → cn a = cn' a) : rw_sell qr E tl la sc cn = rw_sell qr E tl la sc cn' := by
  unfold rw_sell
  rw [hE cn cn' h]
theorem rw_Vc {qw qr : Nat → Int32} {E : (Nat → Nat) → Int64} {G : Nat} (hE : ∀ cn cn' : Nat → Nat, (∀ a, a < 4 → cn a = cn' a) → E cn = E cn') : ∀ (t : Nat) (cn cn' : Nat → Nat), (∀ a, a < 4 → cn a = cn' a) → rw_V qw qr E G t cn = rw_V qw qr E G t cn' := by
  intro t
  induction t with
  | zero => intro _ _ _; rfl
  | succ t ih =>
    intro cn cn' h
    rw [rw_V, rw_V]
    refine rw_cutE hE h G (fun q _ => ?_)
    rw [ih _ _ (rw_incc h q), rw_sellc hE (rw_incc h q)]
theorem rw_RBc {qw qr : Nat → Int32} {E : (Nat → Nat) → Int64} {G t la : Nat} {cn cn' : Nat → Nat} (hE : ∀ cn cn' : Nat → Nat, (∀ a, a < 4 → cn a = cn' a) → E cn = E cn') (h : ∀ a, a < 4 → cn a = cn' a) : rw_RB qw qr E G t cn la = rw_RB qw qr E G t cn' la := by
  unfold rw_RB
  rw [rw_Vc hE t cn cn' h, rw_sellc hE h]
/-- the best values that are known -/
def rw_HB (qw qr : Nat → Int32) (E : (Nat → Nat) → Int64) (G L : Nat) (P : (Nat → Nat) → Nat → Prop) (B : Nat → Int64) : Prop := ∀ (cn : Nat → Nat) (la : Nat), P cn la → la < G → ¬ cn la = 0 → ¬ E cn = 0 → 1 ≤ rw_sum cn → rw_sum cn ≤ L - 1 → B (ix_b cn la) = rw_RB qw qr E G (L - rw_sum cn) cn la
def rw_bp (m n0 n1 n2 j : Nat) (cn : Nat → Nat) (la : Nat) : Prop := m + 1 ≤ rw_sum cn ∨ (rw_sum cn = m ∧ (cn 0 < n0 ∨ (cn 0 = n0 ∧ (cn 1 < n1 ∨ (cn 1 = n1 ∧ (cn 2 < n2 ∨ (cn 2 = n2 ∧ la < j)))))))
theorem rw_HB.mono {qw qr : Nat → Int32} {E : (Nat → Nat) → Int64} {G L : Nat} {P P' : (Nat → Nat) → Nat → Prop} {B : Nat → Int64} (h : rw_HB qw qr E G L P B) (hp : ∀ cn la, P' cn la → la < G → ¬ cn la = 0 → ¬ E cn = 0 → P cn la) : rw_HB qw qr E G L P' B := fun cn la h1 h2 h3 h4 h5 h6 => h cn la (hp cn la h1 h2 h3 h4) h2 h3 h4 h5 h6
theorem ix_inj {cn cn' : Nat → Nat} {la la' : Nat} (h1 : rw_sum cn ≤ 7) (h2 : rw_sum cn' ≤ 7) (h3 : la < 4) (h4 : la' < 4) (e : ix_b cn la = ix_b cn' la') : la = la' ∧ ∀ a, a < 4 → cn a = cn' a := by
  unfold ix_b at e
  unfold rw_sum at h1 h2
  have e1 : la = la' := by omega
  have e2 : cn 0 + 9 * cn 1 + 81 * cn 2 + 729 * cn 3 = cn' 0 + 9 * cn' 1 + 81 * cn' 2 + 729 * cn' 3 := by omega
  have e3 : cn 0 = cn' 0 := by omega
  have e4 : cn 1 = cn' 1 := by omega
  have e5 : cn 2 = cn' 2 := by omega
  have e6 : cn 3 = cn' 3 := by omega
  refine ⟨e1, fun a ha => ?_⟩
  rcases (show a = 0 ∨ a = 1 ∨ a = 2 ∨ a = 3 by omega) with rfl | rfl | rfl | rfl <;> assumption
theorem ix_lt {cn : Nat → Nat} {la : Nat} (h1 : rw_sum cn ≤ 7) (h3 : la < 4) : ix_b cn la < 32805 := by
  unfold ix_b
  unfold rw_sum at h1
  omega
/-- one more value -/
theorem rw_HB.put {qw qr : Nat → Int32} {E : (Nat → Nat) → Int64} {G L : Nat} (hE : ∀ cn cn' : Nat → Nat, (∀ a, a < 4 → cn a = cn' a) → E cn = E cn') {P P' : (Nat → Nat) → Nat → Prop} {B B' : Nat → Int64} {cs : Nat → Nat} {j : Nat} (hG : G ≤ 4) (hL : L ≤ 8) (hcs : rw_sum cs ≤ L - 1) (hj : j < G) (h : rw_HB qw qr E G L P B) (hp : ∀ cn la, P' cn la → P cn la ∨ (la = j ∧ ∀ a, a < 4 → cn a = cs a)) (h1 : B' (ix_b cs j) = rw_RB qw qr E G (L - rw_sum cs) cs j) (h2 : ∀ i, i ≠ ix_b cs j → B' i = B i) : rw_HB qw qr E G L P' B' := by
  intro cn la k1 k2 k3 k4 k5 k6
  by_cases e : ix_b cn la = ix_b cs j
  · obtain ⟨e1, e2⟩ := ix_inj (by omega) (by omega) (by omega) (by omega) e
    rw [e, h1, e1, rw_RBc hE e2]
    have e3 : rw_sum cs = rw_sum cn := by
      unfold rw_sum
      rw [e2 0 (by omega), e2 1 (by omega), e2 2 (by omega), e2 3 (by omega)]
    rw [e3]
  · rw [h2 _ e]
    rcases hp cn la k1 with h3 | h3
    · exact h cn la h3 k2 k3 k4 k5 k6
    · exact absurd (by rw [h3.1]; unfold ix_b; rw [h3.2 0 (by omega), h3.2 1 (by omega), h3.2 2 (by omega), h3.2 3 (by omega)]) e
theorem rw_sum_inc {cn : Nat → Nat} {q : Nat} (h : q < 4) : rw_sum (rw_inc cn q) = rw_sum cn + 1 := by
  unfold rw_sum rw_inc
  rcases (show q = 0 ∨ q = 1 ∨ q = 2 ∨ q = 3 by omega) with rfl | rfl | rfl | rfl
  · simp; omega
  · simp; omega
  · simp; omega
  · simp; omega
/-- the values that a face has, of the values that are known -/
theorem rw_Vof {qw qr : Nat → Int32} {E : (Nat → Nat) → Int64} {G L : Nat} {P : (Nat → Nat) → Nat → Prop} {B : Nat → Int64} {cn : Nat → Nat} {m : Nat} (hG : G ≤ 4) (hL : L ≤ 8) (hm : rw_sum cn = m) (hmL : m < L) (h : rw_HB qw qr E G L P B) (hp : ∀ cn la, rw_sum cn = m + 1 → P cn la) : rw_cut qw qr E (nI (L - m)) (rw_sc (L - m)) (fun q => B (ix_b (rw_inc cn q) q)) cn G = rw_V qw qr E G (L - m) cn := by
  obtain ⟨t, ht⟩ : ∃ t, L - m = t + 1 := ⟨L - m - 1, by omega⟩
  rw [ht, rw_V]
  refine rw_cutc G (fun q hq h1 h2 => ?_)
  have h3 : 1 < t + 1 := (nI_ltI (a := 1) (by omega) (by omega)).mp h2
  have e := rw_sum_inc (cn := cn) (q := q) (by omega)
  have h4 := h (rw_inc cn q) q (hp _ _ (by omega)) hq (by unfold rw_inc; rw [if_pos rfl]; omega) (fun e0 => by rw [e0] at h1; exact absurd h1 (by decide)) (by omega) (by omega)
  rw [h4, show L - rw_sum (rw_inc cn q) = t by omega]
  rfl
def rw_c4 (n0 n1 n2 n3 : Nat) : Nat → Nat := fun q => if q = 0 then n0 else if q = 1 then n1 else if q = 2 then n2 else n3
theorem rw_sc16 {t : Nat} : rw_sc t * 16 = rw_sc (t + 1) := by
  unfold rw_sc
  show lN (16 ^ t) * lN 16 = _
  rw [lN_mul, Nat.pow_succ]
end PU31
