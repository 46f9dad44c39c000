section PZQ12
variable (l : Launch) (g : pz_G) (ad rd : Nat → Nat)
theorem nI_neg {k : Nat} (h : k < 2 ^ 30) : (-(nI k)).toInt64 = -(lN k) := by
  apply Int64.toInt_inj.mp
  rw [Int32.toInt_toInt64, Int64.toInt_neg, Int32.toInt_neg, nI_toInt (by omega), pk_lT (by omega)]
  rw [Int.bmod_eq_of_le (by omega) (by omega), Int.bmod_eq_of_le (by omega) (by omega)]
theorem nI_subl {a b : Nat} (ha : a < 2 ^ 30) (hb : b < 2 ^ 30) : (nI a - nI b).toInt64 = lN a - lN b := by
  rcases Nat.le_total b a with h | h
  · rw [pk_sub h, nI_l (by omega), lN_sub h]
  · have e : nI a - nI b = -(nI (b - a)) := by
      rw [← pk_sub h, Int32.neg_sub]
    rw [e, nI_neg (by omega), ← lN_sub h, Int64.neg_sub]
theorem s16_N {t : Nat} (h : t ≤ 8) : pu_s16 (nI t) = lN (16 ^ t) := by
  rcases (show t = 0 ∨ t = 1 ∨ t = 2 ∨ t = 3 ∨ t = 4 ∨ t = 5 ∨ t = 6 ∨ t = 7 ∨ t = 8 by omega) with rfl | rfl | rfl | rfl | rfl | rfl | rfl | rfl | rfl <;> decide
theorem rw_pp (c : Int64) (w : Int32) : ∀ i, rw_p c w.toInt64 i = c * pu_pw w i := by
  intro i
  induction i with
  | zero => rw [rw_p, pu_pw, Int64.mul_one]
  | succ i ih => rw [rw_p, pu_pw, ih, Int64.mul_assoc]
theorem rw_k4 (c : Int64) (qg : Nat → Int32) (k : Nat) (cn : Nat → Nat) : rw_k c qg k cn 4 = c * pu_pw (qg (4 * k)) (cn 0) * pu_pw (qg (4 * k + 1)) (cn 1) * pu_pw (qg (4 * k + 2)) (cn 2) * pu_pw (qg (4 * k + 3)) (cn 3) := by
  show rw_p (rw_p (rw_p (rw_p c (qg (4 * k)).toInt64 (cn 0)) (qg (4 * k + 1)).toInt64 (cn 1)) (qg (4 * k + 2)).toInt64 (cn 2)) (qg (4 * k + 3)).toInt64 (cn 3) = _
  rw [rw_pp, rw_pp, rw_pp, rw_pp]
theorem rw_kinc (c : Int64) (qg : Nat → Int32) (k : Nat) (cn : Nat → Nat) {q : Nat} (hq : q < 4) : rw_k c qg k (rw_inc cn q) 4 = rw_k c qg k cn 4 * (qg (4 * k + q)).toInt64 := by
  rw [rw_k4, rw_k4]
  have e0 : ∀ w i, pu_pw w (i + 1) = pu_pw w i * w.toInt64 := fun _ _ => rfl
  rcases (show q = 0 ∨ q = 1 ∨ q = 2 ∨ q = 3 by omega) with rfl | rfl | rfl | rfl
  · show c * pu_pw (qg (4 * k)) (cn 0 + 1) * pu_pw (qg (4 * k + 1)) (cn 1) * pu_pw (qg (4 * k + 2)) (cn 2) * pu_pw (qg (4 * k + 3)) (cn 3) = _ * (qg (4 * k)).toInt64
    rw [e0]; grind
  · show c * pu_pw (qg (4 * k)) (cn 0) * pu_pw (qg (4 * k + 1)) (cn 1 + 1) * pu_pw (qg (4 * k + 2)) (cn 2) * pu_pw (qg (4 * k + 3)) (cn 3) = _
    rw [e0]; grind
  · show c * pu_pw (qg (4 * k)) (cn 0) * pu_pw (qg (4 * k + 1)) (cn 1) * pu_pw (qg (4 * k + 2)) (cn 2 + 1) * pu_pw (qg (4 * k + 3)) (cn 3) = _
    rw [e0]; grind
  · show c * pu_pw (qg (4 * k)) (cn 0) * pu_pw (qg (4 * k + 1)) (cn 1) * pu_pw (qg (4 * k + 2)) (cn 2) * pu_pw (qg (4 * k + 3)) (cn 3 + 1) = _
    rw [e0]; grind
theorem pw_N {v : Nat} (hv : v ≤ 16) : ∀ i, ∃ x, x ≤ 16 ^ i ∧ pu_pw (nI v) i = lN x := by
  intro i
  induction i with
  | zero => exact ⟨1, by omega, rfl⟩
  | succ i ih =>
    obtain ⟨x, h1, h2⟩ := ih
    refine ⟨x * v, ?_, by rw [pu_pw, h2, nI_l (by omega), lN_mul]⟩
    rw [Nat.pow_succ]
    exact Nat.mul_le_mul h1 hv
theorem rl_w16 {w : Nat → Nat} (h : w 0 + w 1 + w 2 + w 3 = 16) {q : Nat} (hq : q < 4) : w q ≤ 16 := by
  rcases (show q = 0 ∨ q = 1 ∨ q = 2 ∨ q = 3 by omega) with rfl | rfl | rfl | rfl <;> omega
/-- the odds of a kind further on are a number -/
theorem rk_N {G K : Nat} {pr we qp qg : Nat → Int32} {po : Nat → Int64} (hK : rl_K G K pr we qp qg po) {k : Nat} (hk : k < K) {o X : Nat} (ho : o ≤ X) (cn : Nat → Nat) : ∃ x, x ≤ X * 16 ^ rw_sum cn ∧ rw_k (lN o) qg k cn 4 = lN x := by
  obtain ⟨a1, _, a3, ⟨wt, a4, a5⟩, a6⟩ := hK.2 k hk
  obtain ⟨x0, b0, c0⟩ := pw_N (rl_w16 a5 (q := 0) (by omega)) (cn 0)
  obtain ⟨x1, b1, c1⟩ := pw_N (rl_w16 a5 (q := 1) (by omega)) (cn 1)
  obtain ⟨x2, b2, c2⟩ := pw_N (rl_w16 a5 (q := 2) (by omega)) (cn 2)
  obtain ⟨x3, b3, c3⟩ := pw_N (rl_w16 a5 (q := 3) (by omega)) (cn 3)
  have e : ∀ q, q < 4 → qg (4 * k + q) = nI (wt q) := fun q hq => by rw [← a3 q hq, (a4 q hq).1]
  refine ⟨o * x0 * x1 * x2 * x3, ?_, ?_⟩
  · have h1 := Nat.mul_le_mul (Nat.mul_le_mul (Nat.mul_le_mul (Nat.mul_le_mul ho b0) b1) b2) b3
    refine Nat.le_trans h1 ?_
    rw [rw_sum, Nat.pow_add, Nat.pow_add, Nat.pow_add, Nat.mul_assoc, Nat.mul_assoc, Nat.mul_assoc, Nat.mul_assoc, Nat.mul_assoc]
    exact Nat.le_refl _
  · rw [rw_k4, show qg (4 * k) = nI (wt 0) from e 0 (by omega), e 1 (by omega), e 2 (by omega), e 3 (by omega), c0, c1, c2, c3, lN_mul, lN_mul, lN_mul, lN_mul]
theorem rE_N {G K : Nat} {pr we qp qg : Nat → Int32} {po : Nat → Int64} (hK : rl_K G K pr we qp qg po) {od : Nat → Int64} {X : Nat} (ho : ∀ a, a < K → ∃ v, v ≤ X ∧ od a = lN v) (cn : Nat → Nat) : ∀ k, k ≤ K → ∃ x, x ≤ k * (X * 16 ^ rw_sum cn) ∧ rw_E od qg cn k = lN x := by
  intro k
  induction k with
  | zero => intro _; exact ⟨0, Nat.zero_le _, rfl⟩
  | succ k ih =>
    intro h
    obtain ⟨x, x1, x2⟩ := ih (by omega)
    obtain ⟨v, v1, v2⟩ := ho k (by omega)
    obtain ⟨y, y1, y2⟩ := rk_N hK (show k < K by omega) v1 cn
    refine ⟨x + y, ?_, by rw [rw_E, x2, v2, y2, lN_add]⟩
    rw [Nat.add_mul, Nat.one_mul]
    omega
/-- what is seen next: class and reference -/
theorem os_E {G K : Nat} {pr we qp qg : Nat → Int32} {po : Nat → Int64} (hK : rl_K G K pr we qp qg po) {od : Nat → Int64} {cn : Nat → Nat} {q : Nat} (hq : q < 4) : ∀ k, k ≤ K → pu_on (fun a => rw_k (od a) qg a cn 4) we q k = rw_E od qg (rw_inc cn q) k := by
  intro k
  induction k with
  | zero => intro _; rfl
  | succ k ih =>
    intro h
    rw [pu_on, rw_E, ih (by omega), rw_kinc _ _ _ _ hq, (hK.2 k (by omega)).2.2.1 q hq]
theorem of_rk {G K : Nat} {pr we qp qg : Nat → Int32} {po : Nat → Int64} (hK : rl_K G K pr we qp qg po) {k : Nat} (hk : k < K) {o : Int64} {c0 c1 c2 c3 : Nat} {cn : Nat → Nat} (h8 : c0 ≤ 8 ∧ c1 ≤ 8 ∧ c2 ≤ 8 ∧ c3 ≤ 8) (hc : cn 0 = c0 ∧ cn 1 = c1 ∧ cn 2 = c2 ∧ cn 3 = c3) : pu_of o po (pu_fu c0 c1 c2 c3) k 4 = rw_k o qg k cn 4 := by
  obtain ⟨a1, _, a3, _, a6⟩ := hK.2 k hk
  rw [rw_k4, hc.1, hc.2.1, hc.2.2.1, hc.2.2.2]
  show o * po ((4 * k + 0) * 9 + (nI c0).toNatClampNeg) * po ((4 * k + 1) * 9 + (nI c1).toNatClampNeg) * po ((4 * k + 2) * 9 + (nI c2).toNatClampNeg) * po ((4 * k + 3) * 9 + (nI c3).toNatClampNeg) = _
  rw [nI_clamp (by omega), nI_clamp (by omega), nI_clamp (by omega), nI_clamp (by omega), a6 0 c0 (by omega) (by omega), a6 1 c1 (by omega) (by omega), a6 2 c2 (by omega) (by omega), a6 3 c3 (by omega) (by omega), a3 0 (by omega), a3 1 (by omega), a3 2 (by omega), a3 3 (by omega)]
  rfl
def be_s (f : Nat → Int64) : Nat → Int64
  | 0 => 0
  | q + 1 => be_s f q + f q
theorem be_w {G K : Nat} {pr we qp qg : Nat → Int32} {po : Nat → Int64} (hK : rl_K G K pr we qp qg po) (hG : G ≤ 4) {k : Nat} (hk : k < K) : be_s (fun q => (qg (4 * k + q)).toInt64) G = 16 := by
  obtain ⟨a1, _, a3, ⟨wt, a4, a5⟩, a6⟩ := hK.2 k hk
  have e : ∀ q, q < 4 → (qg (4 * k + q)).toInt64 = lN (wt q) := fun q hq => by
    have := rl_w16 a5 hq
    rw [← a3 q hq, (a4 q hq).1, nI_l (by omega)]
  have z : ∀ q, q < 4 → G ≤ q → wt q = 0 := fun q hq h => (a4 q hq).2 h
  have e16 : (16 : Int64) = lN 16 := rfl
  rcases (show G = 0 ∨ G = 1 ∨ G = 2 ∨ G = 3 ∨ G = 4 by omega) with rfl | rfl | rfl | rfl | rfl
  · have := z 0; have := z 1; have := z 2; have := z 3; omega
  · have := z 1; have := z 2; have := z 3
    show 0 + (qg (4 * k + 0)).toInt64 = 16
    rw [e 0 (by omega), e16, Int64.zero_add, show wt 0 = 16 by omega]
  · have := z 2; have := z 3
    show 0 + (qg (4 * k + 0)).toInt64 + (qg (4 * k + 1)).toInt64 = 16
    rw [e 0 (by omega), e 1 (by omega), e16, Int64.zero_add, lN_add, show wt 0 + wt 1 = 16 by omega]
  · have := z 3
    show 0 + (qg (4 * k + 0)).toInt64 + (qg (4 * k + 1)).toInt64 + (qg (4 * k + 2)).toInt64 = 16
    rw [e 0 (by omega), e 1 (by omega), e 2 (by omega), e16, Int64.zero_add, lN_add, lN_add, show wt 0 + wt 1 + wt 2 = 16 by omega]
  · show 0 + (qg (4 * k + 0)).toInt64 + (qg (4 * k + 1)).toInt64 + (qg (4 * k + 2)).toInt64 + (qg (4 * k + 3)).toInt64 = 16
    rw [e 0 (by omega), e 1 (by omega), e 2 (by omega), e 3 (by omega), e16, Int64.zero_add, lN_add, lN_add, lN_add, show wt 0 + wt 1 + wt 2 + wt 3 = 16 by omega]
theorem be_lin {f h : Nat → Int64} {c : Int64} : ∀ G, be_s (fun q => f q + c * h q) G = be_s f G + c * be_s h G := by
  intro G
  induction G with
  | zero => rw [be_s, be_s, be_s]; grind
  | succ G ih => rw [be_s, be_s, be_s, ih]; grind
theorem be_cg {f h : Nat → Int64} : ∀ G, (∀ q, q < G → f q = h q) → be_s f G = be_s h G := by
  intro G
  induction G with
  | zero => intro _; rfl
  | succ G ih => intro e; rw [be_s, be_s, ih (fun q hq => e q (by omega)), e G (by omega)]
theorem be_E {G K : Nat} {pr we qp qg : Nat → Int32} {po : Nat → Int64} (hK : rl_K G K pr we qp qg po) (hG : G ≤ 4) {od : Nat → Int64} {cn : Nat → Nat} : ∀ k, k ≤ K → be_s (fun q => rw_E od qg (rw_inc cn q) k) G = 16 * rw_E od qg cn k := by
  intro k
  induction k with
  | zero =>
    intro _
    have : ∀ G, be_s (fun _ => (0 : Int64)) G = 0 := by
      intro G
      induction G with
      | zero => rfl
      | succ G ih => rw [be_s, ih, Int64.add_zero]
    rw [show (fun q => rw_E od qg (rw_inc cn q) 0) = (fun _ => (0 : Int64)) from rfl, this, rw_E, Int64.mul_zero]
  | succ k ih =>
    intro h
    rw [be_cg G (h := fun q => rw_E od qg (rw_inc cn q) k + rw_k (od k) qg k cn 4 * (qg (4 * k + q)).toInt64) (fun q hq => by rw [rw_E, rw_kinc _ _ _ _ (show q < 4 by omega)]), be_lin, ih (by omega), be_w hK hG (show k < K by omega), rw_E]
    grind
theorem be_max (a b : Int64) : (if a < b then b else a) = if a ≤ b then b else a := by
  by_cases h : a < b
  · rw [if_pos h, if_pos (Int64.le_of_lt h)]
  · rw [if_neg h]
    by_cases h2 : a ≤ b
    · rw [if_pos h2]
      exact Int64.le_antisymm h2 (Int64.not_lt.mp h)
    · rw [if_neg h2]
theorem be_alg (A B s x z c p E sc M : Int64) (ih : A + c * p * s = B + c * E * sc) : A + (x * p * (z - c) + M) + c * p * (s + x) = B + (z * x * p + M) + c * E * sc := by grind
/-- one face: the class's sum and the reference's -/
theorem be_cut {cost t c6 : Nat} {wo inf qw qr : Nat → Int32} {E : (Nat → Nat) → Int64} {os nx : Nat → Int64} {cn : Nat → Nat} {G : Nat} (ht : t ≤ 7) (hc6 : c6 ≤ 999) (e6 : inf 6 = nI c6) (hi : ∀ j, j < 12 → inf j = qr j) (hG4 : G ≤ 4) (hw : ∀ j, j < 4 → wo j = qw j ∧ rl_in (wo j) 999) (hos : ∀ q, q < G → os q = E (rw_inc cn q) ∧ ∃ x, x * 16 ^ t < 2 ^ 63 ∧ os q = lN x) (h0 : t = 0 → ∀ q, q < G → nx q = 0) :
    ∀ q, q ≤ G → pu_vc (inf 6) wo inf os nx (nI t) q + lN c6 * lN (16 ^ t) * be_s os q = rw_cut qw qr E (nI (t + 1)) (rw_sc (t + 1)) (fun q => if nx q ≤ rw_sell qr E (nI t) (nI q) (rw_sc t) (rw_inc cn q) then rw_sell qr E (nI t) (nI q) (rw_sc t) (rw_inc cn q) else nx q) cn q + lN c6 * E cn * rw_sc (t + 1) := by
  intro q
  have e16 : rw_sc (t + 1) / 16 = lN (16 ^ t) := by
    have hp := p16_8 (show t + 1 ≤ 8 by omega)
    rw [rw_sc, show (16 : Int64) = lN 16 from rfl, pk_lDiv (by omega) (by omega) (by omega), Nat.pow_succ, Nat.mul_div_cancel _ (by omega)]
  induction q with
  | zero =>
    intro _
    rw [pu_vc, be_s, rw_cut, ← hi 6 (by omega), e6, nI_neg (by omega)]
    grind
  | succ q ih =>
    intro h
    have ih := ih (by omega)
    obtain ⟨o1, x, o2, o3⟩ := hos q (by omega)
    obtain ⟨z, hz, ez⟩ := (hw q (by omega)).2
    have ez' : qw q = nI z := by rw [← (hw q (by omega)).1, ez]
    have hxt : lN x * pu_s16 (nI t) = lN (x * 16 ^ t) := by rw [s16_N (by omega), lN_mul]
    have hpos : 0 < 16 ^ t := Nat.pow_pos (by omega)
    have hx63 : x < 2 ^ 63 := Nat.lt_of_le_of_lt (Nat.le_mul_of_pos_right x hpos) o2
    rw [pu_vc, rw_cut, be_s, o3, ← o1, o3]
    by_cases hx : x = 0
    · subst hx
      rw [if_pos (show lN 0 * pu_s16 (nI t) ≤ 0 by rw [hxt, Nat.zero_mul]; decide), if_neg (show ¬ 0 < lN 0 by decide)]
      rw [lN_0]
      grind
    · have n1 : ¬ lN x * pu_s16 (nI t) ≤ 0 := by
        rw [hxt, ← lN_0, pk_lLE o2 (by omega)]
        have := Nat.mul_pos (Nat.pos_of_ne_zero hx) hpos
        omega
      have n2 : 0 < lN x := by rw [← lN_0, pk_lLT (by omega) hx63]; omega
      rw [if_neg n1, if_pos n2]
      rw [be_max]
      have eo : of_b qr (nI q) = inf (8 + q) := by
        rw [of_b, if_neg (nI_pos (by omega)), nI_clamp (by omega), hi (8 + q) (by omega)]
      have es : rw_sell qr E (nI t) (nI q) (rw_sc t) (rw_inc cn q) = lN x * pu_s16 (nI t) * (nI t).toInt64 * (inf (8 + q)).toInt64 := by
        rw [rw_sell, eo, ← o1, o3, s16_N (by omega), rw_sc]
        grind
      rw [ez, ez', e6, nI_subl (by omega) (by omega), nI_l (show z < 2 ^ 31 by omega), e16, es]
      rw [e6] at ih
      by_cases ht0 : t = 0
      · have hn := h0 ht0 q (by omega)
        subst ht0
        rw [hn]
        have e1 : (if (1 : Int32) < nI (0 + 1) then (if (0 : Int64) ≤ lN x * pu_s16 (nI 0) * (nI 0).toInt64 * (inf (8 + q)).toInt64 then lN x * pu_s16 (nI 0) * (nI 0).toInt64 * (inf (8 + q)).toInt64 else 0) else 0) = (0 : Int64) := if_neg (by decide)
        rw [e1, show (nI 0).toInt64 = 0 from rfl, Int64.mul_zero, Int64.zero_mul, if_pos (by decide), s16_N (by omega)]
        exact be_alg _ _ _ _ _ _ _ _ _ _ ih
      · rw [if_pos (show (1 : Int32) < nI (t + 1) from nI_lt (a := 1) (by omega) (by omega)), s16_N (by omega)]
        exact be_alg _ _ _ _ _ _ _ _ _ _ ih
end PZQ12
