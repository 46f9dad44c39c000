section PZQ11
variable (l : Launch) (g : pz_G) (ad rd : Nat → Nat)
theorem lN_0 : lN 0 = 0 := rfl
theorem gcd_st (a b : Nat) : Nat.gcd a b = Nat.gcd b (a % b) := by
  rw [Nat.gcd_comm a b, Nat.gcd_rec b a, Nat.gcd_comm]
theorem cd_gcd : ∀ (k a b f : Nat), b < 2 ^ k → 2 * k + 1 ≤ f → a < 2 ^ 63 → b < 2 ^ 63 → pu_cd f (lN a) (lN b) = lN (Nat.gcd a b) := by
  intro k
  induction k with
  | zero =>
    intro a b f hb hf ha _
    obtain ⟨f, rfl⟩ : ∃ f', f = f' + 1 := ⟨f - 1, by omega⟩
    have : b = 0 := by simpa using hb
    subst this
    rw [pu_cd, if_pos lN_0, Nat.gcd_zero_right]
  | succ k ih =>
    intro a b f hb hf ha hb2
    obtain ⟨f, rfl⟩ : ∃ f', f = f' + 2 := ⟨f - 2, by omega⟩
    rw [pu_cd]
    by_cases q : b = 0
    · subst q
      rw [if_pos lN_0, Nat.gcd_zero_right]
    · rw [if_neg (by rw [← lN_0, pk_lEQ hb2 (by omega)]; exact q), pk_lRem ha (by omega) hb2, pu_cd, gcd_st a b]
      have h1 : a % b < b := Nat.mod_lt _ (by omega)
      by_cases q2 : a % b = 0
      · rw [q2, if_pos lN_0, Nat.gcd_zero_right]
      · rw [if_neg (by rw [← lN_0, pk_lEQ (by omega) (by omega)]; exact q2), pk_lRem hb2 (by omega) (by omega), gcd_st b (a % b)]
        have h2 : b % (a % b) < a % b := Nat.mod_lt _ (by omega)
        have h3 : b % (a % b) < 2 ^ k := by
          rw [Nat.pow_succ] at hb
          by_cases z : a % b < 2 ^ k
          · omega
          · have : b % (a % b) = b - a % b := by
              rw [Nat.mod_eq_sub_mod (by omega), Nat.mod_eq_of_lt (by omega)]
            omega
        exact ih _ _ _ h3 (by omega) (by omega) (by omega)
theorem fr_rd {A C : Nat} {w : Int32} {r : Int64} (hA : A < 2 ^ 63) (hC : C < 2 ^ 47) (h0 : 0 < C) (h : fr_ans (lN A) (lN C) w r) : r = rd_a A C w := by
  obtain ⟨up, lo, up2, lo2, h1, h2⟩ := h
  have hg := Nat.gcd_pos_of_pos_right A h0
  have hg2 := Nat.gcd_le_right A h0
  unfold fr_is at h1
  rw [cd_gcd 47 A C 100 hC (by omega) hA (by omega)] at h1
  rw [if_neg (by rw [← lN_0, pk_lLE (by omega) (by omega)]; omega), pk_lDiv hA hg (by omega), pk_lDiv (by omega) hg (by omega)] at h1
  rw [h2, h1.1, h1.2, rd_a, rd_g, if_neg (show ¬ A.gcd C = 0 by omega)]
/-- the odds as numbers -/
theorem wg_N {G K : Nat} {pr we qp qg : Nat → Int32} {po : Nat → Int64} (hK : rl_K G K pr we qp qg po) {ins : Int32} {k : Nat} (hk : k < K) : ∀ s, pu_wg qp qg ins k s = pu_wg pr we ins k s ∧ ∃ w, w ≤ 99 * 16 ^ s ∧ pu_wg pr we ins k s = lN w := by
  obtain ⟨a1, ⟨p, hp1, hp2, ep⟩, a3, ⟨wt, a4, a5⟩, a6⟩ := hK.2 k hk
  intro s
  induction s with
  | zero =>
    rw [pu_wg, pu_wg, a1]
    refine ⟨rfl, p, by omega, ?_⟩
    rw [← a1, ep, nI_l (by omega)]
  | succ s ih =>
    obtain ⟨q, hq, eq⟩ := pu_gi4 ins (nI s)
    obtain ⟨i1, w, i2, i3⟩ := ih
    rw [pu_wg, pu_wg, i1, eq, nI_clamp (by omega), ← a3 q hq, (a4 q hq).1, i3]
    have h16 : wt q ≤ 16 := by
      rcases (show q = 0 ∨ q = 1 ∨ q = 2 ∨ q = 3 by omega) with rfl | rfl | rfl | rfl <;> omega
    refine ⟨rfl, w * wt q, ?_, by rw [nI_l (by omega), lN_mul]⟩
    have : w * wt q ≤ (99 * 16 ^ s) * 16 := Nat.mul_le_mul i2 h16
    rw [Nat.pow_succ]
    omega
theorem wa_N {G K : Nat} {pr we qp qg : Nat → Int32} {po : Nat → Int64} (hK : rl_K G K pr we qp qg po) {ins : Int32} {s : Nat} : ∀ k, k ≤ K → pu_wa qp qg ins s k = pu_wa pr we ins s k ∧ ∃ w, w ≤ k * (99 * 16 ^ s) ∧ pu_wa pr we ins s k = lN w := by
  intro k
  induction k with
  | zero => intro _; exact ⟨rfl, 0, by omega, rfl⟩
  | succ k ih =>
    intro h
    obtain ⟨i1, w, i2, i3⟩ := ih (by omega)
    obtain ⟨j1, v, j2, j3⟩ := wg_N (ins := ins) hK (show k < K by omega) s
    rw [pu_wa, pu_wa, i1, j1, i3, j3]
    refine ⟨rfl, w + v, ?_, by rw [lN_add]⟩
    rw [Nat.add_mul, Nat.one_mul]
    omega
theorem wa_K {G K : Nat} {pr we qp qg : Nat → Int32} {po : Nat → Int64} (hK : rl_K G K pr we qp qg po) (ins : Int32) (s : Nat) : pu_wa qp qg ins s K = pu_wa pr we ins s K ∧ ∃ w, w ≤ 297 * 16 ^ s ∧ pu_wa pr we ins s K = lN w := by
  obtain ⟨h1, w, h2, h3⟩ := wa_N (ins := ins) (s := s) hK K (Nat.le_refl _)
  refine ⟨h1, w, ?_, h3⟩
  have : K * (99 * 16 ^ s) ≤ 3 * (99 * 16 ^ s) := Nat.mul_le_mul_right _ hK.1
  omega
theorem p16_8 {s : Nat} (h : s ≤ 8) : 16 ^ s ≤ 4294967296 := Nat.le_trans (Nat.pow_le_pow_right (by omega) h) (by decide)
theorem lN_le0 {w : Nat} (h : w < 2 ^ 63) : lN w ≤ 0 ↔ lN w = 0 := by
  rw [← lN_0, pk_lLE h (by omega), pk_lEQ h (by omega)]
  omega
theorem rl_ui {s : cs_S} {t : rs_S} {n : Nat} (hR : Rel s t n) : Rel s t (n + 1) := by
  obtain ⟨hc, hT, hRu, hf, hG, hK, hM, hB, hS, hh, hW⟩ := hR
  exact ⟨hc, hT, hRu, hf, hG, hK, rl_M_le hM, hB, hS, hh, hW⟩
theorem pr_likely (x kk w : Int32) : pr_L l g ad rd yX8_likely cX8_likely 5 yX9_likely cX9_likely 6 (some .long) [.int x, .int kk, .int w] := by
  intro s t n hR hn
  have hR0 := hR
  obtain ⟨hc, hT, hRu, hf, hG, hK, hM, hB, hS, hh, hW⟩ := hR
  have hN := hB.1
  have eN := hc.2.2.2.2
  have eK := hc.2.2.1
  have hK3 := hK.1
  rcases rl_cases hR0 x with ⟨h, hnw⟩ | ⟨j, hj, rfl, hpj, sp, hnw⟩ | ⟨j, hj, rfl, hpj, sp, hjN, hk0, hb⟩
  · refine ⟨_, _, ⟨rmX8_likely_A, by decide, ocX8_likely_A l g ad s x kk w h⟩, ⟨rmX9_likely_R, by decide, ocX9_likely_R l g rd t x kk w ⟨by omega, hnw⟩⟩, ?_⟩
    rintro r s' r' t' ⟨u, h1, rfl⟩ ⟨u', h2, rfl⟩
    exact ⟨h1.trans h2.symm, hc, hT, hRu, hf, hG, hK, rl_M_le hM, hB, hS, hh, hW⟩
  · refine ⟨_, _, ⟨rmX8_likely_S, by decide, ocX8_likely_S l g ad s j hj (nI j) kk w hpj sp⟩, ⟨rmX9_likely_R, by decide, ocX9_likely_R l g rd t (nI j) kk w ⟨by omega, hnw⟩⟩, ?_⟩
    rintro r s' r' t' ⟨u, h1, rfl⟩ ⟨u', h2, rfl⟩
    exact ⟨h1.trans h2.symm, hc, hT, hRu, hf, hG, hK, rl_M_le hM, hB, hS, hh, hW⟩
  · have hb0 := hb
    obtain ⟨a1, a2, a3, a4, a5, a6, a7, a8, a9⟩ := hb0
    have hs8 : cs_bn s j 1 ≤ 8 := by have := a1.2; have := a3.2; omega
    have h16 := p16_8 hs8
    obtain ⟨w1, W, w2, w3⟩ := wa_K hK (cs_bi s j 0) (cs_bn s j 1)
    obtain ⟨A, hA, hA2⟩ : ∃ A, A < 2 ^ 63 ∧ (hs_in kk (cs_cn s 2) → pu_wg (cs_cf s 5) (cs_cf s 6) (cs_bi s j 0) kk.toNatClampNeg (cs_bn s j 1) = lN A ∧ pu_wg (rs_rf t 2) (rs_rf t 3) (cs_bi s j 0) kk.toNatClampNeg (cs_bn s j 1) = lN A) := by
      by_cases q : hs_in kk (cs_cn s 2)
      · obtain ⟨v1, v, v2, v3⟩ := wg_N (ins := cs_bi s j 0) hK (hs_cl (by omega) q).1 (cs_bn s j 1)
        exact ⟨v, by omega, fun _ => ⟨v3, v1.trans v3⟩⟩
      · exact ⟨0, by omega, fun z => absurd z q⟩
    refine ⟨_, _, ⟨rmX8_likely_B, by decide, ocX8_likely_B l g ad s j hj (nI j) kk w ⟨hpj, hK3, hs8⟩ sp⟩, ⟨rmX9_likely_T, by decide, ocX9_likely_T l g rd t kk w j (cs_bn s j 1) A W ⟨⟨hjN.1, hjN.2, by omega, hs8, a3.1, hk0⟩, hA, by omega, fun z => ?_, ?_⟩⟩, ?_⟩
    · rw [a2]; exact (hA2 (by rw [eK]; exact z)).2
    · rw [a2, ← eK, w1, w3]
    rintro r s' r' t' ⟨u, h1, rfl⟩ ⟨u', h2, rfl⟩
    rw [← eK] at h2
    rw [a2, w1] at h2
    rw [w3, lN_le0 (by omega)] at h1
    rw [w3] at h2
    refine ⟨?_, hc, hT, hRu, hf, hG, hK, rl_M_le hM, hB, hS, hh, hW⟩
    rcases h1 with ⟨q1, h1⟩ | ⟨q1, q2, h1⟩ | ⟨q1, q2, od3, ho, h1⟩
    · rcases h2 with ⟨_, h2⟩ | ⟨q3, _⟩ | ⟨q3, _⟩
      · rw [h1, h2]
      · exact absurd q3 q1
      · exact absurd q3 q1
    · rcases h2 with ⟨q3, _⟩ | ⟨_, _, h2⟩ | ⟨_, q4, _⟩
      · exact absurd q1 q3
      · rw [h1, h2]
      · exact absurd q2 q4
    · rcases h2 with ⟨q3, _⟩ | ⟨_, q4, _⟩ | ⟨_, _, h2⟩
      · exact absurd q1 q3
      · exact absurd q4 q2
      · rw [h2]
        rw [ho _ (hs_cl (by omega) q1.1).1, (hA2 q1.1).1] at h1
        exact fr_rd hA (by omega) (by
          rcases Nat.eq_zero_or_pos W with z | z
          · rw [z] at q2; exact absurd rfl q2
          · exact z) h1
theorem rr_in {G K : Nat} {pr we qp qg wo qw : Nat → Int32} {po : Nat → Int64} (hK : rl_K G K pr we qp qg po) (hG : rl_G G wo qw) {k : Nat} (hk : k < K) : ∀ q, q ≤ G → (∃ v, v ≤ q * 15984 ∧ rr_s qg qw k q = lN v) ∧ ∀ acc o : Int64, pu_rg acc o wo we k q = acc + o * rr_s qg qw k q := by
  obtain ⟨a1, _, a3, ⟨wt, a4, a5⟩, a6⟩ := hK.2 k hk
  intro q
  induction q with
  | zero => intro _; exact ⟨⟨0, Nat.zero_le _, rfl⟩, fun acc o => by rw [pu_rg, rr_s, Int64.mul_zero, Int64.add_zero]⟩
  | succ q ih =>
    intro h
    have hG4 := hG.1
    obtain ⟨⟨v, h1, h2⟩, h3⟩ := ih (by omega)
    have h16 : wt q ≤ 16 := by
      rcases (show q = 0 ∨ q = 1 ∨ q = 2 ∨ q = 3 by omega) with rfl | rfl | rfl | rfl <;> omega
    obtain ⟨z, hz, ez⟩ := (hG.2 q (by omega)).2
    have hm : wt q * z ≤ 16 * 999 := Nat.mul_le_mul h16 hz
    have e : (qg (4 * k + q) * qw q).toInt64 = lN (wt q * z) := by
      rw [← a3 q (by omega), (a4 q (by omega)).1, ← (hG.2 q (by omega)).1, ez, pk_mul, nI_l (by omega)]
    refine ⟨⟨v + wt q * z, by omega, ?_⟩, fun acc o => ?_⟩
    · rw [rr_s, h2, e, lN_add]
    · rw [pu_rg, rr_s, h3, e, (a4 q (by omega)).1, ez, nI_l (by omega), nI_l (by omega), Int64.mul_assoc, lN_mul, Int64.mul_add, Int64.add_assoc]
theorem rr_K {G K : Nat} {pr we qp qg wo qw : Nat → Int32} {po : Nat → Int64} (hK : rl_K G K pr we qp qg po) (hG : rl_G G wo qw) {od : Nat → Int64} {X : Nat} (ho : ∀ a, a < K → ∃ v, v ≤ X ∧ od a = lN v) : ∀ k, k ≤ K → pu_rs od wo we G k = rr_u od qg qw G k ∧ ∃ v, v ≤ k * (X * 63936) ∧ rr_u od qg qw G k = lN v := by
  intro k
  induction k with
  | zero => intro _; exact ⟨rfl, 0, by omega, rfl⟩
  | succ k ih =>
    intro h
    obtain ⟨i1, v, i2, i3⟩ := ih (by omega)
    obtain ⟨⟨y, y1, y2⟩, y3⟩ := rr_in hK hG (show k < K by omega) G (Nat.le_refl _)
    obtain ⟨z, z1, z2⟩ := ho k (by omega)
    have hG4 := hG.1
    have hm : z * y ≤ X * 63936 := Nat.mul_le_mul z1 (by omega)
    refine ⟨by rw [pu_rs, rr_u, y3, i1], v + z * y, ?_, by rw [rr_u, i3, y2, z2, lN_mul, lN_add]⟩
    rw [Nat.add_mul, Nat.one_mul]
    omega
theorem rs_cg {od od' : Nat → Int64} {wo we : Nat → Int32} {G : Nat} : ∀ K, (∀ a, a < K → od a = od' a) → pu_rs od wo we G K = pu_rs od' wo we G K := by
  intro K
  induction K with
  | zero => intro _; rfl
  | succ K ih =>
    intro h
    rw [pu_rs, pu_rs, ih (fun a ha => h a (by omega)), h K (by omega)]
theorem pr_rest (x w : Int32) : pr_L l g ad rd yX8_rest cX8_rest 4 yX9_rest cX9_rest 11 (some .long) [.int x, .int w] := by
  intro s t n hR hn
  have hR0 := hR
  obtain ⟨hc, hT, hRu, hf, hG, hK, hM, hB, hS, hh, hW⟩ := hR
  have hN := hB.1
  have eN := hc.2.2.2.2
  have eK := hc.2.2.1
  have eG := hc.2.1
  have hK3 := hK.1
  have hG4 := hG.1
  rcases rl_cases hR0 x with ⟨h, hnw⟩ | ⟨j, hj, rfl, hpj, sp, hnw⟩ | ⟨j, hj, rfl, hpj, sp, hjN, hk0, hb⟩
  · refine ⟨_, _, ⟨rmX8_rest_A, by decide, ocX8_rest_A l g ad s x w h⟩, ⟨rmX9_rest_R, by decide, ocX9_rest_R l g rd t x w ⟨by omega, hnw⟩⟩, ?_⟩
    rintro r s' r' t' ⟨u, h1, rfl⟩ ⟨u', h2, rfl⟩
    exact ⟨h1.trans h2.symm, hc, hT, hRu, hf, hG, hK, rl_M_le hM, hB, hS, hh, hW⟩
  · refine ⟨_, _, ⟨rmX8_rest_S, by decide, ocX8_rest_S l g ad s j hj (nI j) w hpj sp⟩, ⟨rmX9_rest_R, by decide, ocX9_rest_R l g rd t (nI j) w ⟨by omega, hnw⟩⟩, ?_⟩
    rintro r s' r' t' ⟨u, h1, rfl⟩ ⟨u', h2, rfl⟩
    exact ⟨h1.trans h2.symm, hc, hT, hRu, hf, hG, hK, rl_M_le hM, hB, hS, hh, hW⟩
  · have hb0 := hb
    obtain ⟨a1, a2, a3, a4, a5, a6, a7, a8, a9⟩ := hb0
    have hS8 := a1.2
    have hsS := a3.2
    have hs8 : cs_bn s j 1 ≤ 8 := by omega
    have h16 := p16_8 hs8
    obtain ⟨w1, W, w2, w3⟩ := wa_K hK (cs_bi s j 0) (cs_bn s j 1)
    obtain ⟨r1, U, r2, r3⟩ := rr_K hK hG (od := fun a => pu_wg (cs_cf s 5) (cs_cf s 6) (cs_bi s j 0) a (cs_bn s j 1)) (X := 425201762304) (fun a ha => by
      obtain ⟨_, v, v1, v2⟩ := wg_N (ins := cs_bi s j 0) hK ha (cs_bn s j 1)
      exact ⟨v, by omega, v2⟩) (cs_cn s 2) (Nat.le_refl _)
    have hU : U ≤ 3 * (425201762304 * 63936) := Nat.le_trans r2 (Nat.mul_le_mul_right _ hK3)
    have hUl : U * (cs_bn s j 0 - cs_bn s j 1) ≤ 3 * (425201762304 * 63936) * 8 := Nat.mul_le_mul hU (by omega)
    have er : rr_u (fun a => pu_wg (rs_rf t 2) (rs_rf t 3) (cs_bi s j 0) a (cs_bn s j 1)) (rs_rf t 3) (rs_rf t 1) (cs_cn s 1) (cs_cn s 2) = lN U := by
      rw [← r3]
      exact rr_uc _ (fun a ha => (wg_N (ins := cs_bi s j 0) hK ha (cs_bn s j 1)).1)
    have el : (nI (cs_bn s j 0) - nI (cs_bn s j 1)).toInt64 = lN (cs_bn s j 0 - cs_bn s j 1) := by
      rw [pk_sub hsS, nI_l (by omega)]
    refine ⟨_, _, ⟨rmX8_rest_B, by decide, ocX8_rest_B l g ad s j hj (nI j) w ⟨hpj, hK3, hG4, hs8⟩ sp⟩, ⟨rmX9_rest_T, by decide, ocX9_rest_T l g rd t w j (cs_bn s j 1) (U * (cs_bn s j 0 - cs_bn s j 1)) (16 * W) ⟨⟨hjN.1, hjN.2, by omega, hs8, a3.1, hk0⟩, by omega, by omega, by omega, ?_, ?_⟩⟩, ?_⟩
    · rw [a2, ← eK, ← eG, er, a1.1, a3.1, el, lN_mul]
    · rw [a2, ← eK, w1, w3, show (16 : Int64) = lN 16 from rfl, lN_mul]
    rintro r s' r' t' ⟨u, h1, rfl⟩ ⟨u', h2, rfl⟩
    rw [← eK, a2, w1, w3] at h2
    rw [w3, lN_le0 (by omega), el, show (16 : Int64) = lN 16 from rfl, lN_mul, Nat.mul_comm W 16] at h1
    refine ⟨?_, hc, hT, hRu, hf, hG, hK, rl_M_le hM, hB, hS, hh, hW⟩
    rcases h1 with ⟨q1, h1⟩ | ⟨q1, q2, h1⟩ | ⟨q1, q2, od3, ho, h1⟩
    · rcases h2 with ⟨_, h2⟩ | ⟨q3, _⟩ | ⟨q3, _⟩
      · rw [h1, h2]
      · exact absurd q3 q1
      · exact absurd q3 q1
    · rcases h2 with ⟨q3, _⟩ | ⟨_, _, h2⟩ | ⟨_, q4, _⟩
      · exact absurd q1 q3
      · rw [h1, h2]
      · exact absurd q2 q4
    · rcases h2 with ⟨q3, _⟩ | ⟨_, q4, _⟩ | ⟨_, _, h2⟩
      · exact absurd q1 q3
      · exact absurd q4 q2
      · rw [h2]
        rw [rs_cg _ ho, r1, r3, lN_mul] at h1
        refine fr_rd (by omega) (by omega) ?_ h1
        rcases Nat.eq_zero_or_pos W with z | z
        · rw [z] at q2; exact absurd rfl q2
        · omega
end PZQ11
