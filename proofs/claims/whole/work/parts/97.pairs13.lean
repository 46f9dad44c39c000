section PZQ13
variable (l : Launch) (g : pz_G) (ad rd : Nat → Nat)
theorem be_can {a b c : Int64} (h : a + c = b + c) : a = b := by grind
theorem be_V {G K sn left : Nat} {pr we qp qg wo qw inf qr : Nat → Int32} {po : Nat → Int64} (hK : rl_K G K pr we qp qg po) (hG : rl_G G wo qw) (hR : rl_R inf qr) {od : Nat → Int64} (ho : ∀ a, a < K → ∃ v, v ≤ 99 * 16 ^ sn ∧ od a = lN v) (hl : sn + left ≤ 8) :
    ∀ (t c1 c2 c3 : Nat) (cn : Nat → Nat), cn 1 = c1 → cn 2 = c2 → cn 3 = c3 → cn 0 + c1 + c2 + c3 + t = left → pu_V (inf 6) wo inf we od po K G left t c1 c2 c3 = rw_V qw qr (fun cn => rw_E od qg cn K) G t cn := by
  intro t
  induction t with
  | zero => intro c1 c2 c3 cn _ _ _ _; rfl
  | succ t ih =>
    intro c1 c2 c3 cn h1 h2 h3 h4
    have hG4 := hG.1
    have hK3 := hK.1
    obtain ⟨c6, hc6, e6⟩ := hR.2.2.2.2.2 6 (by omega) (by omega)
    rw [pu_V, rw_V, show left - (t + 1) - c1 - c2 - c3 = cn 0 by omega]
    have eos : ∀ q, q < G → pu_os od po we K (cn 0) c1 c2 c3 q = (fun cn => rw_E od qg cn K) (rw_inc cn q) := fun q hq => by
      rw [pu_os, pu_on_congr K (o' := fun a => rw_k (od a) qg a cn 4) (fun a ha => of_rk hK ha ⟨by omega, by omega, by omega, by omega⟩ ⟨rfl, h1, h2, h3⟩)]
      exact os_E hK (by omega) K (Nat.le_refl _)
    have enx : ∀ q, q < G → pu_V (inf 6) wo inf we od po K G left t (c1 + if q = 1 then 1 else 0) (c2 + if q = 2 then 1 else 0) (c3 + if q = 3 then 1 else 0) = rw_V qw qr (fun cn => rw_E od qg cn K) G t (rw_inc cn q) := fun q hq => by
      refine ih _ _ _ _ ?_ ?_ ?_ ?_
      · unfold rw_inc; split
        · next z => rw [if_pos z.symm, h1]
        · next z => rw [if_neg (fun y => z y.symm), h1]; rfl
      · unfold rw_inc; split
        · next z => rw [if_pos z.symm, h2]
        · next z => rw [if_neg (fun y => z y.symm), h2]; rfl
      · unfold rw_inc; split
        · next z => rw [if_pos z.symm, h3]
        · next z => rw [if_neg (fun y => z y.symm), h3]; rfl
      · unfold rw_inc
        rcases (show q = 0 ∨ q = 1 ∨ q = 2 ∨ q = 3 by omega) with rfl | rfl | rfl | rfl
        · simp only [if_true, if_false]
          simp
          omega
        · simp
          omega
        · simp
          omega
        · simp
          omega
    rw [pu_vc_congr G eos enx]
    have key := be_cut (cost := 0) (t := t) (c6 := c6) (wo := wo) (inf := inf) (qw := qw) (qr := qr) (E := fun cn => rw_E od qg cn K) (os := fun q => (fun cn => rw_E od qg cn K) (rw_inc cn q)) (nx := fun q => rw_V qw qr (fun cn => rw_E od qg cn K) G t (rw_inc cn q)) (cn := cn) (G := G) (by omega) hc6 e6 hR.1 hG4 hG.2 (fun q hq => by
      refine ⟨rfl, ?_⟩
      obtain ⟨x, x1, x2⟩ := rE_N hK ho (rw_inc cn q) K (Nat.le_refl _)
      refine ⟨x, ?_, x2⟩
      have hs : rw_sum (rw_inc cn q) = rw_sum cn + 1 := rw_sum_inc (by omega)
      have hb : x ≤ 3 * (99 * 16 ^ sn * 16 ^ rw_sum (rw_inc cn q)) := Nat.le_trans x1 (Nat.mul_le_mul_right _ hK3)
      have hb2 : x * 16 ^ t ≤ 3 * (99 * 16 ^ sn * 16 ^ rw_sum (rw_inc cn q)) * 16 ^ t := Nat.mul_le_mul_right _ hb
      have hb3 : 3 * (99 * 16 ^ sn * 16 ^ rw_sum (rw_inc cn q)) * 16 ^ t = 297 * 16 ^ (sn + left) := by
        have : sn + left = sn + rw_sum (rw_inc cn q) + t := by
          rw [hs, rw_sum]; omega
        rw [this, Nat.pow_add, Nat.pow_add]
        simp only [Nat.mul_assoc]
        rw [← Nat.mul_assoc 3 99]
      have hb4 := p16_8 hl
      omega) (fun e q hq => by subst e; rfl) G (Nat.le_refl _)
    rw [be_E hK hG4 K (Nat.le_refl _)] at key
    have e16 : lN (16 ^ t) * 16 = rw_sc (t + 1) := rw_sc16 (t := t)
    have e17 : lN c6 * lN (16 ^ t) * (16 * rw_E od qg cn K) = lN c6 * rw_E od qg cn K * rw_sc (t + 1) := by
      rw [← e16]; grind
    rw [e17] at key
    exact be_can key
theorem be_E0 {pr we qg : Nat → Int32} {ins : Int32} {sn : Nat} {od : Nat → Int64} : ∀ K, (∀ a, a < K → od a = pu_wg pr we ins a sn) → rw_E od qg (fun _ => 0) K = pu_wa pr we ins sn K := by
  intro K
  induction K with
  | zero => intro _; rfl
  | succ K ih =>
    intro h
    rw [rw_E, pu_wa, ih (fun a ha => h a (by omega)), ← h K (by omega)]
    rfl
theorem pr_best (x w : Int32) : pr_L l g ad rd yX8_best cX8_best 5 yX9_best cX9_best 13 (some .long) [.int x, .int w] := by
  intro s t n hR hn
  have hR0 := hR
  obtain ⟨hc, hT, hRu, hf, hG, hK, hM, hB, hS, hh, hW⟩ := hR
  have hN := hB.1
  have eN := hc.2.2.2.2
  have eK := hc.2.2.1
  have eG := hc.2.1
  have hK3 := hK.1
  have hG4 := hG.1
  rcases rl_cases hR0 x with ⟨h, hnw⟩ | ⟨j, hj, rfl, hpj, sp, hnw⟩ | ⟨j, hj, rfl, hpj, sp, hjN, hk0, hb⟩
  · refine ⟨_, _, ⟨rmX8_best_A, by decide, ocX8_best_A l g ad s x w h⟩, ⟨rmX9_best_R, by decide, ocX9_best_R l g rd t x w ⟨by omega, hnw⟩⟩, ?_⟩
    rintro r s' r' t' ⟨u, h1, rfl⟩ ⟨u', h2, rfl⟩
    exact ⟨h1.trans h2.symm, hc, hT, hRu, hf, hG, hK, rl_M_le hM, hB, hS, hh, hW⟩
  · refine ⟨_, _, ⟨rmX8_best_S, by decide, ocX8_best_S l g ad s j hj (nI j) w hpj sp⟩, ⟨rmX9_best_R, by decide, ocX9_best_R l g rd t (nI j) w ⟨by omega, hnw⟩⟩, ?_⟩
    rintro r s' r' t' ⟨u, h1, rfl⟩ ⟨u', h2, rfl⟩
    exact ⟨h1.trans h2.symm, hc, hT, hRu, hf, hG, hK, rl_M_le hM, hB, hS, hh, hW⟩
  · have hb0 := hb
    obtain ⟨a1, a2, a3, a4, a5, a6, a7, a8, a9⟩ := hb0
    have hS8 := a1.2
    have hsS : cs_bn s j 1 < cs_bn s j 0 := by
      rcases a4.2 with z | z
      · exact z.2
      · rw [sp] at z; exact absurd z (by decide)
    have hs8 : cs_bn s j 1 ≤ 8 := by omega
    obtain ⟨w1, W, w2, w3⟩ := wa_K hK (cs_bi s j 0) (cs_bn s j 1)
    have hwg : ∀ a, a < cs_cn s 2 → pu_wg (rs_rf t 2) (rs_rf t 3) (cs_bi s j 0) a (cs_bn s j 1) = pu_wg (cs_cf s 5) (cs_cf s 6) (cs_bi s j 0) a (cs_bn s j 1) := fun a ha => (wg_N (ins := cs_bi s j 0) hK ha (cs_bn s j 1)).1
    have h16 := p16_8 hs8
    have hWL : W * 16 ^ (cs_bn s j 0 - cs_bn s j 1) ≤ 297 * 4294967296 := by
      have z1 : W * 16 ^ (cs_bn s j 0 - cs_bn s j 1) ≤ 297 * 16 ^ (cs_bn s j 1) * 16 ^ (cs_bn s j 0 - cs_bn s j 1) := Nat.mul_le_mul_right _ w2
      have z2 : 297 * 16 ^ (cs_bn s j 1) * 16 ^ (cs_bn s j 0 - cs_bn s j 1) = 297 * 16 ^ (cs_bn s j 0) := by
        rw [Nat.mul_assoc, ← Nat.pow_add, show cs_bn s j 1 + (cs_bn s j 0 - cs_bn s j 1) = cs_bn s j 0 by omega]
      have z3 := p16_8 hS8.2
      omega
    obtain ⟨z, hz, ez⟩ := of_in hRu.2 (la_s4 (cs_bi s j 0) (nI (cs_bn s j 1)))
    have ez' : of_b (rs_rf t 13) (la_s (cs_bi s j 0) (nI (cs_bn s j 1))) = nI z := by rw [← of_cg hRu.1 (la_s4 _ _), ez]
    obtain ⟨V, eV⟩ : ∃ V, V = rw_V (rs_rf t 1) (rs_rf t 13) (fun cn => rw_E (fun a => pu_wg (rs_rf t 2) (rs_rf t 3) (cs_bi s j 0) a (cs_bn s j 1)) (rs_rf t 3) cn (cs_cn s 2)) (cs_cn s 1) (cs_bn s j 0 - cs_bn s j 1) (fun _ => 0) := ⟨_, rfl⟩
    have hm1 : (cs_bn s j 0 - cs_bn s j 1) * z ≤ 8 * 999 := Nat.mul_le_mul (by omega) hz
    have hm2 : (cs_bn s j 0 - cs_bn s j 1) * z * (W * 16 ^ (cs_bn s j 0 - cs_bn s j 1)) ≤ 8 * 999 * (297 * 4294967296) := Nat.mul_le_mul hm1 hWL
    have eSell : rw_sell (rs_rf t 13) (fun cn => rw_E (fun a => pu_wg (rs_rf t 2) (rs_rf t 3) (cs_bi s j 0) a (cs_bn s j 1)) (rs_rf t 3) cn (cs_cn s 2)) (nI (cs_bn s j 0 - cs_bn s j 1)) (la_s (cs_bi s j 0) (nI (cs_bn s j 1))) (rw_sc (cs_bn s j 0 - cs_bn s j 1)) (fun _ => 0) = lN ((cs_bn s j 0 - cs_bn s j 1) * z * (W * 16 ^ (cs_bn s j 0 - cs_bn s j 1))) := by
      rw [rw_sell, ez', be_E0 _ hwg, w3, nI_l (by omega), nI_l (by omega), rw_sc, Int64.mul_assoc, lN_mul, lN_mul, lN_mul]
    obtain ⟨A, hA, eA⟩ : ∃ A, A < 2 ^ 63 ∧ (if V ≤ lN ((cs_bn s j 0 - cs_bn s j 1) * z * (W * 16 ^ (cs_bn s j 0 - cs_bn s j 1))) then lN ((cs_bn s j 0 - cs_bn s j 1) * z * (W * 16 ^ (cs_bn s j 0 - cs_bn s j 1))) else V) = lN A := by
      by_cases q : V ≤ lN ((cs_bn s j 0 - cs_bn s j 1) * z * (W * 16 ^ (cs_bn s j 0 - cs_bn s j 1)))
      · rw [if_pos q]; exact ⟨_, by omega, rfl⟩
      · rw [if_neg q]
        refine pk_lOf (fun q2 => q (Int64.le_trans (Int64.le_of_lt q2) ?_))
        rw [← lN_0, pk_lLE (by omega) (by omega)]
        exact Nat.zero_le _
    refine ⟨_, _, ⟨rmX8_best_B, by decide, ocX8_best_B l g ad s j hj (nI j) w ⟨hpj, hK3, hG4, hsS, hS8.2⟩ sp⟩, ⟨rmX9_best_T, by decide, ocX9_best_T l g rd t w j (cs_bn s j 1) (cs_bn s j 0) A (W * 16 ^ (cs_bn s j 0 - cs_bn s j 1)) ⟨⟨hjN.1, hjN.2, by omega, hs8, a3.1, hk0⟩, by omega, hsS, hS8.2, a1.1, hA, by omega, ?_, ?_⟩⟩, ?_⟩
    · rw [a2, a3.1, ← eK, ← eG, eSell, ← eV]
      exact eA
    · rw [a2, ← eK, w1, w3, rw_sc, lN_mul]
    rintro r s' r' t' ⟨u, h1, rfl⟩ ⟨u', h2, rfl⟩
    rw [a2, a3.1, ← eK, ← eG, eSell, ← eV, w1, w3] at h2
    rw [w3, lN_le0 (by omega), s16_N (by omega), lN_mul, ez, nI_l (by omega), nI_l (by omega), lN_mul, lN_mul] at h1
    refine ⟨?_, hc, hT, hRu, hf, hG, hK, rl_M_le hM, hB, hS, hh, hW⟩
    rcases h1 with ⟨q1, h1⟩ | ⟨q1, q2, h1⟩ | ⟨q1, q2, od3, ho, cu, sl_, ecu, esl, h1⟩
    · rcases h2 with ⟨_, h2⟩ | ⟨q3, _⟩ | ⟨q3, _⟩
      · rw [h1, h2]
      · exact absurd q3 q1
      · exact absurd q3 q1
    · rcases h2 with ⟨q3, _⟩ | ⟨_, _, h2⟩ | ⟨_, q4, _⟩
      · exact absurd q1 q3
      · rw [h1, h2]
      · exact absurd q2 q4
    · rcases h2 with ⟨q3, _⟩ | ⟨_, q4, _⟩ | ⟨_, _, h2⟩
      · exact absurd q1 q3
      · exact absurd q4 q2
      · have eE : (fun cn => rw_E od3 (rs_rf t 3) cn (cs_cn s 2)) = (fun cn => rw_E (fun a => pu_wg (rs_rf t 2) (rs_rf t 3) (cs_bi s j 0) a (cs_bn s j 1)) (rs_rf t 3) cn (cs_cn s 2)) := by
          funext cn
          exact rw_Ec (fun _ _ => rfl) _ (fun a ha => by rw [ho a ha, hwg a ha])
        have eV2 : cu = V := by
          rw [ecu, be_V hK hG hRu (sn := cs_bn s j 1) (fun a ha => by
            obtain ⟨_, v, v1, v2⟩ := wg_N (ins := cs_bi s j 0) hK ha (cs_bn s j 1)
            exact ⟨v, v1, by rw [ho a ha, v2]⟩) (by omega) (cs_bn s j 0 - cs_bn s j 1) 0 0 0 (fun _ => 0) rfl rfl rfl (by omega), eE, eV]
        have eS2 : sl_ = lN ((cs_bn s j 0 - cs_bn s j 1) * z * (W * 16 ^ (cs_bn s j 0 - cs_bn s j 1))) := by
          rw [esl]
          congr 1
          rw [Nat.mul_comm ((cs_bn s j 0 - cs_bn s j 1) * z), ← Nat.mul_assoc]
        rw [eV2, eS2] at h1
        rcases h1 with ⟨q5, h1⟩ | ⟨q5, h1⟩
        · rcases h2 with ⟨_, h2⟩ | ⟨q6, _⟩
          · rw [h1, h2]
          · exact absurd q5 q6
        · rcases h2 with ⟨q6, _⟩ | ⟨_, h2⟩
          · exact absurd q6 q5
          · rw [be_max, eA] at h1
            rw [h2]
            refine fr_rd hA (by omega) ?_ h1
            refine Nat.mul_pos ?_ (Nat.pow_pos (by omega))
            rcases Nat.eq_zero_or_pos W with y | y
            · rw [y] at q2; exact absurd rfl q2
            · exact y
end PZQ13
