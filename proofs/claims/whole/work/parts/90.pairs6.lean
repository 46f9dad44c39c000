section PZQ6
variable (l : Launch) (g : pz_G) (ad rd : Nat → Nat)
theorem rl_cases {s : cs_S} {t : rs_S} {n : Nat} (hR : Rel s t n) (x : Int32) :
    ((x < 0 ∨ nI (cs_cn s 4) ≤ x) ∧ ¬ wh_ok x (rs_rn t 4) (rs_rf t 8)) ∨
    (∃ j, j < cs_cn s 4 ∧ x = nI j ∧ (j < cs_cn s 4 ∧ cs_cn s 4 ≤ 10 ∧ nI j = nI j ∧ nI (cs_cn s 4) = nI (cs_cn s 4) ∧ cs_cq s j = some (cs_ba s j 0)) ∧ cs_bi s j 1 = 1 ∧ ¬ wh_ok (nI j) (rs_rn t 4) (rs_rf t 8)) ∨
    (∃ j, j < cs_cn s 4 ∧ x = nI j ∧ (j < cs_cn s 4 ∧ cs_cn s 4 ≤ 10 ∧ nI j = nI j ∧ nI (cs_cn s 4) = nI (cs_cn s 4) ∧ cs_cq s j = some (cs_ba s j 0)) ∧ cs_bi s j 1 = 0 ∧ (j < rs_rn t 4 ∧ rs_rn t 4 ≤ 10) ∧ rs_rf t 8 j = 0 ∧ rl_Bs s t j) := by
  obtain ⟨hc, hT, hRu, hf, hG, hK, hM, hB, hS, hh, hW⟩ := hR
  have hN := hB.1
  have eN := hc.2.2.2.2
  rcases rl_ix x hN with h | ⟨j, hj, rfl⟩
  · exact Or.inl ⟨h, fun hw => wh_no (qk := fun _ => 0) h (by rw [eN]; exact hw.1)⟩
  · obtain ⟨hq, hb⟩ := hB.2 j hj
    have hk : rs_rf t 8 j = cs_bi s j 1 := hb.2.2.2.1.1
    rcases rl_sp hb with sp | sp
    · exact Or.inr (Or.inr ⟨j, hj, rfl, ⟨hj, hN, rfl, rfl, hq⟩, sp, ⟨by omega, by omega⟩, by rw [hk, sp], hb⟩)
    · refine Or.inr (Or.inl ⟨j, hj, rfl, ⟨hj, hN, rfl, rfl, hq⟩, sp, fun hw => ?_⟩)
      have := hw.2
      rw [nI_clamp (by omega), hk, sp] at this
      exact absurd this (by decide)
theorem dv_oc {pa qa : Nat → Int32} {c : Int32} : ∀ n, (∀ a, a < n → pa a = qa a) → dv_o pa c n = dv_o qa c n := by
  intro n
  induction n with
  | zero => intro _; rfl
  | succ n ih =>
    intro h
    rw [dv_o, dv_o, ih (fun a ha => h a (by omega)), dv_q, dv_q, h n (by omega)]
theorem dv_xc {pa qa : Nat → Int32} {o : Int32} : ∀ n, (∀ a, a < n → pa a = qa a) → dv_x pa o n = dv_x qa o n := by
  intro n
  induction n with
  | zero => intro _; rfl
  | succ n ih =>
    intro h
    rw [dv_x, dv_x, ih (fun a ha => h a (by omega)), h n (by omega)]
theorem dv_oM {pa : Nat → Int32} {c : Int32} {M : Nat} : ∀ d, (∀ a, M ≤ a → a < M + d → pa a = 0) → dv_o pa c (M + d) = dv_o pa c M := by
  intro d
  induction d with
  | zero => intro _; rfl
  | succ d ih =>
    intro h
    show dv_o pa c (M + d + 1) = _
    rw [dv_o, ih (fun a h1 h2 => h a h1 (by omega)), dv_q, h (M + d) (by omega) (by omega), Int32.zero_mul, Int32.zero_div, Int32.sub_zero]
/-- what a man gets, by the reference and by the class -/
theorem dv_eq {pa qa : Nat → Int32} {c : Int32} {M a : Nat} (hM : M ≤ 8) (h1 : ∀ a, a < 8 → pa a = qa a) (h2 : rl_P M pa) (ha : a < 8) : dv_f qa 8 c a = dv_f pa M c a := by
  obtain ⟨v, hv, _⟩ := h2
  have e1 : dv_o qa c 8 = dv_o pa c M := by
    rw [← dv_oc 8 h1]
    have := dv_oM (pa := pa) (c := c) (M := M) (8 - M) (fun a b d => by
      rw [(hv a (by omega)).1, (hv a (by omega)).2 b]; exact nI_0)
    rw [show M + (8 - M) = 8 by omega] at this
    exact this
  unfold dv_f
  rw [e1, ← dv_xc a (fun b hb => h1 b (by omega)), dv_q, dv_q, h1 a ha]
theorem dv_bd {pa : Nat → Int32} {M k m a : Nat} (hk : k ≤ 1000000) (h2 : rl_P M pa) (ha : a < 8) : rl_in (dv_f pa m (nI k) a) (k + 1) := by
  obtain ⟨v, hv, hs⟩ := h2
  have hle := rl_sm_le (v := v) (i := a) 8 ha
  have h16 : v a ≤ 16 := by omega
  have hm : v a * k ≤ 16 * k := Nat.mul_le_mul_right k h16
  have e : dv_q pa (nI k) a = nI (v a * k / 16) := by
    rw [dv_q, (hv a ha).1, pk_mul, show (16 : Int32) = nI 16 from rfl, pk_div (by omega) (by omega) (by omega)]
  have hd : v a * k / 16 ≤ k := by omega
  unfold dv_f
  rw [e]
  split
  · exact ⟨v a * k / 16 + 1, by omega, nI_1 _⟩
  · exact ⟨v a * k / 16, by omega, rfl⟩
theorem of_cg {inf qr : Nat → Int32} {z : Int32} (h : ∀ j, j < 12 → inf j = qr j) (hz : z < 4) : of_b inf z = of_b qr z := by
  unfold of_b
  by_cases q : z < 0
  · rw [if_pos q, if_pos q, h 7 (by omega)]
  · rw [if_neg q, if_neg q]
    obtain ⟨v, hv, rfl⟩ := nI_of q
    rw [show (4 : Int32) = nI 4 from rfl, nI_ltI hv (by omega)] at hz
    rw [nI_clamp hv, h (8 + v) (by omega)]
theorem of_in {inf : Nat → Int32} {z : Int32} (h : rl_ru inf) (hz : z < 4) : rl_in (of_b inf z) 999 := by
  unfold of_b
  by_cases q : z < 0
  · rw [if_pos q]; exact h.2.2.2.2 7 (by omega) (by omega)
  · rw [if_neg q]
    obtain ⟨v, hv, rfl⟩ := nI_of q
    rw [show (4 : Int32) = nI 4 from rfl, nI_ltI hv (by omega)] at hz
    rw [nI_clamp hv]; exact h.2.2.2.2 (8 + v) (by omega) (by omega)
theorem rl_pn {M : Nat} {pa qa : Nat → Int32} (h1 : ∀ a, a < 8 → pa a = qa a) (h2 : rl_P M pa) : ∀ v, v < 8 → ¬ qa v < 0 := by
  obtain ⟨v, hv, hs⟩ := h2
  intro a ha
  have hle := rl_sm_le (v := v) (i := a) 8 ha
  rw [← h1 a ha, (hv a ha).1]
  exact nI_pos (by omega)
theorem pr_sell (x : Int32) : pr_I l g ad rd yX8_sell cX8_sell 4 yX9_sell cX9_sell 3 (some .int) [.int x] := by
  intro s t n hR hn
  have hR0 := hR
  obtain ⟨hc, hT, hRu, hf, hG, hK, hM, hB, hS, hh, hW⟩ := hR
  have hM8 := hM.1
  have hN := hB.1
  have eM := hc.2.2.2.1
  have eN := hc.2.2.2.2
  rcases rl_cases hR0 x with ⟨h, hnw⟩ | ⟨j, hj, rfl, hpj, sp, hnw⟩ | ⟨j, hj, rfl, hpj, sp, hjN, hk0, hb⟩
  · refine ⟨_, _, ⟨rmX8_sell_A, by decide, ocX8_sell_A l g ad s x h⟩, ⟨rmX9_sell_R, by decide, ocX9_sell_R l g rd t x ⟨by omega, hnw⟩⟩, ?_⟩
    rintro r s' r' t' ⟨u, h1, rfl⟩ ⟨u', h2, rfl⟩
    exact ⟨h1.trans h2.symm, hc, hT, hRu, hf, hG, hK, rl_M_le hM, hB, hS, hh, hW⟩
  · refine ⟨_, _, ⟨rmX8_sell_S, by decide, ocX8_sell_S l g ad s j hj (nI j) hpj sp⟩, ⟨rmX9_sell_R, by decide, ocX9_sell_R l g rd t (nI j) ⟨by omega, hnw⟩⟩, ?_⟩
    rintro r s' r' t' ⟨u, h1, rfl⟩ ⟨u', h2, rfl⟩
    exact ⟨h1.trans h2.symm, hc, hT, hRu, hf, hG, hK, rl_M_le hM, hB, hS, hh, hW⟩
  · have hb0 := hb
    obtain ⟨a1, a2, a3, a4, a5, a6, a7, a8, a9⟩ := hb0
    refine ⟨_, _, ⟨rmX8_sell_B, by decide, ocX8_sell_B l g ad s j hj (nI j) ⟨hpj, hM8⟩ sp⟩, ⟨rmX9_sell_T, by decide, ocX9_sell_T l g rd t j ⟨hjN.1, hjN.2, by omega, rl_pn a6 a7, hk0⟩⟩, ?_⟩
    rintro r s' r' t' ⟨⟨u1, u2, u3⟩, ⟨h1, rfl, h2⟩, rfl⟩ ⟨⟨v1, v2, v3, v4⟩, ⟨h3, rfl, rfl, h4⟩, rfl⟩
    dsimp only at h2 h4 ⊢
    rw [a1.1, a2, a3.1, ← of_cg hRu.1 (la_s4 _ _)] at h3 h4 ⊢
    obtain ⟨z, hz, ez⟩ := of_in hRu.2 (la_s4 (cs_bi s j 0) (nI (cs_bn s j 1)))
    have hS1 := a1.2
    have hs1 := a3.2
    rw [ez, pk_sub hs1, pk_mul] at h1 h2 h3 h4 ⊢
    have hmul : (cs_bn s j 0 - cs_bn s j 1) * z ≤ 8 * 999 := Nat.mul_le_mul (by omega) hz
    refine ⟨h1.trans h3.symm, hc, hT, hRu, hf, hG, hK, ⟨hM8, fun a ha => ?_⟩, ⟨hN, fun k hk => ⟨(hB.2 k hk).1, ?_⟩⟩, hS, ?_, hW⟩
    · show u2 a = v3 a ∧ rl_in (u2 a) (1000000 * (n + 1 + 1))
      rw [h2 a ha, h4 a ha, ← eM, (hM.2 a ha).1.symm, dv_eq hM8 a6 a7 ha]
      refine ⟨rfl, ?_⟩
      obtain ⟨p, hp, ep⟩ := (hM.2 a ha).2
      obtain ⟨d, hd, ed⟩ := dv_bd (m := cs_cn s 3) (k := (cs_bn s j 0 - cs_bn s j 1) * z) (by omega) a7 ha
      split
      · rw [ep, ed, nI_add]
        exact ⟨p + d, by omega, rfl⟩
      · exact ⟨p, by omega, ep⟩
    · have hbk := (hB.2 k hk).2
      show rl_B (cs_cn s 3) (cs_bn s k 0) (cs_bn s k 1) (cs_bn s k 2) (st_u (cs_bi s) j (st_u (cs_bi s j) 1 1) k 0) (st_u (cs_bi s) j (st_u (cs_bi s j) 1 1) k 1) (cs_bf s k 0) (cs_bf s k 1) (cs_bf s k 2) (rs_rf t 5 k) (rs_rf t 6 k) (rs_rf t 7 k) (upd (rs_rf t 8) j 1 k) (rs_rf t 10 k) (sl8 (rs_rf t 9) k) (sl8 (rs_rf t 11) k) (sl8 (rs_rf t 12) k)
      by_cases e : k = j
      · subst e
        rw [st_us (f := cs_bi s), pk_us]
        exact ⟨a1, a2, a3, ⟨rfl, Or.inr rfl⟩, a5, a6, a7, a8, a9⟩
      · rw [st_un (f := cs_bi s) e, pk_un e]
        exact hbk
    · show cs_ci s 18 - _ = rs_ri t 1 - _
      rw [hh]
theorem pr_cut (x : Int32) : pr_I l g ad rd yX8_cut cX8_cut 5 yX9_cut cX9_cut 3 (some .int) [.int x] := by
  intro s t n hR hn
  have hR0 := hR
  obtain ⟨hc, hT, hRu, hf, hG, hK, hM, hB, hS, hh, hW⟩ := hR
  have hM8 := hM.1
  have hN := hB.1
  have eM := hc.2.2.2.1
  have eN := hc.2.2.2.2
  rcases rl_cases hR0 x with ⟨h, hnw⟩ | ⟨j, hj, rfl, hpj, sp, hnw⟩ | ⟨j, hj, rfl, hpj, sp, hjN, hk0, hb⟩
  · refine ⟨_, _, ⟨rmX8_cut_A, by decide, ocX8_cut_A l g ad s x h⟩, ⟨rmX9_cut_R, by decide, ocX9_cut_R l g rd t x ⟨by omega, hnw⟩⟩, ?_⟩
    rintro r s' r' t' ⟨u, h1, rfl⟩ ⟨u', h2, rfl⟩
    exact ⟨h1.trans h2.symm, hc, hT, hRu, hf, hG, hK, rl_M_le hM, hB, hS, hh, hW⟩
  · refine ⟨_, _, ⟨rmX8_cut_S, by decide, ocX8_cut_S l g ad s j hj (nI j) hpj sp⟩, ⟨rmX9_cut_R, by decide, ocX9_cut_R l g rd t (nI j) ⟨by omega, hnw⟩⟩, ?_⟩
    rintro r s' r' t' ⟨u, h1, rfl⟩ ⟨u', h2, rfl⟩
    exact ⟨h1.trans h2.symm, hc, hT, hRu, hf, hG, hK, rl_M_le hM, hB, hS, hh, hW⟩
  · have hb0 := hb
    obtain ⟨a1, a2, a3, a4, a5, a6, a7, a8, a9⟩ := hb0
    have hS1 := a1.2
    have hs1 := a3.2
    refine ⟨_, _, ⟨rmX8_cut_B, by decide, ocX8_cut_B l g ad s j hj (nI j) ⟨hpj, hM8⟩ sp (fun r u h => ?_)⟩, ⟨rmX9_cut_T, by decide, ocX9_cut_T l g rd t j ⟨hjN.1, hjN.2, by omega, rl_pn a6 a7, hk0⟩⟩, ?_⟩
    · rcases h with h | h
      · rw [h.2.2.2.1, nI_clamp (by omega)]
      · rw [h.2.2.2.1, nI_1, nI_clamp (by omega)]
    rintro r s' r' t' ⟨⟨u1, u2, u3, u4, u5⟩, h1, rfl⟩ ⟨⟨v1, v2, v3, v4, v5⟩, h2, rfl⟩
    dsimp only at h1 h2 ⊢
    obtain ⟨c6, hc6, ec6⟩ := hRu.2.2.2.2.2 6 (by omega) (by omega)
    have e6 : rs_rf t 13 6 = nI c6 := by rw [← hRu.1 6 (by omega), ec6]
    rw [a1.1, a2, a3.1, e6] at h2
    rw [ec6] at h1
    have tst : (∃ a, a < cs_cn s 3 ∧ cs_cf s 8 a < dv_f (cs_bf s j 0) (cs_cn s 3) (nI c6) a) ↔ (∃ a, a < rs_rn t 3 ∧ 0 < dv_f (sl8 (rs_rf t 9) j) 8 (nI c6) a ∧ rs_rf t 4 a < dv_f (sl8 (rs_rf t 9) j) 8 (nI c6) a) := by
      rw [← eM]
      constructor
      · rintro ⟨a, ha, hlt⟩
        refine ⟨a, ha, ?_, ?_⟩
        · obtain ⟨p, hp, ep⟩ := (hM.2 a (by omega)).2
          obtain ⟨d, hd, ed⟩ := dv_bd (m := cs_cn s 3) (k := c6) (by omega) a7 (show a < 8 by omega)
          rw [dv_eq hM8 a6 a7 (show a < 8 by omega), ed]
          rw [ep, ed, nI_ltI (by omega) (by omega)] at hlt
          exact nI_lt (a := 0) (by omega) (by omega)
        · rw [dv_eq hM8 a6 a7 (show a < 8 by omega), ← (hM.2 a (by omega)).1]
          exact hlt
      · rintro ⟨a, ha, _, hlt⟩
        rw [dv_eq hM8 a6 a7 (show a < 8 by omega), ← (hM.2 a (by omega)).1] at hlt
        exact ⟨a, ha, hlt⟩
    rcases h1 with ⟨q1, h1, rfl, rfl, rfl, rfl⟩ | ⟨q1, h1, rfl, rfl, e3, h3⟩
    · rcases h2 with ⟨q2, h2, rfl, rfl, rfl, rfl⟩ | ⟨q2, h2⟩
      · rw [nI_clamp (show cs_bn s j 1 < 2 ^ 31 by omega), st_id (f := cs_bn s j) rfl, st_id (f := cs_bn s) rfl, st_id (f := cs_bi s j) sp, st_id (f := cs_bi s) rfl]
        exact ⟨h1.trans h2.symm, hc, hT, hRu, hf, hG, hK, rl_M_le hM, hB, hS, hh, hW⟩
      · exact absurd (tst.mp q1) q2
    · rcases h2 with ⟨q2, h2⟩ | ⟨q2, h2, rfl, rfl, rfl, h4⟩
      · exact absurd (tst.mpr q2) q1
      · rw [nI_1, nI_clamp (show cs_bn s j 1 + 1 < 2 ^ 31 by omega)]
        obtain ⟨gr, hgr, egr⟩ := pu_gi4 (cs_bi s j 0) (nI (cs_bn s j 1))
        rw [egr, nI_clamp (by omega)] at h3 h4
        obtain ⟨w, hw, ew⟩ := (hG.2 gr hgr).2
        rw [← (hG.2 gr hgr).1] at h4
        rw [ew] at h3 h4
        have hsS : cs_bn s j 1 < cs_bn s j 0 := by
          rcases a4.2 with h | h
          · exact h.2
          · rw [sp] at h; exact absurd h (by decide)
        refine ⟨h1.trans h2.symm, hc, hT, hRu, hf, hG, hK, ⟨hM8, fun a ha => ?_⟩, ⟨hN, fun k hk => ⟨(hB.2 k hk).1, ?_⟩⟩, hS, ?_, hW⟩
        · show u4 a = v4 a ∧ rl_in (u4 a) (1000000 * (n + 1 + 1))
          rw [h3 a ha, h4 a ha, ← eM, (hM.2 a ha).1.symm, dv_eq hM8 a6 a7 ha, dv_eq hM8 a6 a7 ha]
          refine ⟨rfl, ?_⟩
          obtain ⟨p, hp, ep⟩ := (hM.2 a ha).2
          obtain ⟨d, hd, ed⟩ := dv_bd (m := cs_cn s 3) (k := c6) (by omega) a7 ha
          obtain ⟨d2, hd2, ed2⟩ := dv_bd (m := cs_cn s 3) (k := w) (by omega) a7 ha
          by_cases qm : a < cs_cn s 3
          · rw [if_pos qm]
            have hle : d ≤ p := by
              have h5 : ¬ cs_cf s 8 a < dv_f (cs_bf s j 0) (cs_cn s 3) (nI c6) a := fun h => q1 ⟨a, qm, h⟩
              rw [ep, ed, nI_ltI (by omega) (by omega)] at h5
              omega
            rw [ep, ed, ed2, pk_sub hle, nI_add]
            exact ⟨p - d + d2, by omega, rfl⟩
          · rw [if_neg qm]
            exact ⟨p, by omega, ep⟩
        · have hbk := (hB.2 k hk).2
          show rl_B (cs_cn s 3) (st_u (cs_bn s) j (st_u (cs_bn s j) 1 (cs_bn s j 1 + 1)) k 0) (st_u (cs_bn s) j (st_u (cs_bn s j) 1 (cs_bn s j 1 + 1)) k 1) (st_u (cs_bn s) j (st_u (cs_bn s j) 1 (cs_bn s j 1 + 1)) k 2) (st_u (cs_bi s) j (st_u (cs_bi s j) 1 u3) k 0) (st_u (cs_bi s) j (st_u (cs_bi s j) 1 u3) k 1) (cs_bf s k 0) (cs_bf s k 1) (cs_bf s k 2) (rs_rf t 5 k) (rs_rf t 6 k) (upd (rs_rf t 7) j (nI (cs_bn s j 1 + 1)) k) (upd (rs_rf t 8) j _ k) (rs_rf t 10 k) (sl8 (rs_rf t 9) k) (sl8 (rs_rf t 11) k) (sl8 (rs_rf t 12) k)
          by_cases e : k = j
          · subst e
            rw [st_us (f := cs_bn s), st_us (f := cs_bi s), pk_us, pk_us]
            refine ⟨a1, a2, ⟨rfl, ?_⟩, ?_, a5, a6, a7, a8, a9⟩
            · show cs_bn s k 1 + 1 ≤ cs_bn s k 0
              omega
            · show (if nI (cs_bn s k 1 + 1) = nI (cs_bn s k 0) then (1 : Int32) else 0) = u3 ∧ ((u3 = 0 ∧ cs_bn s k 1 + 1 < cs_bn s k 0) ∨ u3 = 1)
              rw [nI_1] at e3
              by_cases qq : cs_bn s k 1 + 1 < cs_bn s k 0
              · rw [if_pos (nI_lt qq (by omega))] at e3
                rw [if_neg (by rw [nI_eq (by omega) (by omega)]; omega), e3]
                exact ⟨rfl, Or.inl ⟨rfl, qq⟩⟩
              · rw [if_neg (nI_nlt (by omega) (by omega))] at e3
                rw [if_pos (by rw [nI_eq (by omega) (by omega)]; omega), e3]
                exact ⟨rfl, Or.inr rfl⟩
          · rw [st_un (f := cs_bn s) e, st_un (f := cs_bi s) e, pk_un e, pk_un e]
            exact hbk
        · show cs_ci s 18 + _ = rs_ri t 1 + _
          rw [hh]
end PZQ6
