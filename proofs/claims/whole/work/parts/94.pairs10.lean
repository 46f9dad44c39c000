section PZQ10
variable (l : Launch) (g : pz_G) (ad rd : Nat → Nat)
theorem rl_P_cg {M : Nat} {pa pa' : Nat → Int32} (h : rl_P M pa) (e : ∀ a, a < 8 → pa' a = pa a) : rl_P M pa' := by
  obtain ⟨v, hv, hs⟩ := h
  exact ⟨v, fun j hj => ⟨by rw [e j hj]; exact (hv j hj).1, (hv j hj).2⟩, hs⟩
theorem rl_P_one {M m : Nat} {pa : Nat → Int32} (hm : m < M) (hM : M ≤ 8) (e : ∀ a, a < 8 → pa a = if a = m then 16 else 0) : rl_P M pa := by
  refine ⟨st_u (fun _ => 0) m 16, fun j hj => ⟨?_, fun z => st_un (by omega)⟩, ?_⟩
  · rw [e j hj]
    by_cases q : j = m
    · rw [if_pos q, q, st_us]; rfl
    · rw [if_neg q, st_un q]; exact nI_0.symm
  · have := rl_sm_u (v := fun _ => 0) (i := m) (y := 16) 8 (by omega)
    rw [rl_sm0] at this
    omega
theorem pr_open (x : Int32) : pr_I l g ad rd yX8_open cX8_open 4 yX9_open cX9_open 10 (some .int) [.int x] := by
  intro s t n hR hn
  have hR0 := hR
  obtain ⟨hc, hT, hRu, hf, hG, hK, hM, hB, hS, hh, hW⟩ := hR
  have hM8 := hM.1
  have hN := hB.1
  have eM := hc.2.2.2.1
  have eN := hc.2.2.2.2
  rcases rl_cases hR0 x with ⟨h, hnw⟩ | ⟨j, hj, rfl, hpj, sp, hnw⟩ | ⟨j, hj, rfl, hpj, sp, hjN, hk0, hb⟩
  · refine ⟨_, _, ⟨rmX8_open_A, by decide, ocX8_open_A l g ad s x h⟩, ⟨rmX9_open_R, by decide, ocX9_open_R l g rd t x ⟨by omega, hnw⟩⟩, ?_⟩
    rintro r s' r' t' ⟨u, h1, rfl⟩ ⟨u', h2, rfl⟩
    exact ⟨h1.trans h2.symm, hc, hT, hRu, hf, hG, hK, rl_M_le hM, hB, hS, hh, hW⟩
  · refine ⟨_, _, ⟨rmX8_open_S, by decide, ocX8_open_S l g ad s j hj (nI j) hpj sp⟩, ⟨rmX9_open_R, by decide, ocX9_open_R l g rd t (nI j) ⟨by omega, hnw⟩⟩, ?_⟩
    rintro r s' r' t' ⟨u, h1, rfl⟩ ⟨u', h2, rfl⟩
    exact ⟨h1.trans h2.symm, hc, hT, hRu, hf, hG, hK, rl_M_le hM, hB, hS, hh, hW⟩
  · have hb0 := hb
    obtain ⟨a1, a2, a3, a4, a5, a6, a7, a8, a9⟩ := hb0
    have hb8 := a9.1
    have hbd : ∀ k, k < cs_bn s j 2 → ∃ v, v < 8 ∧ cs_bf s j 1 k = nI v := fun k hk => by
      obtain ⟨v, hv, e⟩ := (a9.2.1 k hk).1
      exact ⟨v, by omega, e⟩
    refine ⟨_, _, ⟨rmX8_open_B, by decide, ocX8_open_B l g ad s j hj (nI j) ⟨hpj, hb8, hM8, hbd⟩ sp⟩, ⟨rmX9_open_T, by decide, ocX9_open_T l g rd t j (cs_bn s j 2) ⟨hjN.1, hjN.2, by omega, rl_pn a6 a7, hk0, by omega, hb8, a5, fun k hk => ?_⟩⟩, ?_⟩
    · obtain ⟨v, hv, e⟩ := hbd k hk
      exact ⟨v, hv, by rw [← e]; exact (a8 k hk).1.symm⟩
    rintro r s' r' t' ⟨⟨hk2, lI2, ou2, pc2, df2, tx2, bb2, co2, pu2, du2, pa2⟩, ⟨h0, h1, h2, h3, h4⟩, rfl⟩ ⟨⟨b2, h2', X2, Y2, Z2, U2, w2, u2, y2, d2, I2⟩, ⟨h7, h8, h9, h6⟩, rfl⟩
    dsimp only at h0 h1 h2 h3 h4 h6 h7 h8 h9 ⊢
    subst h0
    subst h7
    subst h8
    subst h9
    -- which bids stay
    have hok : ∀ k, k < cs_bn s j 2 → sa_ok (cs_bf s j 1) (cs_bf s j 2) (cs_cf s 1) (cs_bf s j 0) (cs_cf s 8) k = rp_ok (sl8 (rs_rf t 11) j) (sl8 (rs_rf t 12) j) (rs_rf t 13) (sl8 (rs_rf t 9) j) (rs_rf t 4) k := fun k hk => by
      obtain ⟨⟨v, hv, ev⟩, c, hc1, hc2, ec⟩ := a9.2.1 k hk
      obtain ⟨d3, hd3, e3⟩ := hRu.2.2.1
      unfold sa_ok rp_ok sa_dep
      rw [← (a8 k hk).1, ← (a8 k hk).2, ev, nI_clamp (by omega), ← hRu.1 4 (by omega), ← hRu.1 3 (by omega), ← a6 v (by omega), ← (hM.2 v (by omega)).1, ec, e3, (op_hd hc2 hd3).1]
    have eL : sa_rl (sl8 (rs_rf t 12) j) (rp_ok (sl8 (rs_rf t 11) j) (sl8 (rs_rf t 12) j) (rs_rf t 13) (sl8 (rs_rf t 9) j) (rs_rf t 4)) (cs_bn s j 2) = sa_rl (cs_bf s j 2) (sa_ok (cs_bf s j 1) (cs_bf s j 2) (cs_cf s 1) (cs_bf s j 0) (cs_cf s 8)) (cs_bn s j 2) := (sa_rl_cg _ (fun i hi => (a8 i hi).2) hok).symm
    rw [← sa_out_cg _ hok]
    rw [eL, ← eM] at h6
    have hLok := sa_rl_ok (bc := cs_bf s j 2) (ok := sa_ok (cs_bf s j 1) (cs_bf s j 2) (cs_cf s 1) (cs_bf s j 0) (cs_cf s 8)) (cs_bn s j 2)
    have hLnd := sa_rl_nd (bc := cs_bf s j 2) (ok := sa_ok (cs_bf s j 1) (cs_bf s j 2) (cs_cf s 1) (cs_bf s j 0) (cs_cf s 8)) (cs_bn s j 2)
    have hLlen := sa_rl_len (cs_bf s j 2) (sa_ok (cs_bf s j 1) (cs_bf s j 2) (cs_cf s 1) (cs_bf s j 0) (cs_cf s 8)) (cs_bn s j 2)
    have hLin := sa_rl_in (cs_bf s j 2) (sa_ok (cs_bf s j 1) (cs_bf s j 2) (cs_cf s 1) (cs_bf s j 0) (cs_cf s 8)) (cs_bn s j 2)
    generalize sa_rl (cs_bf s j 2) (sa_ok (cs_bf s j 1) (cs_bf s j 2) (cs_cf s 1) (cs_bf s j 0) (cs_cf s 8)) (cs_bn s j 2) = L at h1 h3 h4 h6 hLok hLnd hLlen hLin
    have hmem : ∀ i, i < L.length → L.getD i 0 ∈ L := fun i hi => by
      rw [List.getD_eq_getElem?_getD, List.getElem?_eq_getElem hi, Option.getD_some]
      exact List.getElem_mem hi
    have hQ := op_run (bb := bb2) (co := co2) (inf := cs_cf s 1) (pa := cs_bf s j 0) (bb' := rp_row (sl8 (rs_rf t 11) j) L) (co' := rp_row (sl8 (rs_rf t 12) j) L) (qr := rs_rf t 13) (qa := sl8 (rs_rf t 9) j) (M := cs_cn s 3) (n := L.length) hM8 (by omega) hRu.1 hRu.2
      (fun a ha => by
        have hi := hLin (L.length - 1 - a) (by omega)
        rw [(h3 a ha).1, rp_row, (a8 _ hi).1])
      (fun a ha => by
        have hi := hLin (L.length - 1 - a) (by omega)
        rw [(h3 a ha).2, rp_row, (a8 _ hi).2])
      (fun a ha => by rw [(h3 a ha).1]; exact (a9.2.1 _ (hLin (L.length - 1 - a) (by omega))).1)
      (fun a ha => by rw [(h3 a ha).2]; exact (a9.2.1 _ (hLin (L.length - 1 - a) (by omega))).2)
      (fun a c ha hc2 e => by
        rw [(h3 a ha).1, (h3 c hc2).1] at e
        have := nd_getD hLnd (by omega) (by omega) (a9.2.2 _ _ (hLin (L.length - 1 - a) (by omega)) (hLin (L.length - 1 - c) (by omega)) e)
        omega)
      a6 a7 L.length (cs_cf s 8) (rs_rf t 4) 0 (1000000 * (n + 1)) (Nat.le_refl _) (by omega) hM.2
      (fun k _ hk => by
        have hi := hLok _ (hmem (L.length - 1 - k) (by omega))
        rw [(h3 k hk).1, (h3 k hk).2]
        unfold sa_ok at hi
        rw [Bool.and_eq_true, Bool.and_eq_true, decide_eq_true_eq, decide_eq_true_eq, decide_eq_true_eq] at hi
        exact Int32.not_lt.mp hi.2.2)
    obtain ⟨S, eS, k1, k2, k3, k4, k5, k6⟩ := h4
    rw [← eS] at hQ
    generalize rp_run (rp_row (sl8 (rs_rf t 11) j) L) (rp_row (sl8 (rs_rf t 12) j) L) (rs_rf t 13) (sl8 (rs_rf t 9) j) (cs_cn s 3) L.length L.length (rs_rf t 4) 0 = S' at hQ h6
    obtain ⟨m1, m2, m3, m4, m5⟩ := hQ
    obtain ⟨n1, n2, n3, n4⟩ := h6
    have hd1 : rl_D (cs_cn s 3) 0 (cs_bf s j 1) (cs_bf s j 2) := ⟨Nat.zero_le _, fun a ha => absurd ha (by omega), fun a c ha => absurd ha (by omega)⟩
    have fin : ∀ (z2 : Nat → Int32), (∀ a, a < 8 → pu2 a = u2 a) → tx2 = Z2 → h2' = rs_ri t 1 + tx2 → (∀ a, a < 8 → pa2 a = y2 (8 * j + a)) → rl_P (cs_cn s 3) pa2 → (∀ k a, k ≠ j → k < 10 → a < 8 → y2 (8 * k + a) = rs_rf t 9 (8 * k + a)) → r = r' ∧ Rel (cs_cn s, st_u (st_u (st_u (st_u (st_u (st_u (st_u (cs_ci s) 18 (cs_ci s 18 + tx2)) 11 lI2) 12 ou2) 13 1) 14 pc2) 15 df2) 16 tx2, st_u (st_u (st_u (st_u (cs_cf s) 8 pu2) 9 du2) 10 bb2) 11 co2, cs_cl s, cs_cF s, cs_cz s, cs_cq s, cs_ba s, st_u (cs_bn s) j (st_u (cs_bn s j) 2 0), cs_bi s, st_u (cs_bf s) j (st_u (cs_bf s j) 0 pa2))
        (rs_rn t, st_u (st_u (st_u (st_u (st_u (st_u (st_u (rs_ri t) 0 0) 1 h2') 10 1) 11 X2) 12 Y2) 13 Z2) 14 (nI (sa_out (sa_ok (cs_bf s j 1) (cs_bf s j 2) (cs_cf s 1) (cs_bf s j 0) (cs_cf s 8)) (cs_bn s j 2))), st_u (st_u (st_u (st_u (st_u (rs_rf t) 10 (upd (rs_rf t 10) j 0)) 9 y2) 4 u2) 16 w2) 15 d2, rs_rl t, rs_rF t) (n + 1) := by
      intro _ f1 f2 f3 f4 f5 f6
      refine ⟨by rw [k1, n1, m1], hc, hT, hRu, hf, hG, hK, ⟨hM8, fun a ha => ?_⟩, ⟨hN, fun k hk => ⟨(hB.2 k hk).1, ?_⟩⟩, ⟨rfl, ?_, ?_, f2, h2⟩, ?_, hW⟩
      · show pu2 a = u2 a ∧ rl_in (pu2 a) (1000000 * (n + 1 + 1))
        refine ⟨f1 a ha, ?_⟩
        rw [k4 a ha]
        obtain ⟨v, hv, e⟩ := m4 a ha
        exact ⟨v, by omega, e⟩
      · have hbk := (hB.2 k hk).2
        have hk10 : k < cs_cn s 4 := hk
        show rl_B (cs_cn s 3) (st_u (cs_bn s) j (st_u (cs_bn s j) 2 0) k 0) (st_u (cs_bn s) j (st_u (cs_bn s j) 2 0) k 1) (st_u (cs_bn s) j (st_u (cs_bn s j) 2 0) k 2) (cs_bi s k 0) (cs_bi s k 1) (st_u (cs_bf s) j (st_u (cs_bf s j) 0 pa2) k 0) (st_u (cs_bf s) j (st_u (cs_bf s j) 0 pa2) k 1) (st_u (cs_bf s) j (st_u (cs_bf s j) 0 pa2) k 2) (rs_rf t 5 k) (rs_rf t 6 k) (rs_rf t 7 k) (rs_rf t 8 k) (upd (rs_rf t 10) j 0 k) (sl8 y2 k) (sl8 (rs_rf t 11) k) (sl8 (rs_rf t 12) k)
        by_cases e : k = j
        · subst e
          rw [st_us (f := cs_bn s), st_us (f := cs_bf s), pk_us]
          exact ⟨a1, a2, a3, a4, nI_0.symm, f4, f5, fun a ha => absurd ha (by show ¬ a < 0; omega), hd1⟩
        · rw [st_un (f := cs_bn s) e, st_un (f := cs_bf s) e, pk_un e]
          exact rl_B_cg hbk (fun a ha => f6 k a e (by omega) ha) (fun _ _ => rfl) (fun _ _ => rfl)
      · show pc2 = X2
        rw [k2, n2, m2]
      · show df2 = Y2
        rw [k5, n3, m3]
      · show cs_ci s 18 + tx2 = h2'
        rw [f3, hh]
    rcases m5 with ⟨q1, q2, q3⟩ | ⟨m, hm, q1, q2, q3⟩
    · rcases n4 with ⟨z1, z2, z3, z4, rfl⟩ | ⟨z1, _⟩
      · refine fin (fun _ => 0) (fun a ha => by rw [k4 a ha, z4 a ha, q3 a ha]) (by rw [k3, q2, z2]) (by rw [k3, q2, z3, Int32.add_zero]) (fun a ha => ?_) (rl_P_cg a7 (fun a ha => ?_)) (fun _ _ _ _ _ => rfl)
        · rw [k6 a ha, k1, q1, if_pos rfl]; exact a6 a ha
        · rw [k6 a ha, k1, q1, if_pos rfl]
      · rw [← m1, q1] at z1; exact absurd (by decide) z1
    · have hnn : ¬ nI m < 0 := nI_pos (by omega)
      have hn1 : ¬ nI m = -1 := pu_nn1 (by omega)
      rcases n4 with ⟨z1, _⟩ | ⟨z1, z2, z3, z4, z5⟩
      · rw [← m1, q1] at z1; exact absurd z1 hnn
      · have hpp : ∀ a, a < 8 → pa2 a = if a = m then 16 else 0 := fun a ha => by
          rw [k6 a ha, k1, q1, if_neg hn1, nI_clamp (by omega)]
        refine fin (fun _ => 0) (fun a ha => by rw [k4 a ha, z4 a ha, q3 a ha]) (by rw [k3, q2, z2]) (by rw [k3, q2, z3]) (fun a ha => ?_) (rl_P_one hm hM8 hpp) (fun k a hk hk2 ha => ?_)
        · rw [hpp a ha, z5 _ (by omega), bo_p, if_pos (show 8 * j ≤ 8 * j + a ∧ 8 * j + a < 8 * j + 8 by omega), ← m1, q1, show 8 * j + a - 8 * j = a by omega]
          by_cases q : a = m
          · rw [if_pos q, q, if_pos rfl]
          · rw [if_neg q, if_neg (by rw [nI_eq (by omega) (by omega)]; exact q)]
        · rw [z5 _ (by omega), bo_p, if_neg (show ¬ (8 * j ≤ 8 * k + a ∧ 8 * k + a < 8 * j + 8) by omega)]
end PZQ10
