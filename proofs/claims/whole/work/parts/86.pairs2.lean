section PZQ2
variable (l : Launch) (g : pz_G) (ad rd : Nat → Nat)
theorem st_id {α : Type} {f : Nat → α} {i : Nat} {v : α} (h : f i = v) : st_u f i v = f := by
  funext j
  unfold st_u
  by_cases e : j = i
  · rw [if_pos e, e, h]
  · rw [if_neg e]
theorem rl_P_M {M M' : Nat} {pa : Nat → Int32} (h : M ≤ M') (hp : rl_P M pa) : rl_P M' pa := by
  obtain ⟨v, h1, h2⟩ := hp
  exact ⟨v, fun j hj => ⟨(h1 j hj).1, fun z => (h1 j hj).2 (by omega)⟩, h2⟩
theorem rl_D_M {M M' b : Nat} {bd bc : Nat → Int32} (h : M ≤ M') (hp : rl_D M b bd bc) : rl_D M' b bd bc := by
  refine ⟨hp.1, fun a ha => ⟨?_, (hp.2.1 a ha).2⟩, hp.2.2⟩
  obtain ⟨v, h1, h2⟩ := (hp.2.1 a ha).1
  exact ⟨v, by omega, h2⟩
theorem rl_B_M {M M' S sn b : Nat} {ins sp : Int32} {pa bd bc : Nat → Int32} {qs qi qe qk qb : Int32} {qa qd qc : Nat → Int32} (h : M ≤ M') (hp : rl_B M S sn b ins sp pa bd bc qs qi qe qk qb qa qd qc) : rl_B M' S sn b ins sp pa bd bc qs qi qe qk qb qa qd qc := by
  obtain ⟨h1, h2, h3, h4, h5, h6, h7, h8, h9⟩ := hp
  exact ⟨h1, h2, h3, h4, h5, h6, rl_P_M h h7, h8, rl_D_M h h9⟩
theorem pr_man (c : Int32) : pr_I l g ad rd yX8_man cX8_man 2 yX9_man cX9_man 2 (some .int) [.int c] := by
  intro s t n hR hn
  obtain ⟨hc, hT, hRu, hf, hG, hK, hM, hB, hS, hh, hW⟩ := hR
  have hM8 := hM.1
  have e := hc.2.2.2.1
  have hM8' : rs_rn t 3 ≤ 8 := by omega
  refine ⟨_, _, ⟨rmX8_man, by decide, ocX8_man l g ad s c (nI_pos (by omega)) (fun r u h => ?_)⟩, ⟨rmX9_man, by decide, ocX9_man l g rd t c hM8' (fun r u h => ?_)⟩, ?_⟩
  · rcases rl_add hM8 (by omega) rfl h with h | h
    · rw [h.2.2.2, nI_clamp (by omega)]
    · rw [h.2.2.2, nI_clamp (by omega)]
  · rcases h with h | h
    · rw [h.2.2.1, nI_clamp (by omega)]
    · rw [h.2.2.1, nI_clamp (by omega)]
  rintro r s' r' t' ⟨⟨u1, u2⟩, h1, rfl⟩ ⟨⟨u1', u2'⟩, h2, rfl⟩
  rcases rl_add hM8 (by omega) rfl h1 with ⟨q, h1⟩ | ⟨q, h1⟩
  · rcases h2 with ⟨_, h2⟩ | ⟨q2, h2⟩
    · obtain ⟨e1, rfl, rfl⟩ := h1
      obtain ⟨e2, rfl, rfl⟩ := h2
      dsimp only
      rw [nI_clamp (show cs_cn s 3 + 1 < 2 ^ 31 by omega), nI_clamp (show rs_rn t 3 + 1 < 2 ^ 31 by omega)]
      refine ⟨by rw [e1, e2, e], ⟨hc.1, hc.2.1, hc.2.2.1, ?_, hc.2.2.2.2⟩, hT, hRu, hf, hG, hK, ⟨?_, fun j hj => ?_⟩, ⟨hB.1, fun j hj => ⟨(hB.2 j hj).1, rl_B_M ?_ (hB.2 j hj).2⟩⟩, hS, hh, hW⟩
      · show cs_cn s 3 + 1 = rs_rn t 3 + 1
        omega
      · show cs_cn s 3 + 1 ≤ 8
        omega
      · show upd (cs_cf s 8) (cs_cn s 3) c j = upd (rs_rf t 4) (rs_rn t 3) c j ∧ rl_in (upd (cs_cf s 8) (cs_cn s 3) c j) _
        rw [e]
        refine ⟨rl_up (hM.2 j hj).1, ?_⟩
        by_cases qj : j = rs_rn t 3
        · rw [qj, pk_us]
          obtain ⟨v, hv, ev⟩ := rl_rng (mx := 999999) (b := 999999) rfl (by omega) q.1 q.2.1
          exact ⟨v, by omega, ev⟩
        · rw [pk_un qj]
          exact ((rl_M_le hM).2 j hj).2
      · show cs_cn s 3 ≤ cs_cn s 3 + 1
        omega
    · exact absurd ⟨q.1, q.2.1, by omega⟩ q2
  · rcases h2 with ⟨q2, h2⟩ | ⟨_, h2⟩
    · exact absurd ⟨q2.1, q2.2.1, by omega⟩ q
    · obtain ⟨e1, rfl, rfl⟩ := h1
      obtain ⟨e2, rfl, rfl⟩ := h2
      dsimp only
      rw [st_id (nI_clamp (show cs_cn s 3 < 2 ^ 31 by omega)).symm, st_id (nI_clamp (show rs_rn t 3 < 2 ^ 31 by omega)).symm, st_id rfl, st_id (f := rs_rf t) rfl]
      exact ⟨by rw [e1, e2], hc, hT, hRu, hf, hG, hK, rl_M_le hM, hB, hS, hh, hW⟩
theorem fe_bu (x : Int32) : x.toInt8.toInt32 &&& 255 = x &&& 255 := by
  apply Int32.toBitVec_inj.mp
  rw [Int32.toBitVec_and, Int32.toBitVec_and, Int8.toBitVec_toInt32, Int32.toBitVec_toInt8]
  apply BitVec.eq_of_getLsbD_eq
  intro i hi
  rw [BitVec.getLsbD_and, BitVec.getLsbD_and, BitVec.getLsbD_signExtend]
  by_cases h : i < 8
  · simp [h, hi, BitVec.getElem_signExtend]
    try (intro; omega)
  · have : (255 : Int32).toBitVec.getLsbD i = false := by
      have : (255 : Int32).toBitVec = BitVec.ofNat 32 (2 ^ 8 - 1) := rfl
      rw [this, BitVec.getLsbD_ofNat, Nat.testBit_two_pow_sub_one]
      simp [h]
    rw [this, Bool.and_false, Bool.and_false]
theorem pr_feed (a1 a2 a3 a4 a5 : Int32) : pr_I l g ad rd yX8_feed cX8_feed 6 yX9_feed cX9_feed 8 (some .int) [.int a1, .int a2, .int a3, .int a4, .int a5] := by
  intro s t n hR hn
  obtain ⟨hc, hT, hRu, hf, hG, hK, hM, hB, hS, hh, hW⟩ := hR
  have hT4 := hT.1
  have e := hc.1
  have hT4' : rs_rn t 0 ≤ 400 := by omega
  refine ⟨_, _, ⟨rmX8_feed, by decide, ocX8_feed l g ad s a1 a2 a3 a4 a5 ⟨hT4, rfl⟩ (fun r u h => ?_)⟩, ⟨rmX9_feed, by decide, ocX9_feed l g rd t a1 a2 a3 a4 a5 hT4' (fun r u h => ?_)⟩, ?_⟩
  · rcases h with h | h
    · rw [h.2.2.1, nI_clamp (by omega)]
    · rw [h.2.2.1, nI_clamp (by omega)]
  · rcases h with h | h
    · rw [h.2.2.1, nI_clamp (by omega)]
    · rw [h.2.2.1, nI_clamp (by omega)]
  rintro r s' r' t' ⟨⟨u1, u2⟩, h1, rfl⟩ ⟨⟨u1', u2'⟩, h2, rfl⟩
  rcases h1 with ⟨q, h1⟩ | ⟨q, h1⟩
  · rcases h2 with ⟨_, h2⟩ | ⟨q2, h2⟩
    · obtain ⟨e1, rfl, rfl⟩ := h1
      obtain ⟨e2, rfl, rfl⟩ := h2
      dsimp only
      rw [st_id (nI_clamp (show cs_cn s 0 < 2 ^ 31 by omega)).symm, st_id (nI_clamp (show rs_rn t 0 < 2 ^ 31 by omega)).symm, st_id rfl, st_id (f := rs_rf t) rfl]
      exact ⟨by rw [e1, e2], hc, hT, hRu, hf, hG, hK, rl_M_le hM, hB, hS, hh, hW⟩
    · omega
  · rcases h2 with ⟨q2, h2⟩ | ⟨q2, h2⟩
    · omega
    · obtain ⟨e1, rfl, h3⟩ := h1
      obtain ⟨e2, rfl, h4⟩ := h2
      dsimp only at h3 h4 ⊢
      rw [nI_clamp (show cs_cn s 0 + 20 < 2 ^ 31 by omega), nI_clamp (show rs_rn t 0 + 20 < 2 ^ 31 by omega)]
      refine ⟨by rw [e1, e2, e], ⟨?_, hc.2⟩, ⟨q, fun j hj => ?_⟩, hRu, hf, hG, hK, rl_M_le hM, hB, hS, hh, hW⟩
      · show cs_cn s 0 + 20 = rs_rn t 0 + 20
        omega
      · have hj' : j < cs_cn s 0 + 20 := hj
        show u2 j &&& 255 = u2' j
        rw [h3 j (by omega), h4 j (by omega), ← e]
        by_cases z : cs_cn s 0 ≤ j ∧ j < cs_cn s 0 + 20
        · rw [if_pos z, if_pos z]
          exact fe_bu _
        · rw [if_neg z, if_neg z]
          exact hT.2 j (by omega)
end PZQ2
