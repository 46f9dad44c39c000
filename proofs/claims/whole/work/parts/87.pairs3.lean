section PZQ3
variable (l : Launch) (g : pz_G) (ad rd : Nat → Nat)
theorem kd_ok {G q : Nat} {w : Int32} (hG : G ≤ 4) (hq : q < 4) : ¬ pu_cw (nI G) (nI q) w = 0 ↔ we_r (nI G) (nI q) w = 1 := by
  unfold pu_cw we_r
  by_cases h1 : w < 0
  · rw [if_pos h1, if_pos h1]
    exact ⟨fun h => absurd rfl h, fun h => absurd h (by decide)⟩
  · rw [if_neg h1, if_neg h1]
    obtain ⟨v, hv, rfl⟩ := nI_of h1
    by_cases h2 : nI G ≤ nI q
    · rw [if_pos h2]
      by_cases h3 : (0 : Int32) < nI v
      · rw [if_pos h3]
        refine ⟨fun h => absurd rfl h, fun h => ?_⟩
        by_cases h4 : (16 : Int32) < nI v
        · rw [if_pos h4] at h; exact absurd h (by decide)
        · rw [if_neg h4] at h
          by_cases h5 : nI v = 0
          · rw [h5] at h3; exact absurd h3 (by decide)
          · rw [if_neg h5, if_pos h2] at h; exact absurd h (by decide)
      · rw [if_neg h3]
        have h5 : nI v = 0 := by
          rcases Nat.eq_zero_or_pos v with h | h
          · rw [h]; exact nI_0
          · exact absurd (nI_lt (a := 0) h hv) h3
        rw [h5]
        exact ⟨fun _ => by rw [if_neg (by decide), if_pos rfl], fun _ => by decide⟩
    · rw [if_neg h2]
      by_cases h4 : (16 : Int32) < nI v
      · rw [if_pos h4, if_pos h4]
        exact ⟨fun h => absurd rfl h, fun h => absurd h (by decide)⟩
      · rw [if_neg h4, if_neg h4]
        by_cases h5 : nI v = 0
        · rw [if_pos h5]
          exact ⟨fun _ => rfl, fun _ => by decide⟩
        · rw [if_neg h5, if_neg h2]
          exact ⟨fun _ => rfl, fun _ => by decide⟩
theorem kd_w {G q : Nat} {w : Int32} (hG : G ≤ 4) (hq : q < 4) (h : we_r (nI G) (nI q) w = 1) : ∃ v : Nat, v ≤ 16 ∧ w = nI v ∧ (G ≤ q → v = 0) := by
  unfold we_r at h
  by_cases h1 : w < 0
  · rw [if_pos h1] at h; exact absurd h (by decide)
  · rw [if_neg h1] at h
    by_cases h4 : (16 : Int32) < w
    · rw [if_pos h4] at h; exact absurd h (by decide)
    · rw [if_neg h4] at h
      obtain ⟨v, hv, e⟩ := rl_rng (mx := 16) (b := 16) rfl (by omega) h1 h4
      refine ⟨v, hv, e, fun z => ?_⟩
      by_cases h5 : w = 0
      · rw [e, show (0 : Int32) = nI 0 from rfl, nI_eq (by omega) (by omega)] at h5
        exact h5
      · rw [if_neg h5, if_pos (nI_le z (by omega))] at h
        exact absurd h (by decide)
theorem kd_up {f : Nat → Int32} {K a : Nat} {w0 w1 w2 w3 : Int32} : upd (upd (upd (upd f (4 * K) w0) (4 * K + 1) w1) (4 * K + 2) w2) (4 * K + 3) w3 a = if 4 * K ≤ a ∧ a < 4 * K + 4 then pu_w4 w0 w1 w2 w3 (a - 4 * K) else f a := by
  unfold pu_w4
  by_cases h : 4 * K ≤ a ∧ a < 4 * K + 4
  · rw [if_pos h]
    rcases (show a = 4 * K ∨ a = 4 * K + 1 ∨ a = 4 * K + 2 ∨ a = 4 * K + 3 by omega) with rfl | rfl | rfl | rfl
    · rw [pk_un (by omega), pk_un (by omega), pk_un (by omega), pk_us, if_pos (by omega)]
    · rw [pk_un (by omega), pk_un (by omega), pk_us, if_neg (by omega), if_pos (by omega)]
    · rw [pk_un (by omega), pk_us, if_neg (by omega), if_neg (by omega), if_pos (by omega)]
    · rw [pk_us, if_neg (by omega), if_neg (by omega), if_neg (by omega)]
  · rw [if_neg h, pk_un (by omega), pk_un (by omega), pk_un (by omega), pk_un (by omega)]
theorem pr_kind (p w0 w1 w2 w3 : Int32) : pr_I l g ad rd yX8_kind cX8_kind 6 yX9_kind cX9_kind 6 (some .int) [.int p, .int w0, .int w1, .int w2, .int w3] := by
  intro s t n hR hn
  obtain ⟨hc, hT, hRu, hf, hG, hK, hM, hB, hS, hh, hW⟩ := hR
  have hG4 := hG.1
  have hK3 := hK.1
  have e := hc.2.2.1
  have eG := hc.2.1
  have hK3' : rs_rn t 2 ≤ 3 := by omega
  have key : (pu_kok (nI (cs_cn s 1)) p w0 w1 w2 w3 ∧ cs_cn s 2 < 3) ↔ (rs_rn t 2 < 3 ∧ ¬ p < 1 ∧ ¬ (99 : Int32) < p ∧ we_r (nI (rs_rn t 1)) 0 w0 = 1 ∧ we_r (nI (rs_rn t 1)) 1 w1 = 1 ∧ we_r (nI (rs_rn t 1)) 2 w2 = 1 ∧ we_r (nI (rs_rn t 1)) 3 w3 = 1 ∧ w0 + w1 + w2 + w3 = 16) := by
    rw [← e, ← eG]
    unfold pu_kok
    have k0 := kd_ok (w := w0) hG4 (q := 0) (by omega)
    have k1 := kd_ok (w := w1) hG4 (q := 1) (by omega)
    have k2 := kd_ok (w := w2) hG4 (q := 2) (by omega)
    have k3 := kd_ok (w := w3) hG4 (q := 3) (by omega)
    constructor
    · rintro ⟨⟨a1, a2, a3, a4, a5, a6, a7⟩, a8⟩
      exact ⟨a8, a1, a2, k0.mp a3, k1.mp a4, k2.mp a5, k3.mp a6, a7⟩
    · rintro ⟨a8, a1, a2, a3, a4, a5, a6, a7⟩
      exact ⟨⟨a1, a2, k0.mpr a3, k1.mpr a4, k2.mpr a5, k3.mpr a6, a7⟩, a8⟩
  refine ⟨_, _, ⟨rmX8_kind, by decide, ocX8_kind l g ad s p w0 w1 w2 w3 ⟨hK3, rfl⟩ (fun r u h => ?_)⟩, ⟨rmX9_kind, by decide, ocX9_kind l g rd t p w0 w1 w2 w3 hK3' (fun r u h => ?_)⟩, ?_⟩
  · rcases h with h | h
    · rw [h.2.2.2.1, nI_clamp (by omega)]
    · rw [h.2.2.1, nI_clamp (by omega)]
  · rcases h with h | h
    · rw [h.2.2.1, nI_clamp (by omega)]
    · rw [h.2.2.1, nI_clamp (by omega)]
  rintro r s' r' t' ⟨⟨u1, u2, u3, u4⟩, h1, rfl⟩ ⟨⟨u1', u2', u3'⟩, h2, rfl⟩
  rcases h1 with ⟨q1, q1', h1⟩ | ⟨q1, h1⟩
  · rcases h2 with ⟨q2, h2⟩ | ⟨q2, h2⟩
    · obtain ⟨e1, rfl, rfl, h3, h4⟩ := h1
      obtain ⟨e2, rfl, rfl, rfl⟩ := h2
      dsimp only at h3 h4 ⊢
      rw [nI_clamp (show cs_cn s 2 + 1 < 2 ^ 31 by omega), nI_clamp (show rs_rn t 2 + 1 < 2 ^ 31 by omega)]
      refine ⟨by rw [e1, e2, e], ⟨hc.1, hc.2.1, ?_, hc.2.2.2⟩, hT, hRu, hf, hG, ⟨?_, fun k hk => ?_⟩, rl_M_le hM, hB, hS, hh, hW⟩
      · show cs_cn s 2 + 1 = rs_rn t 2 + 1
        omega
      · show cs_cn s 2 + 1 ≤ 3
        omega
      · have hk' : k < cs_cn s 2 + 1 := hk
        show upd (cs_cf s 5) (cs_cn s 2) p k = upd (rs_rf t 2) (rs_rn t 2) p k ∧ (∃ v : Nat, 1 ≤ v ∧ v ≤ 99 ∧ upd (cs_cf s 5) (cs_cn s 2) p k = nI v) ∧ (∀ q, q < 4 → u3 (4 * k + q) = upd (upd (upd (upd (rs_rf t 3) (4 * rs_rn t 2) w0) (4 * rs_rn t 2 + 1) w1) (4 * rs_rn t 2 + 2) w2) (4 * rs_rn t 2 + 3) w3 (4 * k + q)) ∧ rl_k (cs_cn s 1) k u3 ∧ ∀ q i, q < 4 → i < 9 → u4 ((4 * k + q) * 9 + i) = pu_pw (u3 (4 * k + q)) i
        rw [← e]
        obtain ⟨a8, a1, a2, a3, a4, a5, a6, a7⟩ := q2
        rw [← eG] at a3 a4 a5 a6
        by_cases ek : k = cs_cn s 2
        · subst ek
          rw [pk_us, pk_us]
          obtain ⟨v, hv1, hv2⟩ := rl_rng (mx := 99) (b := 99) rfl (by omega) (fun h => a1 (Int32.lt_of_lt_of_le h (by decide))) a2
          have hw : ∀ q, q < 4 → u3 (4 * cs_cn s 2 + q) = pu_w4 w0 w1 w2 w3 q := fun q hq => by
            rw [h3 _ (by omega), if_pos (by omega), show 4 * cs_cn s 2 + q - 4 * cs_cn s 2 = q by omega]
          refine ⟨rfl, ⟨v, ?_, hv1, hv2⟩, fun q hq => ?_, ?_, fun q i hq hi => ?_⟩
          · rcases Nat.eq_zero_or_pos v with h | h
            · rw [hv2, h] at a1; exact absurd (by decide) a1
            · exact h
          · rw [hw q hq, kd_up, if_pos (by omega), show 4 * cs_cn s 2 + q - 4 * cs_cn s 2 = q by omega]
          · obtain ⟨v0, b0, c0, d0⟩ := kd_w hG4 (q := 0) (by omega) a3
            obtain ⟨v1, b1, c1, d1⟩ := kd_w hG4 (q := 1) (by omega) a4
            obtain ⟨v2, b2, c2, d2⟩ := kd_w hG4 (q := 2) (by omega) a5
            obtain ⟨v3, b3, c3, d3⟩ := kd_w hG4 (q := 3) (by omega) a6
            refine ⟨fun q => if q = 0 then v0 else if q = 1 then v1 else if q = 2 then v2 else v3, fun q hq => ?_, ?_⟩
            · rw [hw q hq]
              rcases (show q = 0 ∨ q = 1 ∨ q = 2 ∨ q = 3 by omega) with rfl | rfl | rfl | rfl
              · exact ⟨c0, d0⟩
              · exact ⟨c1, d1⟩
              · exact ⟨c2, d2⟩
              · exact ⟨c3, d3⟩
            · rw [c0, c1, c2, c3, nI_add, nI_add, nI_add, show (16 : Int32) = nI 16 from rfl, nI_eq (by omega) (by omega)] at a7
              exact a7
          · rw [h4 _ (by omega), if_pos (by omega), hw q hq, show ((4 * cs_cn s 2 + q) * 9 + i - 36 * cs_cn s 2) / 9 = q by omega, show ((4 * cs_cn s 2 + q) * 9 + i - 36 * cs_cn s 2) % 9 = i by omega]
        · obtain ⟨b1, b2, b3, ⟨w, b4, b5⟩, b6⟩ := hK.2 k (by omega)
          have hw : ∀ q, q < 4 → u3 (4 * k + q) = cs_cf s 6 (4 * k + q) := fun q hq => by
            rw [h3 _ (by omega), if_neg (by omega)]
          rw [pk_un ek, pk_un ek]
          refine ⟨b1, b2, fun q hq => ?_, ⟨w, fun q hq => ?_, b5⟩, fun q i hq hi => ?_⟩
          · rw [hw q hq, kd_up, if_neg (by omega), b3 q hq]
          · rw [hw q hq]; exact b4 q hq
          · rw [h4 _ (by omega), if_neg (by omega), hw q hq, b6 q i hq hi]
    · exact absurd (key.mp ⟨q1, q1'⟩) q2
  · rcases h2 with ⟨q2, h2⟩ | ⟨q2, h2⟩
    · exact absurd (key.mpr q2) q1
    · obtain ⟨e1, rfl, rfl, rfl, rfl⟩ := h1
      obtain ⟨e2, rfl, rfl, rfl⟩ := h2
      dsimp only
      rw [st_id (nI_clamp (show cs_cn s 2 < 2 ^ 31 by omega)).symm, st_id (nI_clamp (show rs_rn t 2 < 2 ^ 31 by omega)).symm]
      exact ⟨by rw [e1, e2], hc, hT, hRu, hf, hG, hK, rl_M_le hM, hB, hS, hh, hW⟩
end PZQ3
