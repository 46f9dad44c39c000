section PZQ4
variable (l : Launch) (g : pz_G) (ad rd : Nat → Nat)
theorem rl_B_cg {M S sn b : Nat} {ins sp : Int32} {pa bd bc : Nat → Int32} {qs qi qe qk qb : Int32} {qa qd qc qa' qd' qc' : Nat → Int32} (hp : rl_B M S sn b ins sp pa bd bc qs qi qe qk qb qa qd qc) (h1 : ∀ a, a < 8 → qa' a = qa a) (h2 : ∀ a, a < 8 → qd' a = qd a) (h3 : ∀ a, a < 8 → qc' a = qc a) : rl_B M S sn b ins sp pa bd bc qs qi qe qk qb qa' qd' qc' := by
  obtain ⟨a1, a2, a3, a4, a5, a6, a7, a8, a9⟩ := hp
  refine ⟨a1, a2, a3, a4, a5, fun a ha => by rw [h1 a ha, a6 a ha], a7, fun a ha => ?_, a9⟩
  have := a9.1
  rw [h2 a (by omega), h3 a (by omega)]
  exact a8 a ha
theorem wh_no {x : Int32} {N : Nat} {qk : Nat → Int32} (h : x < 0 ∨ nI N ≤ x) : ¬ hs_in x N := by
  rintro ⟨h1, h2⟩
  rcases h with h | h
  · exact h1 h
  · exact absurd h2 (Int32.not_lt.mpr h)
theorem wh_in {j N : Nat} (h : j < N) (hN : N ≤ 10) : hs_in (nI j) N := ⟨nI_pos (by omega), nI_lt h (by omega)⟩
theorem rl_ix (x : Int32) {N : Nat} (hN : N ≤ 10) : (x < 0 ∨ nI N ≤ x) ∨ ∃ j, j < N ∧ x = nI j := by
  rcases pk_ix x (n := N) (by omega) with h | h | h
  · exact Or.inl (Or.inl h)
  · exact Or.inl (Or.inr h)
  · exact Or.inr h
theorem rl_sp {M S sn b : Nat} {ins sp : Int32} {pa bd bc : Nat → Int32} {qs qi qe qk qb : Int32} {qa qd qc : Nat → Int32} (hp : rl_B M S sn b ins sp pa bd bc qs qi qe qk qb qa qd qc) : sp = 0 ∨ sp = 1 := by
  rcases hp.2.2.2.1.2 with h | h
  · exact Or.inl h.1
  · exact Or.inr h
theorem pr_parts (x m : Int32) : pr_I l g ad rd yX8_parts cX8_parts 4 yX9_parts cX9_parts 3 (some .int) [.int x, .int m] := by
  intro s t n hR hn
  obtain ⟨hc, hT, hRu, hf, hG, hK, hM, hB, hS, hh, hW⟩ := hR
  have hM8 := hM.1
  have hN := hB.1
  have eM := hc.2.2.2.1
  have eN := hc.2.2.2.2
  rcases rl_ix x hN with h | ⟨j, hj, rfl⟩
  · refine ⟨_, _, ⟨rmX8_parts_A, by decide, ocX8_parts_A l g ad s x m h⟩, ⟨rmX9_parts, by decide, ocX9_parts l g rd t x m ⟨by omega, by omega⟩⟩, ?_⟩
    rintro r s' r' t' ⟨u, h1, rfl⟩ ⟨u', h2, rfl⟩
    refine ⟨?_, hc, hT, hRu, hf, hG, hK, rl_M_le hM, hB, hS, hh, hW⟩
    rcases h2 with h2 | h2
    · exact absurd (by rw [eN]; exact h2.1) (wh_no (qk := fun _ => 0) h)
    · rw [h1, h2.2]
  · obtain ⟨hq, hb⟩ := hB.2 j hj
    refine ⟨_, _, ⟨rmX8_parts_B, by decide, ocX8_parts_B l g ad s j hj (nI j) m ⟨⟨hj, hN, rfl, rfl, hq⟩, hM8⟩⟩, ⟨rmX9_parts, by decide, ocX9_parts l g rd t (nI j) m ⟨by omega, by omega⟩⟩, ?_⟩
    rintro r s' r' t' ⟨u, h1, rfl⟩ ⟨u', h2, rfl⟩
    refine ⟨?_, hc, hT, hRu, hf, hG, hK, rl_M_le hM, hB, hS, hh, hW⟩
    rw [← eN, ← eM] at h2
    rcases h1 with ⟨i1, h1⟩ | ⟨i1, h1⟩
    · rcases h2 with ⟨_, _, h2⟩ | ⟨i2, h2⟩
      · obtain ⟨v, hv, rfl⟩ := hs_nI (by omega) i1
        rw [h1, h2, nI_clamp (by omega), nI_clamp (by omega)]
        exact hb.2.2.2.2.2.1 v (by omega)
      · exact absurd ⟨wh_in hj hN, i1⟩ i2
    · rcases h2 with ⟨_, i2, h2⟩ | ⟨i2, h2⟩
      · exact absurd i2 i1
      · rw [h1, h2]
theorem rl_sm_u {v : Nat → Nat} {i y : Nat} : ∀ n, i < n → rl_sm (st_u v i y) n + v i = rl_sm v n + y := by
  have h0 : ∀ n, n ≤ i → rl_sm (st_u v i y) n = rl_sm v n := by
    intro n
    induction n with
    | zero => intro _; rfl
    | succ n ih =>
      intro h
      rw [rl_sm, rl_sm, ih (by omega), st_un (by omega)]
  intro n
  induction n with
  | zero => intro h; omega
  | succ n ih =>
    intro h
    rw [rl_sm, rl_sm]
    by_cases e : n = i
    · rw [e, h0 i (Nat.le_refl _), st_us]
      omega
    · have := ih (by omega)
      rw [st_un e]
      omega
theorem rl_sm_le {v : Nat → Nat} {i : Nat} : ∀ n, i < n → v i ≤ rl_sm v n := by
  intro n
  induction n with
  | zero => intro h; omega
  | succ n ih =>
    intro h
    rw [rl_sm]
    by_cases e : i = n
    · rw [e]; omega
    · have := ih (by omega); omega
theorem st_nI {f : Nat → Int32} {v : Nat → Nat} {i a y : Nat} (h : f a = nI (v a)) : upd f i (nI y) a = nI (st_u v i y a) := by
  by_cases e : a = i
  · rw [e, pk_us, st_us]
  · rw [pk_un e, st_un e, h]
theorem sl8_up {f : Nat → Int32} {b i a : Nat} {x : Int32} : sl8 (upd f (8 * b + i) x) b a = upd (sl8 f b) i x a := by
  unfold sl8
  by_cases e : a = i
  · rw [e, pk_us, pk_us]
  · rw [pk_un (by omega), pk_un e]
theorem sl8_un {f : Nat → Int32} {b j i a : Nat} {x : Int32} (hi : i < 8) (ha : a < 8) (h : j ≠ b) : sl8 (upd f (8 * b + i) x) j a = sl8 f j a := by
  unfold sl8
  rw [pk_un (by omega)]
theorem sh_P {M f u : Nat} {pa : Nat → Int32} {p : Int32} (hM : M ≤ 8) (h : rl_P M pa) (hf : f < M) (hu : u < M) (hne : f ≠ u) (h1 : ¬ p < 1) (h2 : p ≤ pa f) : rl_P M (upd (upd pa f (pa f - p)) u (upd pa f (pa f - p) u + p)) := by
  obtain ⟨v, hv, hs⟩ := h
  have hle := rl_sm_le (v := v) (i := f) 8 (by omega)
  have hle2 := rl_sm_le (v := v) (i := u) 8 (by omega)
  have h0 : ¬ p < 0 := fun h => h1 (Int32.lt_of_lt_of_le h (by decide))
  obtain ⟨z, hz, rfl⟩ := nI_of h0
  rw [(hv f (by omega)).1, nI_leI hz (by omega)] at h2
  rw [pk_un (f := pa) (Ne.symm hne), (hv f (by omega)).1, (hv u (by omega)).1, pk_sub h2, nI_add]
  refine ⟨st_u (st_u v f (v f - z)) u (v u + z), fun j hj => ⟨st_nI (st_nI (hv j hj).1), fun hm => ?_⟩, ?_⟩
  · rw [st_un (by omega), st_un (by omega)]
    exact (hv j hj).2 hm
  · have a1 := rl_sm_u (v := v) (i := f) (y := v f - z) 8 (by omega)
    have a2 := rl_sm_u (v := st_u v f (v f - z)) (i := u) (y := v u + z) 8 (by omega)
    rw [st_un (Ne.symm hne)] at a2
    omega
theorem pr_share (x fr to_ p : Int32) : pr_I l g ad rd yX8_share cX8_share 6 yX9_share cX9_share 5 (some .boolean) [.int x, .int fr, .int to_, .int p] := by
  intro s t n hR hn
  obtain ⟨hc, hT, hRu, hf, hG, hK, hM, hB, hS, hh, hW⟩ := hR
  have hM8 := hM.1
  have hN := hB.1
  have eM := hc.2.2.2.1
  have eN := hc.2.2.2.2
  have hr := ocX9_share l g rd t x fr to_ p ⟨by omega, by omega⟩
  rcases rl_ix x hN with h | ⟨j, hj, rfl⟩
  · refine ⟨_, _, ⟨rmX8_share_A, by decide, ocX8_share_A l g ad s x fr to_ p h⟩, ⟨rmX9_share, by decide, hr⟩, ?_⟩
    rintro r s' r' t' ⟨u, h1, rfl⟩ ⟨u', h2, rfl⟩
    rcases h2 with h2 | ⟨_, h2, rfl⟩
    · exact absurd (by rw [eN]; exact h2.1.1.1) (wh_no (qk := fun _ => 0) h)
    · rw [st_id rfl]
      exact ⟨h1.trans h2.symm, hc, hT, hRu, hf, hG, hK, rl_M_le hM, hB, hS, hh, hW⟩
  · obtain ⟨hq, hb⟩ := hB.2 j hj
    have hk : rs_rf t 8 j = cs_bi s j 1 := hb.2.2.2.1.1
    rcases rl_sp hb with sp | sp
    · refine ⟨_, _, ⟨rmX8_share_B, by decide, ocX8_share_B l g ad s j hj (nI j) fr to_ p ⟨⟨hj, hN, rfl, rfl, hq⟩, hM8⟩ sp⟩, ⟨rmX9_share, by decide, hr⟩, ?_⟩
      rintro r s' r' t' ⟨u, h1, rfl⟩ ⟨u', h2, rfl⟩
      rw [nI_clamp (by omega), ← eM, ← eN] at h2
      have hsh : sh_ok (cs_cn s 3) (sl8 (rs_rf t 9) j) fr to_ p ↔ sh_ok (cs_cn s 3) (cs_bf s j 0) fr to_ p := by
        unfold sh_ok
        constructor
        · rintro ⟨a1, a2, a3, a4, a5⟩
          have := (hs_cl (by omega) a1).1
          exact ⟨a1, a2, a3, a4, by rw [hb.2.2.2.2.2.1 _ (by omega)]; exact a5⟩
        · rintro ⟨a1, a2, a3, a4, a5⟩
          have := (hs_cl (by omega) a1).1
          exact ⟨a1, a2, a3, a4, by rw [← hb.2.2.2.2.2.1 _ (by omega)]; exact a5⟩
      have hwh : wh_ok (nI j) (cs_cn s 4) (rs_rf t 8) := ⟨wh_in hj hN, by rw [nI_clamp (by omega), hk, sp]⟩
      rcases h1 with ⟨i1, h1, eu⟩ | ⟨i1, h1, rfl⟩
      · rcases h2 with ⟨_, h2, ev⟩ | ⟨i2, h2⟩
        · obtain ⟨f, hf1, rfl⟩ := hs_nI (by omega) i1.1
          obtain ⟨v, hv1, rfl⟩ := hs_nI (by omega) i1.2.1
          have hne : f ≠ v := fun h => i1.2.2.1 (by rw [h])
          have h4 := i1.2.2.2.1
          have h5 := i1.2.2.2.2
          rw [nI_clamp (by omega)] at h5
          rw [nI_clamp (by omega), nI_clamp (by omega)] at eu ev
          refine ⟨h1.trans h2.symm, hc, hT, hRu, hf, hG, hK, rl_M_le hM, ⟨hN, fun k hk => ⟨(hB.2 k hk).1, ?_⟩⟩, hS, hh, hW⟩
          have hbk := (hB.2 k hk).2
          show rl_B (cs_cn s 3) (cs_bn s k 0) (cs_bn s k 1) (cs_bn s k 2) (cs_bi s k 0) (cs_bi s k 1) (st_u (cs_bf s) j (st_u (cs_bf s j) 0 u) k 0) (st_u (cs_bf s) j (st_u (cs_bf s j) 0 u) k 1) (st_u (cs_bf s) j (st_u (cs_bf s j) 0 u) k 2) (rs_rf t 5 k) (rs_rf t 6 k) (rs_rf t 7 k) (rs_rf t 8 k) (rs_rf t 10 k) (sl8 u' k) (sl8 (rs_rf t 11) k) (sl8 (rs_rf t 12) k)
          by_cases e : k = j
          · subst e
            obtain ⟨a1, a2, a3, a4, a5, a6, a7, a8, a9⟩ := hbk
            rw [st_us (f := cs_bf s)]
            refine ⟨a1, a2, a3, a4, a5, fun a ha => ?_, ?_, a8, a9⟩
            · show u a = _
              rw [eu, ev, sl8_up, pk_un (f := cs_bf s k 0) (Ne.symm hne), pk_un (f := rs_rf t 9) (by omega), a6 f (by omega), a6 v (by omega)]
              refine rl_up ?_
              rw [sl8_up]
              exact rl_up (a6 a ha)
            · show rl_P _ u
              rw [eu]
              exact sh_P hM8 a7 hf1 hv1 hne h4 h5
          · rw [st_un (f := cs_bf s) e]
            refine rl_B_cg hbk (fun a ha => ?_) (fun a _ => rfl) (fun a _ => rfl)
            rw [ev, sl8_un (by omega) ha e, sl8_un (by omega) ha e]
        · exact absurd ⟨hwh, hsh.mpr i1⟩ i2
      · rcases h2 with ⟨i2, h2⟩ | ⟨_, h2, rfl⟩
        · exact absurd (hsh.mp i2.2) i1
        · rw [st_id (f := rs_rf t) rfl, st_id (f := cs_bf s j) rfl, st_id (f := cs_bf s) rfl]
          exact ⟨h1.trans h2.symm, hc, hT, hRu, hf, hG, hK, rl_M_le hM, hB, hS, hh, hW⟩
    · refine ⟨_, _, ⟨rmX8_share_S, by decide, ocX8_share_S l g ad s j hj (nI j) fr to_ p ⟨hj, hN, rfl, rfl, hq⟩ sp⟩, ⟨rmX9_share, by decide, hr⟩, ?_⟩
      rintro r s' r' t' ⟨u, h1, rfl⟩ ⟨u', h2, rfl⟩
      rcases h2 with h2 | ⟨_, h2, rfl⟩
      · have := h2.1.1.2
        rw [nI_clamp (by omega), hk, sp] at this
        exact absurd this (by decide)
      · rw [st_id rfl]
        exact ⟨h1.trans h2.symm, hc, hT, hRu, hf, hG, hK, rl_M_le hM, hB, hS, hh, hW⟩
end PZQ4
