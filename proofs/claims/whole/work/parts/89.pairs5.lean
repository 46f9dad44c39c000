section PZQ5
variable (l : Launch) (g : pz_G) (ad rd : Nat → Nat)
theorem pg_hole : ∀ (n k : Nat) (f : Nat → Nat), (∀ a, a < k → f a < n) → (∀ a c, a < k → c < k → f a = f c → a = c) → k ≤ n := by
  intro n
  induction n with
  | zero =>
    intro k f h _
    rcases Nat.eq_zero_or_pos k with h0 | h0
    · omega
    · exact absurd (h 0 h0) (by omega)
  | succ n ih =>
    intro k f h hi
    by_cases e : ∃ a, a < k ∧ f a = n
    · obtain ⟨a, ha, hf⟩ := e
      have := ih (k - 1) (fun c => if c = a then f (k - 1) else f c) (fun c hc => ?_) (fun c d hc hd hcd => ?_)
      · omega
      · by_cases q : c = a
        · rw [if_pos q]
          have h1 := h (k - 1) (by omega)
          have h2 : f (k - 1) ≠ n := fun h => by
            have := hi (k - 1) a (by omega) ha (by omega)
            omega
          omega
        · rw [if_neg q]
          have h1 := h c (by omega)
          have h2 : f c ≠ n := fun h => q (hi c a (by omega) ha (by omega))
          omega
      · by_cases q : c = a
        · by_cases q2 : d = a
          · omega
          · rw [if_pos q, if_neg q2] at hcd
            have := hi (k - 1) d (by omega) (by omega) hcd
            omega
        · by_cases q2 : d = a
          · rw [if_neg q, if_pos q2] at hcd
            have := hi c (k - 1) (by omega) (by omega) hcd
            omega
          · rw [if_neg q, if_neg q2] at hcd
            exact hi c d (by omega) (by omega) hcd
    · have := ih k f (fun a ha => ?_) hi
      · omega
      · have h1 := h a ha
        have h2 : f a ≠ n := fun h => e ⟨a, ha, h⟩
        omega
theorem pg_bid {M b : Nat} {bd bc : Nat → Int32} {m : Int32} (hM : M ≤ 8) (hd : rl_D M b bd bc) (hm : hs_in m M) (hno : ∀ a, a < b → ¬ bd a = m) : b < 8 := by
  obtain ⟨v, hv, rfl⟩ := hs_nI (by omega) hm
  have := pg_hole M (b + 1) (fun a => if a = b then v else (bd a).toNatClampNeg) (fun a ha => ?_) (fun a c ha hc h => ?_)
  · omega
  · by_cases q : a = b
    · rw [if_pos q]; exact hv
    · rw [if_neg q]
      obtain ⟨w, hw, e⟩ := (hd.2.1 a (by omega)).1
      rw [e, nI_clamp (by omega)]
      exact hw
  · by_cases q : a = b
    · by_cases q2 : c = b
      · omega
      · rw [if_pos q, if_neg q2] at h
        obtain ⟨w, hw, e⟩ := (hd.2.1 c (by omega)).1
        rw [e, nI_clamp (by omega)] at h
        exact absurd (by rw [e, h]) (hno c (by omega))
    · by_cases q2 : c = b
      · rw [if_neg q, if_pos q2] at h
        obtain ⟨w, hw, e⟩ := (hd.2.1 a (by omega)).1
        rw [e, nI_clamp (by omega)] at h
        exact absurd (by rw [e, h]) (hno a (by omega))
      · rw [if_neg q, if_neg q2] at h
        obtain ⟨w, hw, e⟩ := (hd.2.1 a (by omega)).1
        obtain ⟨w2, hw2, e2⟩ := (hd.2.1 c (by omega)).1
        refine hd.2.2 a c (by omega) (by omega) ?_
        rw [e, e2, nI_clamp (by omega), nI_clamp (by omega)] at h
        rw [e, e2, h]
theorem bi_D1 {M b j : Nat} {bd bc : Nat → Int32} {c : Int32} (hd : rl_D M b bd bc) (h1 : ¬ c < 1) (h2 : c ≤ 99999) : rl_D M b bd (upd bc j c) := by
  refine ⟨hd.1, fun a ha => ⟨(hd.2.1 a ha).1, ?_⟩, hd.2.2⟩
  by_cases q : a = j
  · rw [q, pk_us]
    obtain ⟨v, hv, e⟩ := rl_rng (mx := 99999) (b := 99999) rfl (by omega) (fun h => h1 (Int32.lt_of_lt_of_le h (by decide))) (Int32.not_lt.mpr h2)
    refine ⟨v, ?_, hv, e⟩
    rcases Nat.eq_zero_or_pos v with h | h
    · rw [e, h] at h1; exact absurd (by decide) h1
    · exact h
  · rw [pk_un q]; exact (hd.2.1 a ha).2
theorem bi_D2 {M b : Nat} {bd bc : Nat → Int32} {m c : Int32} (hM : M ≤ 8) (hd : rl_D M b bd bc) (hb : b < 8) (hm : hs_in m M) (hno : ∀ a, a < b → ¬ bd a = m) (h1 : ¬ c < 1) (h2 : c ≤ 99999) : rl_D M (b + 1) (upd bd b m) (upd bc b c) := by
  have hx := bi_D1 (j := b) hd h1 h2
  refine ⟨by omega, fun a ha => ?_, fun a d ha hd' h => ?_⟩
  · by_cases q : a = b
    · subst q
      rw [pk_us, pk_us]
      obtain ⟨v, hv, e⟩ := hs_nI (by omega) hm
      refine ⟨⟨v, hv, e⟩, ?_⟩
      obtain ⟨v, hv, e⟩ := rl_rng (mx := 99999) (b := 99999) rfl (by omega) (fun h => h1 (Int32.lt_of_lt_of_le h (by decide))) (Int32.not_lt.mpr h2)
      refine ⟨v, ?_, hv, e⟩
      rcases Nat.eq_zero_or_pos v with h | h
      · rw [e, h] at h1; exact absurd (by decide) h1
      · exact h
    · rw [pk_un q, pk_un q]; exact hd.2.1 a (by omega)
  · by_cases q : a = b
    · by_cases q2 : d = b
      · omega
      · rw [q, pk_us, pk_un q2] at h
        exact absurd h.symm (hno d (by omega))
    · by_cases q2 : d = b
      · rw [q2, pk_us, pk_un q] at h
        exact absurd h (hno a (by omega))
      · rw [pk_un q, pk_un q2] at h
        exact hd.2.2 a d (by omega) (by omega) h
theorem pr_bid (m x c : Int32) : pr_I l g ad rd yX8_bid cX8_bid 5 yX9_bid cX9_bid 5 (some .int) [.int m, .int x, .int c] := by
  intro s t n hR hn
  obtain ⟨hc, hT, hRu, hf, hG, hK, hM, hB, hS, hh, hW⟩ := hR
  have hM8 := hM.1
  have hN := hB.1
  have eM := hc.2.2.2.1
  have eN := hc.2.2.2.2
  rcases rl_ix x hN with h | ⟨j, hj, rfl⟩
  · have hnw : ¬ wh_ok x (rs_rn t 4) (rs_rf t 8) := fun hw => wh_no (qk := fun _ => 0) h (by rw [eN]; exact hw.1)
    refine ⟨_, _, ⟨rmX8_bid_A, by decide, ocX8_bid_A l g ad s m x c h⟩, ⟨rmX9_bid_V, by decide, ocX9_bid_V l g rd t m x c 0 0 ⟨by omega, by omega, fun hw => absurd hw hnw⟩⟩, ?_⟩
    rintro r s' r' t' ⟨u, h1, rfl⟩ ⟨⟨u1, u2, u3⟩, h2, rfl⟩
    rcases h2 with h2 | ⟨_, h2, rfl, rfl, rfl⟩
    · exact absurd h2.1.2.1 hnw
    · dsimp only
      rw [st_id (f := rs_rf t) (i := 10) rfl, st_id (f := rs_rf t) (i := 11) rfl, st_id (f := rs_rf t) (i := 12) rfl]
      exact ⟨h1.trans h2.symm, hc, hT, hRu, hf, hG, hK, rl_M_le hM, hB, hS, hh, hW⟩
  · obtain ⟨hq, hb⟩ := hB.2 j hj
    have hk : rs_rf t 8 j = cs_bi s j 1 := hb.2.2.2.1.1
    rcases rl_sp hb with sp | sp
    · have hwh : wh_ok (nI j) (rs_rn t 4) (rs_rf t 8) := ⟨by rw [← eN]; exact wh_in hj hN, by rw [nI_clamp (by omega), hk, sp]⟩
      have hb0 := hb
      obtain ⟨a1, a2, a3, a4, a5, a6, a7, a8, a9⟩ := hb0
      have hb8 := a9.1
      have hqd : ∀ a, a < cs_bn s j 2 → rs_rf t 11 (8 * j + a) = cs_bf s j 1 a := fun a ha => (a8 a ha).1.symm
      have hpre : rs_rn t 4 ≤ 10 ∧ rs_rn t 3 ≤ 8 ∧ (wh_ok (nI j) (rs_rn t 4) (rs_rf t 8) → nI j = nI j ∧ j < rs_rn t 4 ∧ rs_rf t 10 j = nI (cs_bn s j 2) ∧ cs_bn s j 2 ≤ 8 ∧ (hs_in m (rs_rn t 3) → (∀ a, a < cs_bn s j 2 → ¬ rs_rf t 11 (8 * j + a) = m) → cs_bn s j 2 < 8)) :=
        ⟨by omega, by omega, fun _ => ⟨rfl, by omega, a5, hb8, fun hm hno => pg_bid hM8 a9 (by rw [eM]; exact hm) (fun a ha => by rw [← hqd a ha]; exact hno a ha)⟩⟩
      refine ⟨_, _, ⟨rmX8_bid_B, by decide, ocX8_bid_B l g ad s j hj m (nI j) c ⟨⟨hj, hN, rfl, rfl, hq⟩, hM8, hb8⟩ sp (fun r u h => ?_)⟩, ⟨rmX9_bid_V, by decide, ocX9_bid_V l g rd t m (nI j) c j (cs_bn s j 2) hpre⟩, ?_⟩
      · rcases h with ⟨_, _, h | h | h⟩ | h
        · obtain ⟨_, _, _, _, _, _, h⟩ := h
          rw [h, nI_clamp (by omega)]
        · rw [h.2.2.2.2, nI_clamp (by omega)]
        · rw [h.2.2.2.2, nI_clamp (by omega)]
        · rw [h.2.2.2.2, nI_clamp (by omega)]
      rintro r s' r' t' ⟨⟨u1, u2, u3⟩, h1, rfl⟩ ⟨⟨v1, v2, v3⟩, h2, rfl⟩
      have hok : bi_ok (cs_cn s 3) (cs_bf s j 0) m c ↔ (hs_in m (rs_rn t 3) ∧ wh_ok (nI j) (rs_rn t 4) (rs_rf t 8) ∧ ¬ c < 1 ∧ c ≤ 99999 ∧ rs_rf t 9 (8 * j + m.toNatClampNeg) ≤ 0) := by
        unfold bi_ok
        rw [← eM]
        constructor
        · rintro ⟨b1, b2, b3, b4⟩
          have := (hs_cl (by omega) b1).1
          exact ⟨b1, hwh, b2, b3, by rw [a6 _ (by omega)] at b4; exact b4⟩
        · rintro ⟨b1, _, b2, b3, b4⟩
          have := (hs_cl (by omega) b1).1
          exact ⟨b1, b2, b3, by rw [a6 _ (by omega)]; exact b4⟩
      have sh : ∀ (k : Nat) (z : Nat) (w1 w2 : Nat → Int32) (y1 y2 y3 : Nat → Int32), k ≠ j → k < cs_cn s 4 → (∀ a, a < 8 → sl8 y1 k a = sl8 (rs_rf t 11) k a) → (∀ a, a < 8 → sl8 y2 k a = sl8 (rs_rf t 12) k a) → y3 k = rs_rf t 10 k → rl_B (cs_cn s 3) (st_u (cs_bn s) j (st_u (cs_bn s j) 2 z) k 0) (st_u (cs_bn s) j (st_u (cs_bn s j) 2 z) k 1) (st_u (cs_bn s) j (st_u (cs_bn s j) 2 z) k 2) (cs_bi s k 0) (cs_bi s k 1) (st_u (cs_bf s) j (st_u (st_u (cs_bf s j) 1 w1) 2 w2) k 0) (st_u (cs_bf s) j (st_u (st_u (cs_bf s j) 1 w1) 2 w2) k 1) (st_u (cs_bf s) j (st_u (st_u (cs_bf s j) 1 w1) 2 w2) k 2) (rs_rf t 5 k) (rs_rf t 6 k) (rs_rf t 7 k) (rs_rf t 8 k) (y3 k) (sl8 (rs_rf t 9) k) (sl8 y1 k) (sl8 y2 k) := by
        intro k z w1 w2 y1 y2 y3 hk hk2 e1 e2 e3
        rw [st_un (f := cs_bn s) hk, st_un (f := cs_bf s) hk, e3]
        exact rl_B_cg (hB.2 k hk2).2 (fun _ _ => rfl) e1 e2
      rcases h1 with ⟨i1, h1, h3⟩ | ⟨i1, h1, rfl, rfl, rfl⟩
      · rcases h2 with ⟨i2, h4⟩ | ⟨i2, h2⟩
        · have b1 := i1.2.1
          have b2 := i1.2.2.1
          rcases h3 with ⟨f, hf1, hf2, hf3, rfl, rfl, rfl⟩ | ⟨hno, hb7, rfl, rfl, rfl⟩ | ⟨hno, hb7, _⟩
          · rcases h4 with ⟨f', hf1', hf2', hf3', rfl, rfl, rfl, h4⟩ | ⟨hno', _⟩
            · have ef : f = f' := by
                rcases Nat.lt_trichotomy f f' with h | h | h
                · exact absurd (by rw [hqd f (by omega)]; exact hf2) (hf3' f h)
                · exact h
                · exact absurd (by rw [hqd f' (by omega)] at hf2'; exact hf2') (hf3 f' h)
              subst ef
              dsimp only at h1 ⊢
              rw [nI_clamp (show cs_bn s j 2 < 2 ^ 31 by omega)]
              refine ⟨h1.trans h4.symm, hc, hT, hRu, hf, hG, hK, rl_M_le hM, ⟨hN, fun k hk => ⟨(hB.2 k hk).1, ?_⟩⟩, hS, hh, hW⟩
              by_cases e : k = j
              · subst e
                show rl_B (cs_cn s 3) (st_u (cs_bn s) k (st_u (cs_bn s k) 2 _) k 0) (st_u (cs_bn s) k (st_u (cs_bn s k) 2 _) k 1) (st_u (cs_bn s) k (st_u (cs_bn s k) 2 _) k 2) (cs_bi s k 0) (cs_bi s k 1) (st_u (cs_bf s) k (st_u (st_u (cs_bf s k) 1 _) 2 _) k 0) (st_u (cs_bf s) k (st_u (st_u (cs_bf s k) 1 _) 2 _) k 1) (st_u (cs_bf s) k (st_u (st_u (cs_bf s k) 1 _) 2 _) k 2) (rs_rf t 5 k) (rs_rf t 6 k) (rs_rf t 7 k) (rs_rf t 8 k) (rs_rf t 10 k) (sl8 (rs_rf t 9) k) (sl8 (rs_rf t 11) k) (sl8 (upd (rs_rf t 12) (8 * k + f) c) k)
                rw [st_us (f := cs_bn s), st_us (f := cs_bf s)]
                refine ⟨a1, a2, a3, a4, a5, a6, a7, fun a ha => ⟨(a8 a ha).1, ?_⟩, bi_D1 a9 b1 b2⟩
                show upd (cs_bf s k 2) f c a = _
                rw [sl8_up]
                exact rl_up (a8 a ha).2
              · exact sh k _ _ _ _ (upd (rs_rf t 12) (8 * j + f) c) (rs_rf t 10) e hk (fun _ _ => rfl) (fun a ha => sl8_un (by omega) ha e) rfl
            · exact absurd (by rw [hqd f hf1]; exact hf2) (hno' f hf1)
          · rcases h4 with ⟨f', hf1', hf2', hf3', rfl, rfl, rfl, h4⟩ | ⟨hno', _, rfl, rfl, rfl, h4⟩
            · exact absurd (by rw [hqd f' hf1'] at hf2'; exact hf2') (hno f' hf1')
            · dsimp only at h1 ⊢
              rw [nI_clamp (show cs_bn s j 2 + 1 < 2 ^ 31 by omega)]
              refine ⟨h1.trans h4.symm, hc, hT, hRu, hf, hG, hK, rl_M_le hM, ⟨hN, fun k hk => ⟨(hB.2 k hk).1, ?_⟩⟩, hS, hh, hW⟩
              by_cases e : k = j
              · subst e
                show rl_B (cs_cn s 3) (st_u (cs_bn s) k (st_u (cs_bn s k) 2 _) k 0) (st_u (cs_bn s) k (st_u (cs_bn s k) 2 _) k 1) (st_u (cs_bn s) k (st_u (cs_bn s k) 2 _) k 2) (cs_bi s k 0) (cs_bi s k 1) (st_u (cs_bf s) k (st_u (st_u (cs_bf s k) 1 _) 2 _) k 0) (st_u (cs_bf s) k (st_u (st_u (cs_bf s k) 1 _) 2 _) k 1) (st_u (cs_bf s) k (st_u (st_u (cs_bf s k) 1 _) 2 _) k 2) (rs_rf t 5 k) (rs_rf t 6 k) (rs_rf t 7 k) (rs_rf t 8 k) (upd (rs_rf t 10) k (nI (cs_bn s k 2 + 1)) k) (sl8 (rs_rf t 9) k) (sl8 (upd (rs_rf t 11) (8 * k + cs_bn s k 2) m) k) (sl8 (upd (rs_rf t 12) (8 * k + cs_bn s k 2) c) k)
                rw [st_us (f := cs_bn s), st_us (f := cs_bf s)]
                refine ⟨a1, a2, a3, a4, pk_us, a6, a7, fun a ha => ?_, bi_D2 hM8 a9 hb7 i1.1 hno b1 b2⟩
                show upd (cs_bf s k 1) (cs_bn s k 2) m a = _ ∧ upd (cs_bf s k 2) (cs_bn s k 2) c a = _
                rw [sl8_up, sl8_up]
                have ha' : a < cs_bn s k 2 + 1 := ha
                by_cases q : a = cs_bn s k 2
                · rw [q, pk_us, pk_us, pk_us, pk_us]
                  exact ⟨rfl, rfl⟩
                · exact ⟨rl_up (a8 a (by omega)).1, rl_up (a8 a (by omega)).2⟩
              · exact sh k _ _ _ (upd (rs_rf t 11) (8 * j + cs_bn s j 2) m) (upd (rs_rf t 12) (8 * j + cs_bn s j 2) c) (upd (rs_rf t 10) j (nI (cs_bn s j 2 + 1))) e hk (fun a ha => sl8_un (by omega) ha e) (fun a ha => sl8_un (by omega) ha e) (pk_un e)
          · exact absurd (pg_bid hM8 a9 i1.1 hno) (by omega)
        · exact absurd (hok.mp i1) i2
      · rcases h2 with ⟨i2, h4⟩ | ⟨i2, h2, rfl, rfl, rfl⟩
        · exact absurd (hok.mpr i2) i1
        · dsimp only
          rw [st_id (f := rs_rf t) (i := 10) rfl, st_id (f := rs_rf t) (i := 11) rfl, st_id (f := rs_rf t) (i := 12) rfl, st_id (f := cs_bf s j) (i := 1) rfl, st_id (f := cs_bf s j) rfl, st_id (f := cs_bf s) rfl, st_id (f := cs_bn s j) (nI_clamp (show cs_bn s j 2 < 2 ^ 31 by omega)).symm, st_id (f := cs_bn s) rfl]
          exact ⟨h1.trans h2.symm, hc, hT, hRu, hf, hG, hK, rl_M_le hM, hB, hS, hh, hW⟩
    · have hnw : ¬ wh_ok (nI j) (rs_rn t 4) (rs_rf t 8) := fun hw => by
        have := hw.2
        rw [nI_clamp (by omega), hk, sp] at this
        exact absurd this (by decide)
      refine ⟨_, _, ⟨rmX8_bid_S, by decide, ocX8_bid_S l g ad s j hj m (nI j) c ⟨hj, hN, rfl, rfl, hq⟩ sp⟩, ⟨rmX9_bid_V, by decide, ocX9_bid_V l g rd t m (nI j) c 0 0 ⟨by omega, by omega, fun hw => absurd hw hnw⟩⟩, ?_⟩
      rintro r s' r' t' ⟨u, h1, rfl⟩ ⟨⟨u1, u2, u3⟩, h2, rfl⟩
      rcases h2 with h2 | ⟨_, h2, rfl, rfl, rfl⟩
      · exact absurd h2.1.2.1 hnw
      · dsimp only
        rw [st_id (f := rs_rf t) (i := 10) rfl, st_id (f := rs_rf t) (i := 11) rfl, st_id (f := rs_rf t) (i := 12) rfl]
        exact ⟨h1.trans h2.symm, hc, hT, hRu, hf, hG, hK, rl_M_le hM, hB, hS, hh, hW⟩
end PZQ5
