
abbrev rmX8_known_A : Room := { frames := 0, cells := 0, slots := 0, locals := 0 }
set_option maxHeartbeats 4000000 in
set_option maxRecDepth 100000 in
theorem sgX8_known_A_0 {B : pz_B} {g : pz_G} {wc : va_W} {Post : Option Value → va_W → Prop} (F : pz_F B cX8_known 2 (some (.object "StoneHall$Boulder")) yX8_known.cls g rmX8_known_A) (Rt : pz_Rt B g wc Post rmX8_known_A) (h0 : Nat) (x : Int32) (zt : Nat) (zl : Nat) (zc : Nat) (zm : Nat) (zb : Nat) (zs : Nat) (bn : Int32) (hk : Int32) (bq : Nat → Option Nat)  (vc : ((x < 0 → Post (some (.null)) [(h0, .inr (7, [.ref zt, .ref zl, .ref zc, .ref zm, .ref zb, .ref zs, .int bn, .int hk])), (zb, .inl (g.2.1 4, 10, .inr (.inr (.inr (.inr bq)))))]) ∧ (¬ x < 0 → ((bn ≤ x → Post (some (.null)) [(h0, .inr (7, [.ref zt, .ref zl, .ref zc, .ref zm, .ref zb, .ref zs, .int bn, .int hk])), (zb, .inl (g.2.1 4, 10, .inr (.inr (.inr (.inr bq)))))]) ∧ (¬ bn ≤ x → vp_in x 10 ∧ ∀ r_4 : Option Nat, r_4 = bq x.toNatClampNeg → ((r_4 = none → Post (some (.null)) [(h0, .inr (7, [.ref zt, .ref zl, .ref zc, .ref zm, .ref zb, .ref zs, .int bn, .int hk])), (zb, .inl (g.2.1 4, 10, .inr (.inr (.inr (.inr bq)))))]) ∧ (∀ b_5 : Nat, r_4 = some b_5 → Post (some (.ref b_5)) [(h0, .inr (7, [.ref zt, .ref zl, .ref zc, .ref zm, .ref zb, .ref zs, .int bn, .int hk])), (zb, .inl (g.2.1 4, 10, .inr (.inr (.inr (.inr bq)))))]))))))) : pz_At B 0 0 0 [(0, .ref h0), (1, .int x)] [] [(h0, .inr (7, [.ref zt, .ref zl, .ref zc, .ref zm, .ref zb, .ref zs, .int bn, .int hk])), (zb, .inl (g.2.1 4, 10, .inr (.inr (.inr (.inr bq)))))] := by
  refine pz_iload_n 1 F rfl dX8_known_0 rfl ?_
  refine pz_if_lt (tgt := 21) F dX8_known_1 (by decide) (fun q_1 => ?_) (fun q_1 => ?_)
  · replace vc := vc.1 q_1
    refine pz_null F dX8_known_21 ?_
    exact pz_areturn (w1 := [(h0, .inr (7, [.ref zt, .ref zl, .ref zc, .ref zm, .ref zb, .ref zs, .int bn, .int hk])), (zb, .inl (g.2.1 4, 10, .inr (.inr (.inr (.inr bq)))))]) F Rt (by decide) (by decide) (Or.inl ⟨_, rfl⟩) (Or.inl rfl) dX8_known_22 [0, 1] rfl rfl vc
  · replace vc := vc.2 q_1
    refine pz_iload_n 1 F rfl dX8_known_4 rfl ?_
    refine pz_aload_n 0 F rfl dX8_known_5 rfl ?_
    refine pz_get (ci := 7) (C := RX8) (T := TX8) (N := 8) (v := .int bn) 0 F rfl rfl pz_inX8 6 (by decide) pw_216 rfl dX8_known_6 ?_
    refine pz_icmp_ge (tgt := 21) F dX8_known_9 (by decide) (fun q_2 => ?_) (fun q_2 => ?_)
    · replace vc := vc.1 q_2
      refine pz_null F dX8_known_21 ?_
      exact pz_areturn (w1 := [(h0, .inr (7, [.ref zt, .ref zl, .ref zc, .ref zm, .ref zb, .ref zs, .int bn, .int hk])), (zb, .inl (g.2.1 4, 10, .inr (.inr (.inr (.inr bq)))))]) F Rt (by decide) (by decide) (Or.inl ⟨_, rfl⟩) (Or.inl rfl) dX8_known_22 [0, 1] rfl rfl vc
    · replace vc := vc.2 q_2
      refine pz_aload_n 0 F rfl dX8_known_12 rfl ?_
      refine pz_get (ci := 7) (C := RX8) (T := TX8) (N := 8) (v := .ref zb) 0 F rfl rfl pz_inX8 4 (by decide) pw_214 rfl dX8_known_13 ?_
      refine pz_iload_n 1 F rfl dX8_known_16 rfl ?_
      obtain ⟨h_3, vc⟩ := vc
      refine pz_aaload 1 F rfl h_3 dX8_known_17 ?_
      obtain ⟨r_4, er_4⟩ : ∃ z : Option Nat, z = bq x.toNatClampNeg := ⟨_, rfl⟩
      rw [← er_4]
      replace vc := vc r_4 er_4
      rcases r_4 with _ | b_5
      · replace vc := vc.1 rfl
        show pz_At B 0 0 18 [(0, .ref h0), (1, .int x)] [.null] [(h0, .inr (7, [.ref zt, .ref zl, .ref zc, .ref zm, .ref zb, .ref zs, .int bn, .int hk])), (zb, .inl (g.2.1 4, 10, .inr (.inr (.inr (.inr bq)))))]
        refine pz_goto (tgt := 22) F dX8_known_18 (by decide) ?_
        exact pz_areturn (w1 := [(h0, .inr (7, [.ref zt, .ref zl, .ref zc, .ref zm, .ref zb, .ref zs, .int bn, .int hk])), (zb, .inl (g.2.1 4, 10, .inr (.inr (.inr (.inr bq)))))]) F Rt (by decide) (by decide) (Or.inl ⟨_, rfl⟩) (Or.inl rfl) dX8_known_22 [0, 1] rfl rfl vc
      · replace vc := vc.2 b_5 rfl
        show pz_At B 0 0 18 [(0, .ref h0), (1, .int x)] [.ref b_5] [(h0, .inr (7, [.ref zt, .ref zl, .ref zc, .ref zm, .ref zb, .ref zs, .int bn, .int hk])), (zb, .inl (g.2.1 4, 10, .inr (.inr (.inr (.inr bq)))))]
        refine pz_goto (tgt := 22) F dX8_known_18 (by decide) ?_
        exact pz_areturn (w1 := [(h0, .inr (7, [.ref zt, .ref zl, .ref zc, .ref zm, .ref zb, .ref zs, .int bn, .int hk])), (zb, .inl (g.2.1 4, 10, .inr (.inr (.inr (.inr bq)))))]) F Rt (by decide) (by decide) (Or.inl ⟨_, rfl⟩) (Or.inr ⟨_, rfl⟩) dX8_known_22 [0, 1] rfl rfl vc
set_option maxHeartbeats 4000000 in
set_option maxRecDepth 100000 in
theorem ctX8_known_A (l : Launch) (g : pz_G) (h0 : Nat) (x : Int32) (zt : Nat) (zl : Nat) (zc : Nat) (zm : Nat) (zb : Nat) (zs : Nat) (bn : Int32) (hk : Int32) (bq : Nat → Option Nat) (hpre : x < 0 ∨ bn ≤ x) : pz_Ct l g yX8_known cX8_known 2 (some (.object "StoneHall$Boulder")) rmX8_known_A [.ref h0, .int x] [(h0, .inr (7, [.ref zt, .ref zl, .ref zc, .ref zm, .ref zb, .ref zs, .int bn, .int hk])), (zb, .inl (g.2.1 4, 10, .inr (.inr (.inr (.inr bq)))))] (pz_pw .null (fun (u : Unit) => True) (fun (u : Unit) => [(h0, .inr (7, [.ref zt, .ref zl, .ref zc, .ref zm, .ref zb, .ref zs, .int bn, .int hk])), (zb, .inl (g.2.1 4, 10, .inr (.inr (.inr (.inr bq)))))])) := by
  refine pz_ofAt (by decide +kernel) (Nat.le_of_ble_eq_true rfl) (fun B F Rt hme => ?_)
  refine sgX8_known_A_0 F Rt h0 x zt zl zc zm zb zs bn hk bq ?_
  clear F Rt hme
  refine ⟨fun q => ⟨(), rfl, rfl, trivial⟩, fun q => ⟨fun q2 => ⟨(), rfl, rfl, trivial⟩, fun q2 => ?_⟩⟩
  rcases hpre with h | h
  · exact absurd h q
  · exact absurd h q2
abbrev rmX8_known_B : Room := { frames := 0, cells := 0, slots := 0, locals := 0 }
set_option maxHeartbeats 4000000 in
set_option maxRecDepth 100000 in
theorem sgX8_known_B_0 {B : pz_B} {g : pz_G} {wc : va_W} {Post : Option Value → va_W → Prop} (F : pz_F B cX8_known 2 (some (.object "StoneHall$Boulder")) yX8_known.cls g rmX8_known_B) (Rt : pz_Rt B g wc Post rmX8_known_B) (x : Int32) (h0 : Nat) (zt : Nat) (zl : Nat) (zc : Nat) (zm : Nat) (zb : Nat) (zs : Nat) (bn : Int32) (hk : Int32) (bq : Nat → Option Nat) (ba : Nat) (sl : Int32) (ins : Int32) (bpa : Nat) (bbd : Nat) (bbc : Nat) (cnt : Int32) (se : Int32) (sp : Int32) (jb : Nat) (NB : Nat)  (vc : ((x < 0 → Post (some (.null)) [(h0, .inr (7, [.ref zt, .ref zl, .ref zc, .ref zm, .ref zb, .ref zs, .int bn, .int hk])), (zb, .inl (g.2.1 4, 10, .inr (.inr (.inr (.inr bq))))), (ba, .inr (0, [.int sl, .int ins, .ref bpa, .ref bbd, .ref bbc, .int cnt, .int se, .int sp]))]) ∧ (¬ x < 0 → ((bn ≤ x → Post (some (.null)) [(h0, .inr (7, [.ref zt, .ref zl, .ref zc, .ref zm, .ref zb, .ref zs, .int bn, .int hk])), (zb, .inl (g.2.1 4, 10, .inr (.inr (.inr (.inr bq))))), (ba, .inr (0, [.int sl, .int ins, .ref bpa, .ref bbd, .ref bbc, .int cnt, .int se, .int sp]))]) ∧ (¬ bn ≤ x → vp_in x 10 ∧ ∀ r_4 : Option Nat, r_4 = bq x.toNatClampNeg → ((r_4 = none → Post (some (.null)) [(h0, .inr (7, [.ref zt, .ref zl, .ref zc, .ref zm, .ref zb, .ref zs, .int bn, .int hk])), (zb, .inl (g.2.1 4, 10, .inr (.inr (.inr (.inr bq))))), (ba, .inr (0, [.int sl, .int ins, .ref bpa, .ref bbd, .ref bbc, .int cnt, .int se, .int sp]))]) ∧ (∀ b_5 : Nat, r_4 = some b_5 → Post (some (.ref b_5)) [(h0, .inr (7, [.ref zt, .ref zl, .ref zc, .ref zm, .ref zb, .ref zs, .int bn, .int hk])), (zb, .inl (g.2.1 4, 10, .inr (.inr (.inr (.inr bq))))), (ba, .inr (0, [.int sl, .int ins, .ref bpa, .ref bbd, .ref bbc, .int cnt, .int se, .int sp]))]))))))) : pz_At B 0 0 0 [(0, .ref h0), (1, .int x)] [] [(h0, .inr (7, [.ref zt, .ref zl, .ref zc, .ref zm, .ref zb, .ref zs, .int bn, .int hk])), (zb, .inl (g.2.1 4, 10, .inr (.inr (.inr (.inr bq))))), (ba, .inr (0, [.int sl, .int ins, .ref bpa, .ref bbd, .ref bbc, .int cnt, .int se, .int sp]))] := by
  refine pz_iload_n 1 F rfl dX8_known_0 rfl ?_
  refine pz_if_lt (tgt := 21) F dX8_known_1 (by decide) (fun q_1 => ?_) (fun q_1 => ?_)
  · replace vc := vc.1 q_1
    refine pz_null F dX8_known_21 ?_
    exact pz_areturn (w1 := [(h0, .inr (7, [.ref zt, .ref zl, .ref zc, .ref zm, .ref zb, .ref zs, .int bn, .int hk])), (zb, .inl (g.2.1 4, 10, .inr (.inr (.inr (.inr bq))))), (ba, .inr (0, [.int sl, .int ins, .ref bpa, .ref bbd, .ref bbc, .int cnt, .int se, .int sp]))]) F Rt (by decide) (by decide) (Or.inl ⟨_, rfl⟩) (Or.inl rfl) dX8_known_22 [0, 1, 2] rfl rfl vc
  · replace vc := vc.2 q_1
    refine pz_iload_n 1 F rfl dX8_known_4 rfl ?_
    refine pz_aload_n 0 F rfl dX8_known_5 rfl ?_
    refine pz_get (ci := 7) (C := RX8) (T := TX8) (N := 8) (v := .int bn) 0 F rfl rfl pz_inX8 6 (by decide) pw_216 rfl dX8_known_6 ?_
    refine pz_icmp_ge (tgt := 21) F dX8_known_9 (by decide) (fun q_2 => ?_) (fun q_2 => ?_)
    · replace vc := vc.1 q_2
      refine pz_null F dX8_known_21 ?_
      exact pz_areturn (w1 := [(h0, .inr (7, [.ref zt, .ref zl, .ref zc, .ref zm, .ref zb, .ref zs, .int bn, .int hk])), (zb, .inl (g.2.1 4, 10, .inr (.inr (.inr (.inr bq))))), (ba, .inr (0, [.int sl, .int ins, .ref bpa, .ref bbd, .ref bbc, .int cnt, .int se, .int sp]))]) F Rt (by decide) (by decide) (Or.inl ⟨_, rfl⟩) (Or.inl rfl) dX8_known_22 [0, 1, 2] rfl rfl vc
    · replace vc := vc.2 q_2
      refine pz_aload_n 0 F rfl dX8_known_12 rfl ?_
      refine pz_get (ci := 7) (C := RX8) (T := TX8) (N := 8) (v := .ref zb) 0 F rfl rfl pz_inX8 4 (by decide) pw_214 rfl dX8_known_13 ?_
      refine pz_iload_n 1 F rfl dX8_known_16 rfl ?_
      obtain ⟨h_3, vc⟩ := vc
      refine pz_aaload 1 F rfl h_3 dX8_known_17 ?_
      obtain ⟨r_4, er_4⟩ : ∃ z : Option Nat, z = bq x.toNatClampNeg := ⟨_, rfl⟩
      rw [← er_4]
      replace vc := vc r_4 er_4
      rcases r_4 with _ | b_5
      · replace vc := vc.1 rfl
        show pz_At B 0 0 18 [(0, .ref h0), (1, .int x)] [.null] [(h0, .inr (7, [.ref zt, .ref zl, .ref zc, .ref zm, .ref zb, .ref zs, .int bn, .int hk])), (zb, .inl (g.2.1 4, 10, .inr (.inr (.inr (.inr bq))))), (ba, .inr (0, [.int sl, .int ins, .ref bpa, .ref bbd, .ref bbc, .int cnt, .int se, .int sp]))]
        refine pz_goto (tgt := 22) F dX8_known_18 (by decide) ?_
        exact pz_areturn (w1 := [(h0, .inr (7, [.ref zt, .ref zl, .ref zc, .ref zm, .ref zb, .ref zs, .int bn, .int hk])), (zb, .inl (g.2.1 4, 10, .inr (.inr (.inr (.inr bq))))), (ba, .inr (0, [.int sl, .int ins, .ref bpa, .ref bbd, .ref bbc, .int cnt, .int se, .int sp]))]) F Rt (by decide) (by decide) (Or.inl ⟨_, rfl⟩) (Or.inl rfl) dX8_known_22 [0, 1, 2] rfl rfl vc
      · replace vc := vc.2 b_5 rfl
        show pz_At B 0 0 18 [(0, .ref h0), (1, .int x)] [.ref b_5] [(h0, .inr (7, [.ref zt, .ref zl, .ref zc, .ref zm, .ref zb, .ref zs, .int bn, .int hk])), (zb, .inl (g.2.1 4, 10, .inr (.inr (.inr (.inr bq))))), (ba, .inr (0, [.int sl, .int ins, .ref bpa, .ref bbd, .ref bbc, .int cnt, .int se, .int sp]))]
        refine pz_goto (tgt := 22) F dX8_known_18 (by decide) ?_
        exact pz_areturn (w1 := [(h0, .inr (7, [.ref zt, .ref zl, .ref zc, .ref zm, .ref zb, .ref zs, .int bn, .int hk])), (zb, .inl (g.2.1 4, 10, .inr (.inr (.inr (.inr bq))))), (ba, .inr (0, [.int sl, .int ins, .ref bpa, .ref bbd, .ref bbc, .int cnt, .int se, .int sp]))]) F Rt (by decide) (by decide) (Or.inl ⟨_, rfl⟩) (Or.inr ⟨_, rfl⟩) dX8_known_22 [0, 1, 2] rfl rfl vc
set_option maxHeartbeats 4000000 in
set_option maxRecDepth 100000 in
theorem ctX8_known_B (l : Launch) (g : pz_G) (x : Int32) (h0 : Nat) (zt : Nat) (zl : Nat) (zc : Nat) (zm : Nat) (zb : Nat) (zs : Nat) (bn : Int32) (hk : Int32) (bq : Nat → Option Nat) (ba : Nat) (sl : Int32) (ins : Int32) (bpa : Nat) (bbd : Nat) (bbc : Nat) (cnt : Int32) (se : Int32) (sp : Int32) (jb : Nat) (NB : Nat) (hpre : jb < NB ∧ NB ≤ 10 ∧ x = nI jb ∧ bn = nI NB ∧ bq jb = some ba) : pz_Ct l g yX8_known cX8_known 2 (some (.object "StoneHall$Boulder")) rmX8_known_B [.ref h0, .int x] [(h0, .inr (7, [.ref zt, .ref zl, .ref zc, .ref zm, .ref zb, .ref zs, .int bn, .int hk])), (zb, .inl (g.2.1 4, 10, .inr (.inr (.inr (.inr bq))))), (ba, .inr (0, [.int sl, .int ins, .ref bpa, .ref bbd, .ref bbc, .int cnt, .int se, .int sp]))] (pz_pw (.ref ba) (fun (u : Unit) => True) (fun (u : Unit) => [(h0, .inr (7, [.ref zt, .ref zl, .ref zc, .ref zm, .ref zb, .ref zs, .int bn, .int hk])), (zb, .inl (g.2.1 4, 10, .inr (.inr (.inr (.inr bq))))), (ba, .inr (0, [.int sl, .int ins, .ref bpa, .ref bbd, .ref bbc, .int cnt, .int se, .int sp]))])) := by
  refine pz_ofAt (by decide +kernel) (Nat.le_of_ble_eq_true rfl) (fun B F Rt hme => ?_)
  obtain ⟨h1, h2, h3, h4, h5⟩ := hpre
  subst h3; subst h4
  refine sgX8_known_B_0 F Rt (nI jb) h0 zt zl zc zm zb zs (nI NB) hk bq ba sl ins bpa bbd bbc cnt se sp jb NB ?_
  clear F Rt hme
  refine ⟨fun q => absurd q (nI_pos (by omega)), fun q => ⟨fun q2 => absurd (pu_ge (by omega) q2) (by omega), fun q2 => ⟨vp_in_nI (by omega) (by omega), ?_⟩⟩⟩
  rw [nI_clamp (by omega), h5]
  rintro r rfl
  refine ⟨fun e => absurd e (by simp), fun y e => ?_⟩
  cases e
  exact ⟨(), rfl, rfl, trivial⟩
abbrev rmX8_unspent_A : Room := { frames := 1, cells := 0, slots := 0, locals := 21 }
set_option maxHeartbeats 4000000 in
set_option maxRecDepth 100000 in
theorem sgX8_unspent_A_0 {B : pz_B} {g : pz_G} {wc : va_W} {Post : Option Value → va_W → Prop} (F : pz_F B cX8_unspent 3 (some (.object "StoneHall$Boulder")) yX8_unspent.cls g rmX8_unspent_A) (Rt : pz_Rt B g wc Post rmX8_unspent_A) (h0 : Nat) (x : Int32) (zt : Nat) (zl : Nat) (zc : Nat) (zm : Nat) (zb : Nat) (zs : Nat) (bn : Int32) (hk : Int32) (bq : Nat → Option Nat)  (vc : (x < 0 ∨ bn ≤ x) ∧ ∀ _ : (True), Post (some (.null)) [(h0, .inr (7, [.ref zt, .ref zl, .ref zc, .ref zm, .ref zb, .ref zs, .int bn, .int hk])), (zb, .inl (g.2.1 4, 10, .inr (.inr (.inr (.inr bq)))))]) : pz_At B 0 0 0 [(0, .ref h0), (1, .int x)] [] [(h0, .inr (7, [.ref zt, .ref zl, .ref zc, .ref zm, .ref zb, .ref zs, .int bn, .int hk])), (zb, .inl (g.2.1 4, 10, .inr (.inr (.inr (.inr bq)))))] := by
  refine pz_aload_n 0 F rfl dX8_unspent_0 rfl ?_
  refine pz_iload_n 1 F rfl dX8_unspent_1 rfl ?_
  obtain ⟨h_1, vc⟩ := vc
  refine pz_callV (nA := 1) (ci := 7) (C := RX8) (T := TX8) (N := 8) (As := [.int x]) (rest := []) (wr := []) F (ctX8_known_A _ g h0 x zt zl zc zm zb zs bn hk bq h_1) 0 rfl rfl pw_485 pw_487 pv_13 pw_1 pw_488 (by decide +kernel) (by decide) (by decide) rfl rfl (Nat.le_of_ble_eq_true rfl) [0, 1] [] rfl rfl rfl rfl (by decide) dX8_unspent_2 (fun r0 w0 hp0 => ?_)
  obtain ⟨_, rfl, rfl, hq_2⟩ := hp0
  replace vc := vc  hq_2
  refine pz_eq (st' := [.null]) (ws' := [(h0, .inr (7, [.ref zt, .ref zl, .ref zc, .ref zm, .ref zb, .ref zs, .int bn, .int hk])), (zb, .inl (g.2.1 4, 10, .inr (.inr (.inr (.inr bq)))))]) rfl rfl ?_
  refine pz_astore_nN (lv' := [(2, .null), (0, .ref h0), (1, .int x)]) F dX8_unspent_5 rfl (by decide) rfl ?_
  refine pz_aload_nN 0 F rfl dX8_unspent_6 rfl ?_
  refine pz_ifnullN (tgt := 17) F dX8_unspent_7 (by decide) ?_
  refine pz_null F dX8_unspent_17 ?_
  refine pz_goto (tgt := 22) F dX8_unspent_18 (by decide) ?_
  exact pz_areturn (w1 := [(h0, .inr (7, [.ref zt, .ref zl, .ref zc, .ref zm, .ref zb, .ref zs, .int bn, .int hk])), (zb, .inl (g.2.1 4, 10, .inr (.inr (.inr (.inr bq)))))]) F Rt (by decide) (by decide) (Or.inl ⟨_, rfl⟩) (Or.inl rfl) dX8_unspent_22 [0, 1] rfl rfl vc
set_option maxHeartbeats 4000000 in
set_option maxRecDepth 100000 in
theorem ctX8_unspent_A (l : Launch) (g : pz_G) (h0 : Nat) (x : Int32) (zt : Nat) (zl : Nat) (zc : Nat) (zm : Nat) (zb : Nat) (zs : Nat) (bn : Int32) (hk : Int32) (bq : Nat → Option Nat) (hpre : x < 0 ∨ bn ≤ x) : pz_Ct l g yX8_unspent cX8_unspent 3 (some (.object "StoneHall$Boulder")) rmX8_unspent_A [.ref h0, .int x] [(h0, .inr (7, [.ref zt, .ref zl, .ref zc, .ref zm, .ref zb, .ref zs, .int bn, .int hk])), (zb, .inl (g.2.1 4, 10, .inr (.inr (.inr (.inr bq)))))] (pz_pw .null (fun (u : Unit) => True) (fun (u : Unit) => [(h0, .inr (7, [.ref zt, .ref zl, .ref zc, .ref zm, .ref zb, .ref zs, .int bn, .int hk])), (zb, .inl (g.2.1 4, 10, .inr (.inr (.inr (.inr bq)))))])) := by
  refine pz_ofAt (by decide +kernel) (Nat.le_of_ble_eq_true rfl) (fun B F Rt hme => ?_)
  refine sgX8_unspent_A_0 F Rt h0 x zt zl zc zm zb zs bn hk bq ?_
  exact ⟨hpre, fun _ => ⟨(), rfl, rfl, trivial⟩⟩
abbrev rmX8_unspent_S : Room := { frames := 1, cells := 0, slots := 0, locals := 21 }
set_option maxHeartbeats 4000000 in
set_option maxRecDepth 100000 in
theorem sgX8_unspent_S_0 {B : pz_B} {g : pz_G} {wc : va_W} {Post : Option Value → va_W → Prop} (F : pz_F B cX8_unspent 3 (some (.object "StoneHall$Boulder")) yX8_unspent.cls g rmX8_unspent_S) (Rt : pz_Rt B g wc Post rmX8_unspent_S) (x : Int32) (h0 : Nat) (zt : Nat) (zl : Nat) (zc : Nat) (zm : Nat) (zb : Nat) (zs : Nat) (bn : Int32) (hk : Int32) (bq : Nat → Option Nat) (ba : Nat) (sl : Int32) (ins : Int32) (bpa : Nat) (bbd : Nat) (bbc : Nat) (cnt : Int32) (se : Int32) (jb : Nat) (NB : Nat)  (vc : (jb < NB ∧ NB ≤ 10 ∧ x = nI jb ∧ bn = nI NB ∧ bq jb = some ba) ∧ ∀ _ : (True), (((1 : Int32) = 0 → Post (some (.ref ba)) [(h0, .inr (7, [.ref zt, .ref zl, .ref zc, .ref zm, .ref zb, .ref zs, .int bn, .int hk])), (zb, .inl (g.2.1 4, 10, .inr (.inr (.inr (.inr bq))))), (ba, .inr (0, [.int sl, .int ins, .ref bpa, .ref bbd, .ref bbc, .int cnt, .int se, .int 1]))]) ∧ (¬ (1 : Int32) = 0 → Post (some (.null)) [(h0, .inr (7, [.ref zt, .ref zl, .ref zc, .ref zm, .ref zb, .ref zs, .int bn, .int hk])), (zb, .inl (g.2.1 4, 10, .inr (.inr (.inr (.inr bq))))), (ba, .inr (0, [.int sl, .int ins, .ref bpa, .ref bbd, .ref bbc, .int cnt, .int se, .int 1]))]))) : pz_At B 0 0 0 [(0, .ref h0), (1, .int x)] [] [(h0, .inr (7, [.ref zt, .ref zl, .ref zc, .ref zm, .ref zb, .ref zs, .int bn, .int hk])), (zb, .inl (g.2.1 4, 10, .inr (.inr (.inr (.inr bq))))), (ba, .inr (0, [.int sl, .int ins, .ref bpa, .ref bbd, .ref bbc, .int cnt, .int se, .int 1]))] := by
  refine pz_aload_n 0 F rfl dX8_unspent_0 rfl ?_
  refine pz_iload_n 1 F rfl dX8_unspent_1 rfl ?_
  obtain ⟨h_1, vc⟩ := vc
  refine pz_callV (nA := 1) (ci := 7) (C := RX8) (T := TX8) (N := 8) (As := [.int x]) (rest := []) (wr := []) F (ctX8_known_B _ g x h0 zt zl zc zm zb zs bn hk bq ba sl ins bpa bbd bbc cnt se 1 jb NB h_1) 0 rfl rfl pw_485 pw_487 pv_13 pw_1 pw_488 (by decide +kernel) (by decide) (by decide) rfl rfl (Nat.le_of_ble_eq_true rfl) [0, 1, 2] [] rfl rfl rfl rfl (by decide) dX8_unspent_2 (fun r0 w0 hp0 => ?_)
  obtain ⟨_, rfl, rfl, hq_2⟩ := hp0
  replace vc := vc  hq_2
  refine pz_eq (st' := [.ref ba]) (ws' := [(h0, .inr (7, [.ref zt, .ref zl, .ref zc, .ref zm, .ref zb, .ref zs, .int bn, .int hk])), (zb, .inl (g.2.1 4, 10, .inr (.inr (.inr (.inr bq))))), (ba, .inr (0, [.int sl, .int ins, .ref bpa, .ref bbd, .ref bbc, .int cnt, .int se, .int 1]))]) rfl rfl ?_
  refine pz_astore_n (lv' := [(2, .ref ba), (0, .ref h0), (1, .int x)]) F dX8_unspent_5 rfl (by decide) rfl ?_
  refine pz_aload_n 0 F rfl dX8_unspent_6 rfl ?_
  refine pz_ifnull F dX8_unspent_7 ?_
  refine pz_aload_n 0 F rfl dX8_unspent_10 rfl ?_
  refine pz_get (ci := 0) (C := RX0) (T := TX0) (N := 8) (v := .int 1) 2 F rfl rfl pz_inX0 7 (by decide) pw_459 rfl dX8_unspent_11 ?_
  refine pz_if_eq (tgt := 21) F dX8_unspent_14 (by decide) (fun q_3 => ?_) (fun q_3 => ?_)
  · replace vc := vc.1 q_3
    refine pz_aload_n 0 F rfl dX8_unspent_21 rfl ?_
    exact pz_areturn (w1 := [(h0, .inr (7, [.ref zt, .ref zl, .ref zc, .ref zm, .ref zb, .ref zs, .int bn, .int hk])), (zb, .inl (g.2.1 4, 10, .inr (.inr (.inr (.inr bq))))), (ba, .inr (0, [.int sl, .int ins, .ref bpa, .ref bbd, .ref bbc, .int cnt, .int se, .int 1]))]) F Rt (by decide) (by decide) (Or.inl ⟨_, rfl⟩) (Or.inr ⟨_, rfl⟩) dX8_unspent_22 [0, 1, 2] rfl rfl vc
  · replace vc := vc.2 q_3
    refine pz_null F dX8_unspent_17 ?_
    refine pz_goto (tgt := 22) F dX8_unspent_18 (by decide) ?_
    exact pz_areturn (w1 := [(h0, .inr (7, [.ref zt, .ref zl, .ref zc, .ref zm, .ref zb, .ref zs, .int bn, .int hk])), (zb, .inl (g.2.1 4, 10, .inr (.inr (.inr (.inr bq))))), (ba, .inr (0, [.int sl, .int ins, .ref bpa, .ref bbd, .ref bbc, .int cnt, .int se, .int 1]))]) F Rt (by decide) (by decide) (Or.inl ⟨_, rfl⟩) (Or.inl rfl) dX8_unspent_22 [0, 1, 2] rfl rfl vc
set_option maxHeartbeats 4000000 in
set_option maxRecDepth 100000 in
theorem ctX8_unspent_S (l : Launch) (g : pz_G) (x : Int32) (h0 : Nat) (zt : Nat) (zl : Nat) (zc : Nat) (zm : Nat) (zb : Nat) (zs : Nat) (bn : Int32) (hk : Int32) (bq : Nat → Option Nat) (ba : Nat) (sl : Int32) (ins : Int32) (bpa : Nat) (bbd : Nat) (bbc : Nat) (cnt : Int32) (se : Int32) (jb : Nat) (NB : Nat) (hpre : jb < NB ∧ NB ≤ 10 ∧ x = nI jb ∧ bn = nI NB ∧ bq jb = some ba) : pz_Ct l g yX8_unspent cX8_unspent 3 (some (.object "StoneHall$Boulder")) rmX8_unspent_S [.ref h0, .int x] [(h0, .inr (7, [.ref zt, .ref zl, .ref zc, .ref zm, .ref zb, .ref zs, .int bn, .int hk])), (zb, .inl (g.2.1 4, 10, .inr (.inr (.inr (.inr bq))))), (ba, .inr (0, [.int sl, .int ins, .ref bpa, .ref bbd, .ref bbc, .int cnt, .int se, .int 1]))] (pz_pw .null (fun (u : Unit) => True) (fun (u : Unit) => [(h0, .inr (7, [.ref zt, .ref zl, .ref zc, .ref zm, .ref zb, .ref zs, .int bn, .int hk])), (zb, .inl (g.2.1 4, 10, .inr (.inr (.inr (.inr bq))))), (ba, .inr (0, [.int sl, .int ins, .ref bpa, .ref bbd, .ref bbc, .int cnt, .int se, .int 1]))])) := by
  refine pz_ofAt (by decide +kernel) (Nat.le_of_ble_eq_true rfl) (fun B F Rt hme => ?_)
  refine sgX8_unspent_S_0 F Rt x h0 zt zl zc zm zb zs bn hk bq ba sl ins bpa bbd bbc cnt se jb NB ?_
  exact ⟨hpre, fun _ => ⟨fun q => absurd q (by decide), fun q => ⟨(), rfl, rfl, trivial⟩⟩⟩
abbrev rmX8_unspent_B : Room := { frames := 1, cells := 0, slots := 0, locals := 21 }
set_option maxHeartbeats 4000000 in
set_option maxRecDepth 100000 in
theorem sgX8_unspent_B_0 {B : pz_B} {g : pz_G} {wc : va_W} {Post : Option Value → va_W → Prop} (F : pz_F B cX8_unspent 3 (some (.object "StoneHall$Boulder")) yX8_unspent.cls g rmX8_unspent_B) (Rt : pz_Rt B g wc Post rmX8_unspent_B) (x : Int32) (h0 : Nat) (zt : Nat) (zl : Nat) (zc : Nat) (zm : Nat) (zb : Nat) (zs : Nat) (bn : Int32) (hk : Int32) (bq : Nat → Option Nat) (ba : Nat) (sl : Int32) (ins : Int32) (bpa : Nat) (bbd : Nat) (bbc : Nat) (cnt : Int32) (se : Int32) (jb : Nat) (NB : Nat)  (vc : (jb < NB ∧ NB ≤ 10 ∧ x = nI jb ∧ bn = nI NB ∧ bq jb = some ba) ∧ ∀ _ : (True), (((0 : Int32) = 0 → Post (some (.ref ba)) [(h0, .inr (7, [.ref zt, .ref zl, .ref zc, .ref zm, .ref zb, .ref zs, .int bn, .int hk])), (zb, .inl (g.2.1 4, 10, .inr (.inr (.inr (.inr bq))))), (ba, .inr (0, [.int sl, .int ins, .ref bpa, .ref bbd, .ref bbc, .int cnt, .int se, .int 0]))]) ∧ (¬ (0 : Int32) = 0 → Post (some (.null)) [(h0, .inr (7, [.ref zt, .ref zl, .ref zc, .ref zm, .ref zb, .ref zs, .int bn, .int hk])), (zb, .inl (g.2.1 4, 10, .inr (.inr (.inr (.inr bq))))), (ba, .inr (0, [.int sl, .int ins, .ref bpa, .ref bbd, .ref bbc, .int cnt, .int se, .int 0]))]))) : pz_At B 0 0 0 [(0, .ref h0), (1, .int x)] [] [(h0, .inr (7, [.ref zt, .ref zl, .ref zc, .ref zm, .ref zb, .ref zs, .int bn, .int hk])), (zb, .inl (g.2.1 4, 10, .inr (.inr (.inr (.inr bq))))), (ba, .inr (0, [.int sl, .int ins, .ref bpa, .ref bbd, .ref bbc, .int cnt, .int se, .int 0]))] := by
  refine pz_aload_n 0 F rfl dX8_unspent_0 rfl ?_
  refine pz_iload_n 1 F rfl dX8_unspent_1 rfl ?_
  obtain ⟨h_1, vc⟩ := vc
  refine pz_callV (nA := 1) (ci := 7) (C := RX8) (T := TX8) (N := 8) (As := [.int x]) (rest := []) (wr := []) F (ctX8_known_B _ g x h0 zt zl zc zm zb zs bn hk bq ba sl ins bpa bbd bbc cnt se 0 jb NB h_1) 0 rfl rfl pw_485 pw_487 pv_13 pw_1 pw_488 (by decide +kernel) (by decide) (by decide) rfl rfl (Nat.le_of_ble_eq_true rfl) [0, 1, 2] [] rfl rfl rfl rfl (by decide) dX8_unspent_2 (fun r0 w0 hp0 => ?_)
  obtain ⟨_, rfl, rfl, hq_2⟩ := hp0
  replace vc := vc  hq_2
  refine pz_eq (st' := [.ref ba]) (ws' := [(h0, .inr (7, [.ref zt, .ref zl, .ref zc, .ref zm, .ref zb, .ref zs, .int bn, .int hk])), (zb, .inl (g.2.1 4, 10, .inr (.inr (.inr (.inr bq))))), (ba, .inr (0, [.int sl, .int ins, .ref bpa, .ref bbd, .ref bbc, .int cnt, .int se, .int 0]))]) rfl rfl ?_
  refine pz_astore_n (lv' := [(2, .ref ba), (0, .ref h0), (1, .int x)]) F dX8_unspent_5 rfl (by decide) rfl ?_
  refine pz_aload_n 0 F rfl dX8_unspent_6 rfl ?_
  refine pz_ifnull F dX8_unspent_7 ?_
  refine pz_aload_n 0 F rfl dX8_unspent_10 rfl ?_
  refine pz_get (ci := 0) (C := RX0) (T := TX0) (N := 8) (v := .int 0) 2 F rfl rfl pz_inX0 7 (by decide) pw_459 rfl dX8_unspent_11 ?_
  refine pz_if_eq (tgt := 21) F dX8_unspent_14 (by decide) (fun q_3 => ?_) (fun q_3 => ?_)
  · replace vc := vc.1 q_3
    refine pz_aload_n 0 F rfl dX8_unspent_21 rfl ?_
    exact pz_areturn (w1 := [(h0, .inr (7, [.ref zt, .ref zl, .ref zc, .ref zm, .ref zb, .ref zs, .int bn, .int hk])), (zb, .inl (g.2.1 4, 10, .inr (.inr (.inr (.inr bq))))), (ba, .inr (0, [.int sl, .int ins, .ref bpa, .ref bbd, .ref bbc, .int cnt, .int se, .int 0]))]) F Rt (by decide) (by decide) (Or.inl ⟨_, rfl⟩) (Or.inr ⟨_, rfl⟩) dX8_unspent_22 [0, 1, 2] rfl rfl vc
  · replace vc := vc.2 q_3
    refine pz_null F dX8_unspent_17 ?_
    refine pz_goto (tgt := 22) F dX8_unspent_18 (by decide) ?_
    exact pz_areturn (w1 := [(h0, .inr (7, [.ref zt, .ref zl, .ref zc, .ref zm, .ref zb, .ref zs, .int bn, .int hk])), (zb, .inl (g.2.1 4, 10, .inr (.inr (.inr (.inr bq))))), (ba, .inr (0, [.int sl, .int ins, .ref bpa, .ref bbd, .ref bbc, .int cnt, .int se, .int 0]))]) F Rt (by decide) (by decide) (Or.inl ⟨_, rfl⟩) (Or.inl rfl) dX8_unspent_22 [0, 1, 2] rfl rfl vc
set_option maxHeartbeats 4000000 in
set_option maxRecDepth 100000 in
theorem ctX8_unspent_B (l : Launch) (g : pz_G) (x : Int32) (h0 : Nat) (zt : Nat) (zl : Nat) (zc : Nat) (zm : Nat) (zb : Nat) (zs : Nat) (bn : Int32) (hk : Int32) (bq : Nat → Option Nat) (ba : Nat) (sl : Int32) (ins : Int32) (bpa : Nat) (bbd : Nat) (bbc : Nat) (cnt : Int32) (se : Int32) (jb : Nat) (NB : Nat) (hpre : jb < NB ∧ NB ≤ 10 ∧ x = nI jb ∧ bn = nI NB ∧ bq jb = some ba) : pz_Ct l g yX8_unspent cX8_unspent 3 (some (.object "StoneHall$Boulder")) rmX8_unspent_B [.ref h0, .int x] [(h0, .inr (7, [.ref zt, .ref zl, .ref zc, .ref zm, .ref zb, .ref zs, .int bn, .int hk])), (zb, .inl (g.2.1 4, 10, .inr (.inr (.inr (.inr bq))))), (ba, .inr (0, [.int sl, .int ins, .ref bpa, .ref bbd, .ref bbc, .int cnt, .int se, .int 0]))] (pz_pw (.ref ba) (fun (u : Unit) => True) (fun (u : Unit) => [(h0, .inr (7, [.ref zt, .ref zl, .ref zc, .ref zm, .ref zb, .ref zs, .int bn, .int hk])), (zb, .inl (g.2.1 4, 10, .inr (.inr (.inr (.inr bq))))), (ba, .inr (0, [.int sl, .int ins, .ref bpa, .ref bbd, .ref bbc, .int cnt, .int se, .int 0]))])) := by
  refine pz_ofAt (by decide +kernel) (Nat.le_of_ble_eq_true rfl) (fun B F Rt hme => ?_)
  refine sgX8_unspent_B_0 F Rt x h0 zt zl zc zm zb zs bn hk bq ba sl ins bpa bbd bbc cnt se jb NB ?_
  exact ⟨hpre, fun _ => ⟨fun q => ⟨(), rfl, rfl, trivial⟩, fun q => absurd rfl q⟩⟩
abbrev rmX8_fault : Room := { frames := 0, cells := 0, slots := 0, locals := 0 }
set_option maxHeartbeats 4000000 in
set_option maxRecDepth 100000 in
theorem sgX8_fault_0 {B : pz_B} {g : pz_G} {wc : va_W} {Post : Option Value → va_W → Prop} (F : pz_F B cX8_fault 2 (some .int) yX8_fault.cls g rmX8_fault) (Rt : pz_Rt B g wc Post rmX8_fault) (h0 : Nat) (w : Int32) (zt : Nat) (zl : Nat) (zc : Nat) (zm : Nat) (zb : Nat) (zs : Nat) (bn : Int32) (hk : Int32) (zlr : Nat) (zli : Nat) (zld : Nat) (zlt : Nat) (ff : Int32) (fp : Int32)  (vc : ((w = 0 → Post (some (.int ff)) [(h0, .inr (7, [.ref zt, .ref zl, .ref zc, .ref zm, .ref zb, .ref zs, .int bn, .int hk])), (zl, .inr (2, [.ref zlr, .ref zli, .ref zld, .ref zlt, .int ff, .int fp]))]) ∧ (¬ w = 0 → ((w = 1 → Post (some (.int fp)) [(h0, .inr (7, [.ref zt, .ref zl, .ref zc, .ref zm, .ref zb, .ref zs, .int bn, .int hk])), (zl, .inr (2, [.ref zlr, .ref zli, .ref zld, .ref zlt, .int ff, .int fp]))]) ∧ (¬ w = 1 → Post (some (.int (-1))) [(h0, .inr (7, [.ref zt, .ref zl, .ref zc, .ref zm, .ref zb, .ref zs, .int bn, .int hk])), (zl, .inr (2, [.ref zlr, .ref zli, .ref zld, .ref zlt, .int ff, .int fp]))]))))) : pz_At B 0 0 0 [(0, .ref h0), (1, .int w)] [] [(h0, .inr (7, [.ref zt, .ref zl, .ref zc, .ref zm, .ref zb, .ref zs, .int bn, .int hk])), (zl, .inr (2, [.ref zlr, .ref zli, .ref zld, .ref zlt, .int ff, .int fp]))] := by
  refine pz_iload_n 1 F rfl dX8_fault_0 rfl ?_
  by_cases q_1 : w = 0
  · replace vc := vc.1 q_1
    refine pz_lsw (off := 27) (tgt := 28) F dX8_fault_1 (by decide) (by rw [q_1]; decide) (by decide) ?_
    refine pz_aload_n 0 F rfl dX8_fault_28 rfl ?_
    refine pz_get (ci := 7) (C := RX8) (T := TX8) (N := 8) (v := .ref zl) 0 F rfl rfl pz_inX8 1 (by decide) pw_211 rfl dX8_fault_29 ?_
    refine pz_get (ci := 2) (C := RX2) (T := TX2) (N := 6) (v := .int ff) 1 F rfl rfl pz_inX2 4 (by decide) pw_86 rfl dX8_fault_32 ?_
    exact pz_ireturn (w1 := [(h0, .inr (7, [.ref zt, .ref zl, .ref zc, .ref zm, .ref zb, .ref zs, .int bn, .int hk])), (zl, .inr (2, [.ref zlr, .ref zli, .ref zld, .ref zlt, .int ff, .int fp]))]) F Rt (by decide) (by decide) dX8_fault_35 [0, 1] rfl rfl rfl vc
  · replace vc := vc.2 q_1
    by_cases q_2 : w = 1
    · replace vc := vc.1 q_2
      refine pz_lsw (off := 35) (tgt := 36) F dX8_fault_1 (by decide) (by rw [q_2]; decide) (by decide) ?_
      refine pz_aload_n 0 F rfl dX8_fault_36 rfl ?_
      refine pz_get (ci := 7) (C := RX8) (T := TX8) (N := 8) (v := .ref zl) 0 F rfl rfl pz_inX8 1 (by decide) pw_211 rfl dX8_fault_37 ?_
      refine pz_get (ci := 2) (C := RX2) (T := TX2) (N := 6) (v := .int fp) 1 F rfl rfl pz_inX2 5 (by decide) pw_89 rfl dX8_fault_40 ?_
      exact pz_ireturn (w1 := [(h0, .inr (7, [.ref zt, .ref zl, .ref zc, .ref zm, .ref zb, .ref zs, .int bn, .int hk])), (zl, .inr (2, [.ref zlr, .ref zli, .ref zld, .ref zlt, .int ff, .int fp]))]) F Rt (by decide) (by decide) dX8_fault_43 [0, 1] rfl rfl rfl vc
    · replace vc := vc.2 q_2
      refine pz_lsw (off := 43) (tgt := 44) F dX8_fault_1 (by decide) (by have h0 := fun e => lv_neT (a := 0) q_1 rfl (Eq.symm e); have h1 := fun e => lv_neT (a := 1) q_2 rfl (Eq.symm e); simp [Op.lookupswitch.offset]; rw [if_neg h0, if_neg h1]) (by decide) ?_
      refine pz_iconst (v := (-1)) F dX8_fault_44 rfl ?_
      exact pz_ireturn (w1 := [(h0, .inr (7, [.ref zt, .ref zl, .ref zc, .ref zm, .ref zb, .ref zs, .int bn, .int hk])), (zl, .inr (2, [.ref zlr, .ref zli, .ref zld, .ref zlt, .int ff, .int fp]))]) F Rt (by decide) (by decide) dX8_fault_45 [0, 1] rfl rfl rfl vc
set_option maxHeartbeats 4000000 in
set_option maxRecDepth 100000 in
theorem ctX8_fault (l : Launch) (g : pz_G) (h0 : Nat) (w : Int32) (zt : Nat) (zl : Nat) (zc : Nat) (zm : Nat) (zb : Nat) (zs : Nat) (bn : Int32) (hk : Int32) (zlr : Nat) (zli : Nat) (zld : Nat) (zlt : Nat) (ff : Int32) (fp : Int32) : pz_Ct l g yX8_fault cX8_fault 2 (some .int) rmX8_fault [.ref h0, .int w] [(h0, .inr (7, [.ref zt, .ref zl, .ref zc, .ref zm, .ref zb, .ref zs, .int bn, .int hk])), (zl, .inr (2, [.ref zlr, .ref zli, .ref zld, .ref zlt, .int ff, .int fp]))] (pz_pi (fun (r : Int32) (u : Unit) => r = if w = 0 then ff else if w = 1 then fp else -1) (fun (u : Unit) => [(h0, .inr (7, [.ref zt, .ref zl, .ref zc, .ref zm, .ref zb, .ref zs, .int bn, .int hk])), (zl, .inr (2, [.ref zlr, .ref zli, .ref zld, .ref zlt, .int ff, .int fp]))])) := by
  refine pz_ofAt (by decide +kernel) (Nat.le_of_ble_eq_true rfl) (fun B F Rt hme => ?_)
  refine sgX8_fault_0 F Rt h0 w zt zl zc zm zb zs bn hk zlr zli zld zlt ff fp ?_
  clear F Rt hme
  repeat' (first | apply And.intro | intro _)
  all_goals (try subst_vars)
  all_goals (first | exact ⟨_, (), rfl, rfl, rfl⟩ | exact ⟨_, (), rfl, rfl, by simp only [*, reduceIte, and_self, and_true, true_and, not_false_eq_true]⟩)
abbrev rmX8_grade : Room := { frames := 1, cells := 0, slots := 0, locals := 21 }
set_option maxHeartbeats 4000000 in
set_option maxRecDepth 100000 in
theorem sgX8_grade_0 {B : pz_B} {g : pz_G} {wc : va_W} {Post : Option Value → va_W → Prop} (F : pz_F B cX8_grade 2 (some .int) yX8_grade.cls g rmX8_grade) (Rt : pz_Rt B g wc Post rmX8_grade) (h0 : Nat) (c : Int32) (zt : Nat) (zl : Nat) (zc : Nat) (zm : Nat) (zb : Nat) (zs : Nat) (bn : Int32) (hk : Int32) (zcw : Nat) (gc : Int32) (kc : Int32) (zcp : Nat) (zcg : Nat) (zco : Nat) (zcd : Nat) (ao : Int64) (zcf : Nat) (zct : Nat) (zcn : Nat) (up : Int64) (lo : Int64) (wo : Nat → Int32)  (vc : (¬ gc < 0) ∧ ∀ r_4 : Int32, ∀ wo2_2 : Nat → Int32, ∀ gc2_3 : Int32, ∀ _ : (if c < 0 then r_4 = -1 ∧ wo2_2 = wo ∧ gc2_3 = gc else if 999 < c then r_4 = -1 ∧ wo2_2 = wo ∧ gc2_3 = gc else if gc < 4 then r_4 = gc + 1 - 1 ∧ wo2_2 = upd wo gc.toNatClampNeg c ∧ gc2_3 = gc + 1 else r_4 = -1 ∧ wo2_2 = wo ∧ gc2_3 = gc), Post (some (.int r_4)) [(h0, .inr (7, [.ref zt, .ref zl, .ref zc, .ref zm, .ref zb, .ref zs, .int bn, .int hk])), (zc, .inr (1, [.ref zcw, .int gc2_3, .int kc, .ref zcp, .ref zcg, .ref zco, .ref zcd, .long ao, .ref zcf, .ref zct, .ref zcn, .long up, .long lo])), (zcw, .inl (g.2.1 1, 4, .inl wo2_2))]) : pz_At B 0 0 0 [(0, .ref h0), (1, .int c)] [] [(h0, .inr (7, [.ref zt, .ref zl, .ref zc, .ref zm, .ref zb, .ref zs, .int bn, .int hk])), (zc, .inr (1, [.ref zcw, .int gc, .int kc, .ref zcp, .ref zcg, .ref zco, .ref zcd, .long ao, .ref zcf, .ref zct, .ref zcn, .long up, .long lo])), (zcw, .inl (g.2.1 1, 4, .inl wo))] := by
  refine pz_aload_n 0 F rfl dX8_grade_0 rfl ?_
  refine pz_get (ci := 7) (C := RX8) (T := TX8) (N := 8) (v := .ref zc) 0 F rfl rfl pz_inX8 2 (by decide) pw_212 rfl dX8_grade_1 ?_
  refine pz_iload_n 1 F rfl dX8_grade_4 rfl ?_
  obtain ⟨h_1, vc⟩ := vc
  refine pz_callV (nA := 1) (ci := 1) (C := RX1) (T := TX1) (N := 13) (As := [.int c]) (rest := []) (wr := [(h0, .inr (7, [.ref zt, .ref zl, .ref zc, .ref zm, .ref zb, .ref zs, .int bn, .int hk]))]) F (ctX1_addGrade _ g zc c zcw gc kc zcp zcg zco zcd ao zcf zct zcn up lo wo h_1) 1 rfl rfl pw_392 pw_393 pw_394 pw_5 pw_395 (by decide +kernel) (by decide) (by decide) rfl rfl (Nat.le_of_ble_eq_true rfl) [1, 2] [0] rfl rfl rfl rfl (by decide) dX8_grade_5 (fun r0 w0 hp0 => ?_)
  obtain ⟨r_4, ⟨wo2_2, gc2_3⟩, rfl, rfl, hq_5⟩ := hp0
  replace vc := vc r_4 wo2_2 gc2_3 hq_5
  refine pz_eq (st' := [.int r_4]) (ws' := [(h0, .inr (7, [.ref zt, .ref zl, .ref zc, .ref zm, .ref zb, .ref zs, .int bn, .int hk])), (zc, .inr (1, [.ref zcw, .int gc2_3, .int kc, .ref zcp, .ref zcg, .ref zco, .ref zcd, .long ao, .ref zcf, .ref zct, .ref zcn, .long up, .long lo])), (zcw, .inl (g.2.1 1, 4, .inl wo2_2))]) rfl rfl ?_
  exact pz_ireturn (w1 := [(h0, .inr (7, [.ref zt, .ref zl, .ref zc, .ref zm, .ref zb, .ref zs, .int bn, .int hk])), (zc, .inr (1, [.ref zcw, .int gc2_3, .int kc, .ref zcp, .ref zcg, .ref zco, .ref zcd, .long ao, .ref zcf, .ref zct, .ref zcn, .long up, .long lo])), (zcw, .inl (g.2.1 1, 4, .inl wo2_2))]) F Rt (by decide) (by decide) dX8_grade_8 [0, 1, 2] rfl rfl rfl vc
set_option maxHeartbeats 4000000 in
set_option maxRecDepth 100000 in
theorem ctX8_grade (l : Launch) (g : pz_G) (h0 : Nat) (c : Int32) (zt : Nat) (zl : Nat) (zc : Nat) (zm : Nat) (zb : Nat) (zs : Nat) (bn : Int32) (hk : Int32) (zcw : Nat) (gc : Int32) (kc : Int32) (zcp : Nat) (zcg : Nat) (zco : Nat) (zcd : Nat) (ao : Int64) (zcf : Nat) (zct : Nat) (zcn : Nat) (up : Int64) (lo : Int64) (wo : Nat → Int32) (hpre : ¬ gc < 0) : pz_Ct l g yX8_grade cX8_grade 2 (some .int) rmX8_grade [.ref h0, .int c] [(h0, .inr (7, [.ref zt, .ref zl, .ref zc, .ref zm, .ref zb, .ref zs, .int bn, .int hk])), (zc, .inr (1, [.ref zcw, .int gc, .int kc, .ref zcp, .ref zcg, .ref zco, .ref zcd, .long ao, .ref zcf, .ref zct, .ref zcn, .long up, .long lo])), (zcw, .inl (g.2.1 1, 4, .inl wo))] (pz_pi (fun (r : Int32) (u : (Nat → Int32) × Int32) => if c < 0 then r = -1 ∧ u.1 = wo ∧ u.2 = gc else if 999 < c then r = -1 ∧ u.1 = wo ∧ u.2 = gc else if gc < 4 then r = gc + 1 - 1 ∧ u.1 = upd wo gc.toNatClampNeg c ∧ u.2 = gc + 1 else r = -1 ∧ u.1 = wo ∧ u.2 = gc) (fun (u : (Nat → Int32) × Int32) => [(h0, .inr (7, [.ref zt, .ref zl, .ref zc, .ref zm, .ref zb, .ref zs, .int bn, .int hk])), (zc, .inr (1, [.ref zcw, .int u.2, .int kc, .ref zcp, .ref zcg, .ref zco, .ref zcd, .long ao, .ref zcf, .ref zct, .ref zcn, .long up, .long lo])), (zcw, .inl (g.2.1 1, 4, .inl u.1))])) := by
  refine pz_ofAt (by decide +kernel) (Nat.le_of_ble_eq_true rfl) (fun B F Rt hme => ?_)
  refine sgX8_grade_0 F Rt h0 c zt zl zc zm zb zs bn hk zcw gc kc zcp zcg zco zcd ao zcf zct zcn up lo wo ?_
  refine ⟨hpre, ?_⟩
  intros
  rename_i h
  exact ⟨_, (_, _), rfl, rfl, h⟩
abbrev rmX8_kind : Room := { frames := 2, cells := 0, slots := 0, locals := 51 }
set_option maxHeartbeats 4000000 in
set_option maxRecDepth 100000 in
theorem sgX8_kind_0 {B : pz_B} {g : pz_G} {wc : va_W} {Post : Option Value → va_W → Prop} (F : pz_F B cX8_kind 6 (some .int) yX8_kind.cls g rmX8_kind) (Rt : pz_Rt B g wc Post rmX8_kind) (p : Int32) (w0 : Int32) (w1 : Int32) (w2 : Int32) (w3 : Int32) (h0 : Nat) (zt : Nat) (zl : Nat) (zc : Nat) (zm : Nat) (zb : Nat) (zs : Nat) (bn : Int32) (hk : Int32) (zcw : Nat) (gc : Int32) (kc : Int32) (zcp : Nat) (zcg : Nat) (zco : Nat) (zcd : Nat) (ao : Int64) (zcf : Nat) (zct : Nat) (zcn : Nat) (up : Int64) (lo : Int64) (pr : Nat → Int32) (we : Nat → Int32) (po : Nat → Int64) (k : Nat)  (vc : (k ≤ 3 ∧ kc = nI k) ∧ ∀ r_6 : Int32, ∀ kc2_2 : Int32, ∀ pr2_3 : Nat → Int32, ∀ we2_4 : Nat → Int32, ∀ po2_5 : Nat → Int64, ∀ _ : ((pu_kok gc p w0 w1 w2 w3 ∧ k < 3 ∧ r_6 = nI k ∧ kc2_2 = nI (k + 1) ∧ pr2_3 = upd pr k p ∧ (∀ a, a < 12 → we2_4 a = if 4 * k ≤ a ∧ a < 4 * k + 4 then pu_w4 w0 w1 w2 w3 (a - 4 * k) else we a) ∧ (∀ a, a < 108 → po2_5 a = if 36 * k ≤ a ∧ a < 36 * k + 36 then pu_pw (pu_w4 w0 w1 w2 w3 ((a - 36 * k) / 9)) ((a - 36 * k) % 9) else po a)) ∨ (¬ (pu_kok gc p w0 w1 w2 w3 ∧ k < 3) ∧ r_6 = -1 ∧ kc2_2 = nI k ∧ pr2_3 = pr ∧ we2_4 = we ∧ po2_5 = po)), Post (some (.int r_6)) [(h0, .inr (7, [.ref zt, .ref zl, .ref zc, .ref zm, .ref zb, .ref zs, .int bn, .int hk])), (zc, .inr (1, [.ref zcw, .int gc, .int kc2_2, .ref zcp, .ref zcg, .ref zco, .ref zcd, .long ao, .ref zcf, .ref zct, .ref zcn, .long up, .long lo])), (zcp, .inl (g.2.1 1, 3, .inl pr2_3)), (zcg, .inl (g.2.1 1, 12, .inl we2_4)), (zco, .inl (g.2.1 2, 108, .inr (.inl po2_5)))]) : pz_At B 0 0 0 [(0, .ref h0), (1, .int p), (2, .int w0), (3, .int w1), (4, .int w2), (5, .int w3)] [] [(h0, .inr (7, [.ref zt, .ref zl, .ref zc, .ref zm, .ref zb, .ref zs, .int bn, .int hk])), (zc, .inr (1, [.ref zcw, .int gc, .int kc, .ref zcp, .ref zcg, .ref zco, .ref zcd, .long ao, .ref zcf, .ref zct, .ref zcn, .long up, .long lo])), (zcp, .inl (g.2.1 1, 3, .inl pr)), (zcg, .inl (g.2.1 1, 12, .inl we)), (zco, .inl (g.2.1 2, 108, .inr (.inl po)))] := by
  refine pz_aload_n 0 F rfl dX8_kind_0 rfl ?_
  refine pz_get (ci := 7) (C := RX8) (T := TX8) (N := 8) (v := .ref zc) 0 F rfl rfl pz_inX8 2 (by decide) pw_212 rfl dX8_kind_1 ?_
  refine pz_iload_n 1 F rfl dX8_kind_4 rfl ?_
  refine pz_iload_n 2 F rfl dX8_kind_5 rfl ?_
  refine pz_iload_n 3 F rfl dX8_kind_6 rfl ?_
  refine pz_iload 4 F rfl dX8_kind_7 ?_
  refine pz_iload 5 F rfl dX8_kind_9 ?_
  obtain ⟨h_1, vc⟩ := vc
  refine pz_callV (nA := 5) (ci := 1) (C := RX1) (T := TX1) (N := 13) (As := [.int p, .int w0, .int w1, .int w2, .int w3]) (rest := []) (wr := [(h0, .inr (7, [.ref zt, .ref zl, .ref zc, .ref zm, .ref zb, .ref zs, .int bn, .int hk]))]) F (ctX1_addKind _ g p w0 w1 w2 w3 zc zcw gc kc zcp zcg zco zcd ao zcf zct zcn up lo pr we po k h_1) 1 rfl rfl pw_400 pw_401 pw_402 pw_5 pw_403 (by decide +kernel) (by decide) (by decide) rfl rfl (Nat.le_of_ble_eq_true rfl) [1, 2, 3, 4] [0] rfl rfl rfl rfl (by decide) dX8_kind_11 (fun r0 w0 hp0 => ?_)
  obtain ⟨r_6, ⟨kc2_2, pr2_3, we2_4, po2_5⟩, rfl, rfl, hq_7⟩ := hp0
  replace vc := vc r_6 kc2_2 pr2_3 we2_4 po2_5 hq_7
  refine pz_eq (st' := [.int r_6]) (ws' := [(h0, .inr (7, [.ref zt, .ref zl, .ref zc, .ref zm, .ref zb, .ref zs, .int bn, .int hk])), (zc, .inr (1, [.ref zcw, .int gc, .int kc2_2, .ref zcp, .ref zcg, .ref zco, .ref zcd, .long ao, .ref zcf, .ref zct, .ref zcn, .long up, .long lo])), (zcp, .inl (g.2.1 1, 3, .inl pr2_3)), (zcg, .inl (g.2.1 1, 12, .inl we2_4)), (zco, .inl (g.2.1 2, 108, .inr (.inl po2_5)))]) rfl rfl ?_
  exact pz_ireturn (w1 := [(h0, .inr (7, [.ref zt, .ref zl, .ref zc, .ref zm, .ref zb, .ref zs, .int bn, .int hk])), (zc, .inr (1, [.ref zcw, .int gc, .int kc2_2, .ref zcp, .ref zcg, .ref zco, .ref zcd, .long ao, .ref zcf, .ref zct, .ref zcn, .long up, .long lo])), (zcp, .inl (g.2.1 1, 3, .inl pr2_3)), (zcg, .inl (g.2.1 1, 12, .inl we2_4)), (zco, .inl (g.2.1 2, 108, .inr (.inl po2_5)))]) F Rt (by decide) (by decide) dX8_kind_14 [0, 1, 2, 3, 4] rfl rfl rfl vc
set_option maxHeartbeats 4000000 in
set_option maxRecDepth 100000 in
theorem ctX8_kind (l : Launch) (g : pz_G) (p : Int32) (w0 : Int32) (w1 : Int32) (w2 : Int32) (w3 : Int32) (h0 : Nat) (zt : Nat) (zl : Nat) (zc : Nat) (zm : Nat) (zb : Nat) (zs : Nat) (bn : Int32) (hk : Int32) (zcw : Nat) (gc : Int32) (kc : Int32) (zcp : Nat) (zcg : Nat) (zco : Nat) (zcd : Nat) (ao : Int64) (zcf : Nat) (zct : Nat) (zcn : Nat) (up : Int64) (lo : Int64) (pr : Nat → Int32) (we : Nat → Int32) (po : Nat → Int64) (k : Nat) (hpre : k ≤ 3 ∧ kc = nI k) : pz_Ct l g yX8_kind cX8_kind 6 (some .int) rmX8_kind [.ref h0, .int p, .int w0, .int w1, .int w2, .int w3] [(h0, .inr (7, [.ref zt, .ref zl, .ref zc, .ref zm, .ref zb, .ref zs, .int bn, .int hk])), (zc, .inr (1, [.ref zcw, .int gc, .int kc, .ref zcp, .ref zcg, .ref zco, .ref zcd, .long ao, .ref zcf, .ref zct, .ref zcn, .long up, .long lo])), (zcp, .inl (g.2.1 1, 3, .inl pr)), (zcg, .inl (g.2.1 1, 12, .inl we)), (zco, .inl (g.2.1 2, 108, .inr (.inl po)))] (pz_pi (fun (r : Int32) (u : Int32 × (Nat → Int32) × (Nat → Int32) × (Nat → Int64)) => (pu_kok gc p w0 w1 w2 w3 ∧ k < 3 ∧ r = nI k ∧ u.1 = nI (k + 1) ∧ u.2.1 = upd pr k p ∧ (∀ a, a < 12 → u.2.2.1 a = if 4 * k ≤ a ∧ a < 4 * k + 4 then pu_w4 w0 w1 w2 w3 (a - 4 * k) else we a) ∧ (∀ a, a < 108 → u.2.2.2 a = if 36 * k ≤ a ∧ a < 36 * k + 36 then pu_pw (pu_w4 w0 w1 w2 w3 ((a - 36 * k) / 9)) ((a - 36 * k) % 9) else po a)) ∨ (¬ (pu_kok gc p w0 w1 w2 w3 ∧ k < 3) ∧ r = -1 ∧ u.1 = nI k ∧ u.2.1 = pr ∧ u.2.2.1 = we ∧ u.2.2.2 = po)) (fun (u : Int32 × (Nat → Int32) × (Nat → Int32) × (Nat → Int64)) => [(h0, .inr (7, [.ref zt, .ref zl, .ref zc, .ref zm, .ref zb, .ref zs, .int bn, .int hk])), (zc, .inr (1, [.ref zcw, .int gc, .int u.1, .ref zcp, .ref zcg, .ref zco, .ref zcd, .long ao, .ref zcf, .ref zct, .ref zcn, .long up, .long lo])), (zcp, .inl (g.2.1 1, 3, .inl u.2.1)), (zcg, .inl (g.2.1 1, 12, .inl u.2.2.1)), (zco, .inl (g.2.1 2, 108, .inr (.inl u.2.2.2)))])) := by
  refine pz_ofAt (by decide +kernel) (Nat.le_of_ble_eq_true rfl) (fun B F Rt hme => ?_)
  refine sgX8_kind_0 F Rt p w0 w1 w2 w3 h0 zt zl zc zm zb zs bn hk zcw gc kc zcp zcg zco zcd ao zcf zct zcn up lo pr we po k ?_
  refine ⟨hpre, ?_⟩
  intros
  rename_i h
  exact ⟨_, (_, _, _, _), rfl, rfl, h⟩
abbrev rmX8_man : Room := { frames := 1, cells := 0, slots := 0, locals := 21 }
set_option maxHeartbeats 4000000 in
set_option maxRecDepth 100000 in
theorem sgX8_man_0 {B : pz_B} {g : pz_G} {wc : va_W} {Post : Option Value → va_W → Prop} (F : pz_F B cX8_man 2 (some .int) yX8_man.cls g rmX8_man) (Rt : pz_Rt B g wc Post rmX8_man) (h0 : Nat) (c : Int32) (zt : Nat) (zl : Nat) (zc : Nat) (zm : Nat) (zb : Nat) (zs : Nat) (bn : Int32) (hk : Int32) (zmp : Nat) (zmd : Nat) (sz : Int32) (pu : Nat → Int32)  (vc : (¬ sz < 0) ∧ ∀ r_4 : Int32, ∀ pu2_2 : Nat → Int32, ∀ sz2_3 : Int32, ∀ _ : (if c < 0 then r_4 = -1 ∧ pu2_2 = pu ∧ sz2_3 = sz else if 999999 < c then r_4 = -1 ∧ pu2_2 = pu ∧ sz2_3 = sz else if sz < 8 then r_4 = sz + 1 - 1 ∧ pu2_2 = upd pu sz.toNatClampNeg c ∧ sz2_3 = sz + 1 else r_4 = -1 ∧ pu2_2 = pu ∧ sz2_3 = sz), Post (some (.int r_4)) [(h0, .inr (7, [.ref zt, .ref zl, .ref zc, .ref zm, .ref zb, .ref zs, .int bn, .int hk])), (zm, .inr (3, [.ref zmp, .ref zmd, .int sz2_3])), (zmp, .inl (g.2.1 1, 8, .inl pu2_2))]) : pz_At B 0 0 0 [(0, .ref h0), (1, .int c)] [] [(h0, .inr (7, [.ref zt, .ref zl, .ref zc, .ref zm, .ref zb, .ref zs, .int bn, .int hk])), (zm, .inr (3, [.ref zmp, .ref zmd, .int sz])), (zmp, .inl (g.2.1 1, 8, .inl pu))] := by
  refine pz_aload_n 0 F rfl dX8_man_0 rfl ?_
  refine pz_get (ci := 7) (C := RX8) (T := TX8) (N := 8) (v := .ref zm) 0 F rfl rfl pz_inX8 3 (by decide) pw_213 rfl dX8_man_1 ?_
  refine pz_iload_n 1 F rfl dX8_man_4 rfl ?_
  obtain ⟨h_1, vc⟩ := vc
  refine pz_callV (nA := 1) (ci := 3) (C := RX4) (T := TX4) (N := 3) (As := [.int c]) (rest := []) (wr := [(h0, .inr (7, [.ref zt, .ref zl, .ref zc, .ref zm, .ref zb, .ref zs, .int bn, .int hk]))]) F (ctX4_add _ g zm c zmp zmd sz pu h_1) 1 rfl rfl pw_416 pw_417 pw_418 pw_6 pw_419 (by decide +kernel) (by decide) (by decide) rfl rfl (Nat.le_of_ble_eq_true rfl) [1, 2] [0] rfl rfl rfl rfl (by decide) dX8_man_5 (fun r0 w0 hp0 => ?_)
  obtain ⟨r_4, ⟨pu2_2, sz2_3⟩, rfl, rfl, hq_5⟩ := hp0
  replace vc := vc r_4 pu2_2 sz2_3 hq_5
  refine pz_eq (st' := [.int r_4]) (ws' := [(h0, .inr (7, [.ref zt, .ref zl, .ref zc, .ref zm, .ref zb, .ref zs, .int bn, .int hk])), (zm, .inr (3, [.ref zmp, .ref zmd, .int sz2_3])), (zmp, .inl (g.2.1 1, 8, .inl pu2_2))]) rfl rfl ?_
  exact pz_ireturn (w1 := [(h0, .inr (7, [.ref zt, .ref zl, .ref zc, .ref zm, .ref zb, .ref zs, .int bn, .int hk])), (zm, .inr (3, [.ref zmp, .ref zmd, .int sz2_3])), (zmp, .inl (g.2.1 1, 8, .inl pu2_2))]) F Rt (by decide) (by decide) dX8_man_8 [0, 1, 2] rfl rfl rfl vc
set_option maxHeartbeats 4000000 in
set_option maxRecDepth 100000 in
theorem ctX8_man (l : Launch) (g : pz_G) (h0 : Nat) (c : Int32) (zt : Nat) (zl : Nat) (zc : Nat) (zm : Nat) (zb : Nat) (zs : Nat) (bn : Int32) (hk : Int32) (zmp : Nat) (zmd : Nat) (sz : Int32) (pu : Nat → Int32) (hpre : ¬ sz < 0) : pz_Ct l g yX8_man cX8_man 2 (some .int) rmX8_man [.ref h0, .int c] [(h0, .inr (7, [.ref zt, .ref zl, .ref zc, .ref zm, .ref zb, .ref zs, .int bn, .int hk])), (zm, .inr (3, [.ref zmp, .ref zmd, .int sz])), (zmp, .inl (g.2.1 1, 8, .inl pu))] (pz_pi (fun (r : Int32) (u : (Nat → Int32) × Int32) => if c < 0 then r = -1 ∧ u.1 = pu ∧ u.2 = sz else if 999999 < c then r = -1 ∧ u.1 = pu ∧ u.2 = sz else if sz < 8 then r = sz + 1 - 1 ∧ u.1 = upd pu sz.toNatClampNeg c ∧ u.2 = sz + 1 else r = -1 ∧ u.1 = pu ∧ u.2 = sz) (fun (u : (Nat → Int32) × Int32) => [(h0, .inr (7, [.ref zt, .ref zl, .ref zc, .ref zm, .ref zb, .ref zs, .int bn, .int hk])), (zm, .inr (3, [.ref zmp, .ref zmd, .int u.2])), (zmp, .inl (g.2.1 1, 8, .inl u.1))])) := by
  refine pz_ofAt (by decide +kernel) (Nat.le_of_ble_eq_true rfl) (fun B F Rt hme => ?_)
  refine sgX8_man_0 F Rt h0 c zt zl zc zm zb zs bn hk zmp zmd sz pu ?_
  refine ⟨hpre, ?_⟩
  intros
  rename_i h
  exact ⟨_, (_, _), rfl, rfl, h⟩
abbrev rmX8_sale : Room := { frames := 1, cells := 0, slots := 0, locals := 21 }
set_option maxHeartbeats 4000000 in
set_option maxRecDepth 100000 in
theorem sgX8_sale_0 {B : pz_B} {g : pz_G} {wc : va_W} {Post : Option Value → va_W → Prop} (F : pz_F B cX8_sale 2 (some .int) yX8_sale.cls g rmX8_sale) (Rt : pz_Rt B g wc Post rmX8_sale) (h0 : Nat) (w : Int32) (zt : Nat) (zl : Nat) (zc : Nat) (zm : Nat) (zb : Nat) (zs : Nat) (bn : Int32) (hk : Int32) (zsb : Nat) (zsc : Nat) (lI : Int32) (ou : Int32) (he : Int32) (pc : Int32) (df : Int32) (tx : Int32)  (vc : ∀ r_1 : Int32, ∀ _ : (r_1 = if he = 0 then -1 else if w = 0 then pc else if w = 1 then df else if w = 2 then tx else if w = 3 then ou else -1), Post (some (.int r_1)) [(h0, .inr (7, [.ref zt, .ref zl, .ref zc, .ref zm, .ref zb, .ref zs, .int bn, .int hk])), (zs, .inr (5, [.ref zsb, .ref zsc, .int lI, .int ou, .int he, .int pc, .int df, .int tx]))]) : pz_At B 0 0 0 [(0, .ref h0), (1, .int w)] [] [(h0, .inr (7, [.ref zt, .ref zl, .ref zc, .ref zm, .ref zb, .ref zs, .int bn, .int hk])), (zs, .inr (5, [.ref zsb, .ref zsc, .int lI, .int ou, .int he, .int pc, .int df, .int tx]))] := by
  refine pz_aload_n 0 F rfl dX8_sale_0 rfl ?_
  refine pz_get (ci := 7) (C := RX8) (T := TX8) (N := 8) (v := .ref zs) 0 F rfl rfl pz_inX8 5 (by decide) pw_215 rfl dX8_sale_1 ?_
  refine pz_iload_n 1 F rfl dX8_sale_4 rfl ?_
  refine pz_callV (nA := 1) (ci := 5) (C := RX6) (T := TX6) (N := 8) (As := [.int w]) (rest := []) (wr := [(h0, .inr (7, [.ref zt, .ref zl, .ref zc, .ref zm, .ref zb, .ref zs, .int bn, .int hk]))]) F (ctX6_tell _ g zs w zsb zsc lI ou he pc df tx) 1 rfl rfl pw_575 pw_576 pw_577 pw_7 pw_578 (by decide +kernel) (by decide) (by decide) rfl rfl (Nat.le_of_ble_eq_true rfl) [1] [0] rfl rfl rfl rfl (by decide) dX8_sale_5 (fun r0 w0 hp0 => ?_)
  obtain ⟨r_1, _, rfl, rfl, hq_2⟩ := hp0
  replace vc := vc r_1  hq_2
  refine pz_eq (st' := [.int r_1]) (ws' := [(h0, .inr (7, [.ref zt, .ref zl, .ref zc, .ref zm, .ref zb, .ref zs, .int bn, .int hk])), (zs, .inr (5, [.ref zsb, .ref zsc, .int lI, .int ou, .int he, .int pc, .int df, .int tx]))]) rfl rfl ?_
  exact pz_ireturn (w1 := [(h0, .inr (7, [.ref zt, .ref zl, .ref zc, .ref zm, .ref zb, .ref zs, .int bn, .int hk])), (zs, .inr (5, [.ref zsb, .ref zsc, .int lI, .int ou, .int he, .int pc, .int df, .int tx]))]) F Rt (by decide) (by decide) dX8_sale_8 [0, 1] rfl rfl rfl vc
set_option maxHeartbeats 4000000 in
set_option maxRecDepth 100000 in
theorem ctX8_sale (l : Launch) (g : pz_G) (h0 : Nat) (w : Int32) (zt : Nat) (zl : Nat) (zc : Nat) (zm : Nat) (zb : Nat) (zs : Nat) (bn : Int32) (hk : Int32) (zsb : Nat) (zsc : Nat) (lI : Int32) (ou : Int32) (he : Int32) (pc : Int32) (df : Int32) (tx : Int32) : pz_Ct l g yX8_sale cX8_sale 2 (some .int) rmX8_sale [.ref h0, .int w] [(h0, .inr (7, [.ref zt, .ref zl, .ref zc, .ref zm, .ref zb, .ref zs, .int bn, .int hk])), (zs, .inr (5, [.ref zsb, .ref zsc, .int lI, .int ou, .int he, .int pc, .int df, .int tx]))] (pz_pi (fun (r : Int32) (u : Unit) => r = if he = 0 then -1 else if w = 0 then pc else if w = 1 then df else if w = 2 then tx else if w = 3 then ou else -1) (fun (u : Unit) => [(h0, .inr (7, [.ref zt, .ref zl, .ref zc, .ref zm, .ref zb, .ref zs, .int bn, .int hk])), (zs, .inr (5, [.ref zsb, .ref zsc, .int lI, .int ou, .int he, .int pc, .int df, .int tx]))])) := by
  refine pz_ofAt (by decide +kernel) (Nat.le_of_ble_eq_true rfl) (fun B F Rt hme => ?_)
  refine sgX8_sale_0 F Rt h0 w zt zl zc zm zb zs bn hk zsb zsc lI ou he pc df tx ?_
  
  intros
  rename_i h
  exact ⟨_, (), rfl, rfl, h⟩
abbrev rmX8_count : Room := { frames := 0, cells := 0, slots := 0, locals := 0 }
set_option maxHeartbeats 4000000 in
set_option maxRecDepth 100000 in
theorem sgX8_count_0 {B : pz_B} {g : pz_G} {wc : va_W} {Post : Option Value → va_W → Prop} (F : pz_F B cX8_count 2 (some .int) yX8_count.cls g rmX8_count) (Rt : pz_Rt B g wc Post rmX8_count) (h0 : Nat) (w : Int32) (zt : Nat) (zl : Nat) (zc : Nat) (zm : Nat) (zb : Nat) (zs : Nat) (bn : Int32) (hk : Int32) (zcw : Nat) (gc : Int32) (kc : Int32) (zcp : Nat) (zcg : Nat) (zco : Nat) (zcd : Nat) (ao : Int64) (zcf : Nat) (zct : Nat) (zcn : Nat) (up : Int64) (lo : Int64) (zmp : Nat) (zmd : Nat) (sz : Int32)  (vc : ((w = 0 → Post (some (.int gc)) [(h0, .inr (7, [.ref zt, .ref zl, .ref zc, .ref zm, .ref zb, .ref zs, .int bn, .int hk])), (zc, .inr (1, [.ref zcw, .int gc, .int kc, .ref zcp, .ref zcg, .ref zco, .ref zcd, .long ao, .ref zcf, .ref zct, .ref zcn, .long up, .long lo])), (zm, .inr (3, [.ref zmp, .ref zmd, .int sz]))]) ∧ (¬ w = 0 → ((w = 1 → Post (some (.int kc)) [(h0, .inr (7, [.ref zt, .ref zl, .ref zc, .ref zm, .ref zb, .ref zs, .int bn, .int hk])), (zc, .inr (1, [.ref zcw, .int gc, .int kc, .ref zcp, .ref zcg, .ref zco, .ref zcd, .long ao, .ref zcf, .ref zct, .ref zcn, .long up, .long lo])), (zm, .inr (3, [.ref zmp, .ref zmd, .int sz]))]) ∧ (¬ w = 1 → ((w = 2 → Post (some (.int sz)) [(h0, .inr (7, [.ref zt, .ref zl, .ref zc, .ref zm, .ref zb, .ref zs, .int bn, .int hk])), (zc, .inr (1, [.ref zcw, .int gc, .int kc, .ref zcp, .ref zcg, .ref zco, .ref zcd, .long ao, .ref zcf, .ref zct, .ref zcn, .long up, .long lo])), (zm, .inr (3, [.ref zmp, .ref zmd, .int sz]))]) ∧ (¬ w = 2 → ((w = 3 → Post (some (.int bn)) [(h0, .inr (7, [.ref zt, .ref zl, .ref zc, .ref zm, .ref zb, .ref zs, .int bn, .int hk])), (zc, .inr (1, [.ref zcw, .int gc, .int kc, .ref zcp, .ref zcg, .ref zco, .ref zcd, .long ao, .ref zcf, .ref zct, .ref zcn, .long up, .long lo])), (zm, .inr (3, [.ref zmp, .ref zmd, .int sz]))]) ∧ (¬ w = 3 → ((w = 4 → Post (some (.int hk)) [(h0, .inr (7, [.ref zt, .ref zl, .ref zc, .ref zm, .ref zb, .ref zs, .int bn, .int hk])), (zc, .inr (1, [.ref zcw, .int gc, .int kc, .ref zcp, .ref zcg, .ref zco, .ref zcd, .long ao, .ref zcf, .ref zct, .ref zcn, .long up, .long lo])), (zm, .inr (3, [.ref zmp, .ref zmd, .int sz]))]) ∧ (¬ w = 4 → Post (some (.int (-1000000000))) [(h0, .inr (7, [.ref zt, .ref zl, .ref zc, .ref zm, .ref zb, .ref zs, .int bn, .int hk])), (zc, .inr (1, [.ref zcw, .int gc, .int kc, .ref zcp, .ref zcg, .ref zco, .ref zcd, .long ao, .ref zcf, .ref zct, .ref zcn, .long up, .long lo])), (zm, .inr (3, [.ref zmp, .ref zmd, .int sz]))]))))))))))) : pz_At B 0 0 0 [(0, .ref h0), (1, .int w)] [] [(h0, .inr (7, [.ref zt, .ref zl, .ref zc, .ref zm, .ref zb, .ref zs, .int bn, .int hk])), (zc, .inr (1, [.ref zcw, .int gc, .int kc, .ref zcp, .ref zcg, .ref zco, .ref zcd, .long ao, .ref zcf, .ref zct, .ref zcn, .long up, .long lo])), (zm, .inr (3, [.ref zmp, .ref zmd, .int sz]))] := by
  refine pz_iload_n 1 F rfl dX8_count_0 rfl ?_
  by_cases q_1 : w = 0
  · replace vc := vc.1 q_1
    refine pz_tsw (off := 35) (tgt := 36) F dX8_count_1 (by rw [q_1]; decide) (by rw [q_1]; decide) (by rw [q_1]; rfl) (by decide) ?_
    refine pz_aload_n 0 F rfl dX8_count_36 rfl ?_
    refine pz_get (ci := 7) (C := RX8) (T := TX8) (N := 8) (v := .ref zc) 0 F rfl rfl pz_inX8 2 (by decide) pw_212 rfl dX8_count_37 ?_
    refine pz_get (ci := 1) (C := RX1) (T := TX1) (N := 13) (v := .int gc) 1 F rfl rfl pz_inX1 1 (by decide) pw_114 rfl dX8_count_40 ?_
    exact pz_ireturn (w1 := [(h0, .inr (7, [.ref zt, .ref zl, .ref zc, .ref zm, .ref zb, .ref zs, .int bn, .int hk])), (zc, .inr (1, [.ref zcw, .int gc, .int kc, .ref zcp, .ref zcg, .ref zco, .ref zcd, .long ao, .ref zcf, .ref zct, .ref zcn, .long up, .long lo])), (zm, .inr (3, [.ref zmp, .ref zmd, .int sz]))]) F Rt (by decide) (by decide) dX8_count_43 [0, 1, 2] rfl rfl rfl vc
  · replace vc := vc.2 q_1
    by_cases q_2 : w = 1
    · replace vc := vc.1 q_2
      refine pz_tsw (off := 43) (tgt := 44) F dX8_count_1 (by rw [q_2]; decide) (by rw [q_2]; decide) (by rw [q_2]; rfl) (by decide) ?_
      refine pz_aload_n 0 F rfl dX8_count_44 rfl ?_
      refine pz_get (ci := 7) (C := RX8) (T := TX8) (N := 8) (v := .ref zc) 0 F rfl rfl pz_inX8 2 (by decide) pw_212 rfl dX8_count_45 ?_
      refine pz_get (ci := 1) (C := RX1) (T := TX1) (N := 13) (v := .int kc) 1 F rfl rfl pz_inX1 2 (by decide) pw_116 rfl dX8_count_48 ?_
      exact pz_ireturn (w1 := [(h0, .inr (7, [.ref zt, .ref zl, .ref zc, .ref zm, .ref zb, .ref zs, .int bn, .int hk])), (zc, .inr (1, [.ref zcw, .int gc, .int kc, .ref zcp, .ref zcg, .ref zco, .ref zcd, .long ao, .ref zcf, .ref zct, .ref zcn, .long up, .long lo])), (zm, .inr (3, [.ref zmp, .ref zmd, .int sz]))]) F Rt (by decide) (by decide) dX8_count_51 [0, 1, 2] rfl rfl rfl vc
    · replace vc := vc.2 q_2
      by_cases q_3 : w = 2
      · replace vc := vc.1 q_3
        refine pz_tsw (off := 51) (tgt := 52) F dX8_count_1 (by rw [q_3]; decide) (by rw [q_3]; decide) (by rw [q_3]; rfl) (by decide) ?_
        refine pz_aload_n 0 F rfl dX8_count_52 rfl ?_
        refine pz_get (ci := 7) (C := RX8) (T := TX8) (N := 8) (v := .ref zm) 0 F rfl rfl pz_inX8 3 (by decide) pw_213 rfl dX8_count_53 ?_
        refine pz_get (ci := 3) (C := RX4) (T := TX4) (N := 3) (v := .int sz) 2 F rfl rfl pz_inX4 2 (by decide) pw_168 rfl dX8_count_56 ?_
        exact pz_ireturn (w1 := [(h0, .inr (7, [.ref zt, .ref zl, .ref zc, .ref zm, .ref zb, .ref zs, .int bn, .int hk])), (zc, .inr (1, [.ref zcw, .int gc, .int kc, .ref zcp, .ref zcg, .ref zco, .ref zcd, .long ao, .ref zcf, .ref zct, .ref zcn, .long up, .long lo])), (zm, .inr (3, [.ref zmp, .ref zmd, .int sz]))]) F Rt (by decide) (by decide) dX8_count_59 [0, 1, 2] rfl rfl rfl vc
      · replace vc := vc.2 q_3
        by_cases q_4 : w = 3
        · replace vc := vc.1 q_4
          refine pz_tsw (off := 59) (tgt := 60) F dX8_count_1 (by rw [q_4]; decide) (by rw [q_4]; decide) (by rw [q_4]; rfl) (by decide) ?_
          refine pz_aload_n 0 F rfl dX8_count_60 rfl ?_
          refine pz_get (ci := 7) (C := RX8) (T := TX8) (N := 8) (v := .int bn) 0 F rfl rfl pz_inX8 6 (by decide) pw_216 rfl dX8_count_61 ?_
          exact pz_ireturn (w1 := [(h0, .inr (7, [.ref zt, .ref zl, .ref zc, .ref zm, .ref zb, .ref zs, .int bn, .int hk])), (zc, .inr (1, [.ref zcw, .int gc, .int kc, .ref zcp, .ref zcg, .ref zco, .ref zcd, .long ao, .ref zcf, .ref zct, .ref zcn, .long up, .long lo])), (zm, .inr (3, [.ref zmp, .ref zmd, .int sz]))]) F Rt (by decide) (by decide) dX8_count_64 [0, 1, 2] rfl rfl rfl vc
        · replace vc := vc.2 q_4
          by_cases q_5 : w = 4
          · replace vc := vc.1 q_5
            refine pz_tsw (off := 64) (tgt := 65) F dX8_count_1 (by rw [q_5]; decide) (by rw [q_5]; decide) (by rw [q_5]; rfl) (by decide) ?_
            refine pz_aload_n 0 F rfl dX8_count_65 rfl ?_
            refine pz_get (ci := 7) (C := RX8) (T := TX8) (N := 8) (v := .int hk) 0 F rfl rfl pz_inX8 7 (by decide) pw_217 rfl dX8_count_66 ?_
            exact pz_ireturn (w1 := [(h0, .inr (7, [.ref zt, .ref zl, .ref zc, .ref zm, .ref zb, .ref zs, .int bn, .int hk])), (zc, .inr (1, [.ref zcw, .int gc, .int kc, .ref zcp, .ref zcg, .ref zco, .ref zcd, .long ao, .ref zcf, .ref zct, .ref zcn, .long up, .long lo])), (zm, .inr (3, [.ref zmp, .ref zmd, .int sz]))]) F Rt (by decide) (by decide) dX8_count_69 [0, 1, 2] rfl rfl rfl vc
          · replace vc := vc.2 q_5
            refine pz_tswO (tgt := 70) F dX8_count_1 (by have h0 := lv_neT (a := 0) q_1 rfl; have h1 := lv_neT (a := 1) q_2 rfl; have h2 := lv_neT (a := 2) q_3 rfl; have h3 := lv_neT (a := 3) q_4 rfl; have h4 := lv_neT (a := 4) q_5 rfl; omega) (by decide) ?_
            refine pz_ldc (v := -1000000000) F pw_709 dX8_count_70 ?_
            exact pz_ireturn (w1 := [(h0, .inr (7, [.ref zt, .ref zl, .ref zc, .ref zm, .ref zb, .ref zs, .int bn, .int hk])), (zc, .inr (1, [.ref zcw, .int gc, .int kc, .ref zcp, .ref zcg, .ref zco, .ref zcd, .long ao, .ref zcf, .ref zct, .ref zcn, .long up, .long lo])), (zm, .inr (3, [.ref zmp, .ref zmd, .int sz]))]) F Rt (by decide) (by decide) dX8_count_72 [0, 1, 2] rfl rfl rfl vc
set_option maxHeartbeats 4000000 in
set_option maxRecDepth 100000 in
theorem ctX8_count (l : Launch) (g : pz_G) (h0 : Nat) (w : Int32) (zt : Nat) (zl : Nat) (zc : Nat) (zm : Nat) (zb : Nat) (zs : Nat) (bn : Int32) (hk : Int32) (zcw : Nat) (gc : Int32) (kc : Int32) (zcp : Nat) (zcg : Nat) (zco : Nat) (zcd : Nat) (ao : Int64) (zcf : Nat) (zct : Nat) (zcn : Nat) (up : Int64) (lo : Int64) (zmp : Nat) (zmd : Nat) (sz : Int32) : pz_Ct l g yX8_count cX8_count 2 (some .int) rmX8_count [.ref h0, .int w] [(h0, .inr (7, [.ref zt, .ref zl, .ref zc, .ref zm, .ref zb, .ref zs, .int bn, .int hk])), (zc, .inr (1, [.ref zcw, .int gc, .int kc, .ref zcp, .ref zcg, .ref zco, .ref zcd, .long ao, .ref zcf, .ref zct, .ref zcn, .long up, .long lo])), (zm, .inr (3, [.ref zmp, .ref zmd, .int sz]))] (pz_pi (fun (r : Int32) (u : Unit) => r = if w = 0 then gc else if w = 1 then kc else if w = 2 then sz else if w = 3 then bn else if w = 4 then hk else -1000000000) (fun (u : Unit) => [(h0, .inr (7, [.ref zt, .ref zl, .ref zc, .ref zm, .ref zb, .ref zs, .int bn, .int hk])), (zc, .inr (1, [.ref zcw, .int gc, .int kc, .ref zcp, .ref zcg, .ref zco, .ref zcd, .long ao, .ref zcf, .ref zct, .ref zcn, .long up, .long lo])), (zm, .inr (3, [.ref zmp, .ref zmd, .int sz]))])) := by
  refine pz_ofAt (by decide +kernel) (Nat.le_of_ble_eq_true rfl) (fun B F Rt hme => ?_)
  refine sgX8_count_0 F Rt h0 w zt zl zc zm zb zs bn hk zcw gc kc zcp zcg zco zcd ao zcf zct zcn up lo zmp zmd sz ?_
  clear F Rt hme
  repeat' (first | apply And.intro | intro _)
  all_goals (try subst_vars)
  all_goals (first | exact ⟨_, (), rfl, rfl, rfl⟩ | exact ⟨_, (), rfl, rfl, by simp only [*, reduceIte, and_self, and_true, true_and, not_false_eq_true]⟩)
abbrev rmX8_purse : Room := { frames := 1, cells := 0, slots := 0, locals := 21 }
set_option maxHeartbeats 4000000 in
set_option maxRecDepth 100000 in
theorem sgX8_purse_0 {B : pz_B} {g : pz_G} {wc : va_W} {Post : Option Value → va_W → Prop} (F : pz_F B cX8_purse 2 (some .int) yX8_purse.cls g rmX8_purse) (Rt : pz_Rt B g wc Post rmX8_purse) (m : Int32) (h0 : Nat) (zt : Nat) (zl : Nat) (zc : Nat) (zm : Nat) (zb : Nat) (zs : Nat) (bn : Int32) (hk : Int32) (zmp : Nat) (zmd : Nat) (pu : Nat → Int32) (M : Nat)  (vc : ∀ r_1 : Int32, ∀ _ : (r_1 = if m < 0 then 0 else if (nI M) ≤ m then 0 else 1), ((r_1 = 0 → Post (some (.int (-1))) [(h0, .inr (7, [.ref zt, .ref zl, .ref zc, .ref zm, .ref zb, .ref zs, .int bn, .int hk])), (zm, .inr (3, [.ref zmp, .ref zmd, .int (nI M)])), (zmp, .inl (g.2.1 1, 8, .inl pu))]) ∧ (¬ r_1 = 0 → vp_in m 8 ∧ ∀ x_5 : Int32, x_5 = (pu m.toNatClampNeg) → Post (some (.int x_5)) [(h0, .inr (7, [.ref zt, .ref zl, .ref zc, .ref zm, .ref zb, .ref zs, .int bn, .int hk])), (zm, .inr (3, [.ref zmp, .ref zmd, .int (nI M)])), (zmp, .inl (g.2.1 1, 8, .inl pu))]))) : pz_At B 0 0 0 [(0, .ref h0), (1, .int m)] [] [(h0, .inr (7, [.ref zt, .ref zl, .ref zc, .ref zm, .ref zb, .ref zs, .int bn, .int hk])), (zm, .inr (3, [.ref zmp, .ref zmd, .int (nI M)])), (zmp, .inl (g.2.1 1, 8, .inl pu))] := by
  refine pz_aload_n 0 F rfl dX8_purse_0 rfl ?_
  refine pz_get (ci := 7) (C := RX8) (T := TX8) (N := 8) (v := .ref zm) 0 F rfl rfl pz_inX8 3 (by decide) pw_213 rfl dX8_purse_1 ?_
  refine pz_iload_n 1 F rfl dX8_purse_4 rfl ?_
  refine pz_callV (nA := 1) (ci := 3) (C := RX4) (T := TX4) (N := 3) (As := [.int m]) (rest := []) (wr := [(h0, .inr (7, [.ref zt, .ref zl, .ref zc, .ref zm, .ref zb, .ref zs, .int bn, .int hk])), (zmp, .inl (g.2.1 1, 8, .inl pu))]) F (ctX4_has _ g zm m zmp zmd (nI M)) 1 rfl rfl pw_425 pw_426 pw_427 pw_6 pw_428 (by decide +kernel) (by decide) (by decide) rfl rfl (Nat.le_of_ble_eq_true rfl) [1] [0, 2] rfl rfl rfl rfl (by decide) dX8_purse_5 (fun r0 w0 hp0 => ?_)
  obtain ⟨r_1, _, rfl, rfl, hq_2⟩ := hp0
  replace vc := vc r_1  hq_2
  refine pz_eq (st' := [.int r_1]) (ws' := [(h0, .inr (7, [.ref zt, .ref zl, .ref zc, .ref zm, .ref zb, .ref zs, .int bn, .int hk])), (zmp, .inl (g.2.1 1, 8, .inl pu)), (zm, .inr (3, [.ref zmp, .ref zmd, .int (nI M)]))]) rfl rfl ?_
  refine pz_if_eq (tgt := 23) F dX8_purse_8 (by decide) (fun q_3 => ?_) (fun q_3 => ?_)
  · replace vc := vc.1 q_3
    refine pz_iconst (v := (-1)) F dX8_purse_23 rfl ?_
    exact pz_ireturn (w1 := [(h0, .inr (7, [.ref zt, .ref zl, .ref zc, .ref zm, .ref zb, .ref zs, .int bn, .int hk])), (zm, .inr (3, [.ref zmp, .ref zmd, .int (nI M)])), (zmp, .inl (g.2.1 1, 8, .inl pu))]) F Rt (by decide) (by decide) dX8_purse_24 [0, 2, 1] rfl rfl rfl vc
  · replace vc := vc.2 q_3
    refine pz_aload_n 0 F rfl dX8_purse_11 rfl ?_
    refine pz_get (ci := 7) (C := RX8) (T := TX8) (N := 8) (v := .ref zm) 0 F rfl rfl pz_inX8 3 (by decide) pw_213 rfl dX8_purse_12 ?_
    refine pz_get (ci := 3) (C := RX4) (T := TX4) (N := 3) (v := .ref zmp) 2 F rfl rfl pz_inX4 0 (by decide) pw_165 rfl dX8_purse_15 ?_
    refine pz_iload_n 1 F rfl dX8_purse_18 rfl ?_
    obtain ⟨h_4, vc⟩ := vc
    refine pz_iaload 1 F rfl h_4 dX8_purse_19 ?_
    refine pz_goto (tgt := 24) F dX8_purse_20 (by decide) ?_
    refine pz_topi (fun x_5 ex_5 => ?_)
    replace vc := vc x_5 ex_5
    exact pz_ireturn (w1 := [(h0, .inr (7, [.ref zt, .ref zl, .ref zc, .ref zm, .ref zb, .ref zs, .int bn, .int hk])), (zm, .inr (3, [.ref zmp, .ref zmd, .int (nI M)])), (zmp, .inl (g.2.1 1, 8, .inl pu))]) F Rt (by decide) (by decide) dX8_purse_24 [0, 2, 1] rfl rfl rfl vc
set_option maxHeartbeats 4000000 in
set_option maxRecDepth 100000 in
theorem ctX8_purse (l : Launch) (g : pz_G) (m : Int32) (h0 : Nat) (zt : Nat) (zl : Nat) (zc : Nat) (zm : Nat) (zb : Nat) (zs : Nat) (bn : Int32) (hk : Int32) (zmp : Nat) (zmd : Nat) (pu : Nat → Int32) (M : Nat) (hpre : M ≤ 8) : pz_Ct l g yX8_purse cX8_purse 2 (some .int) rmX8_purse [.ref h0, .int m] [(h0, .inr (7, [.ref zt, .ref zl, .ref zc, .ref zm, .ref zb, .ref zs, .int bn, .int hk])), (zm, .inr (3, [.ref zmp, .ref zmd, .int (nI M)])), (zmp, .inl (g.2.1 1, 8, .inl pu))] (pz_pi (fun (r : Int32) (u : Unit) => r = if m < 0 then -1 else if (nI M) ≤ m then -1 else pu m.toNatClampNeg) (fun (u : Unit) => [(h0, .inr (7, [.ref zt, .ref zl, .ref zc, .ref zm, .ref zb, .ref zs, .int bn, .int hk])), (zm, .inr (3, [.ref zmp, .ref zmd, .int (nI M)])), (zmp, .inl (g.2.1 1, 8, .inl pu))])) := by
  refine pz_ofAt (by decide +kernel) (Nat.le_of_ble_eq_true rfl) (fun B F Rt hme => ?_)
  refine sgX8_purse_0 F Rt m h0 zt zl zc zm zb zs bn hk zmp zmd pu M ?_
  clear F Rt hme
  intro r hr
  by_cases q1 : m < 0
  · rw [if_pos q1] at hr
    exact ⟨fun _ => ⟨_, (), rfl, rfl, by rw [if_pos q1]⟩, fun q => absurd hr q⟩
  · rw [if_neg q1] at hr
    by_cases q2 : nI M ≤ m
    · rw [if_pos q2] at hr
      exact ⟨fun _ => ⟨_, (), rfl, rfl, by rw [if_neg q1, if_pos q2]⟩, fun q => absurd hr q⟩
    · rw [if_neg q2] at hr
      refine ⟨fun q => absurd (hr.symm.trans q) (by decide), fun _ => ⟨pu_inM hpre (by decide) q1 q2, ?_⟩⟩
      rintro x rfl
      exact ⟨_, (), rfl, rfl, by rw [if_neg q1, if_neg q2]⟩
abbrev rmX8_feed : Room := { frames := 1, cells := 0, slots := 0, locals := 22 }
set_option maxHeartbeats 4000000 in
set_option maxRecDepth 100000 in
theorem sgX8_feed_0 {B : pz_B} {g : pz_G} {wc : va_W} {Post : Option Value → va_W → Prop} (F : pz_F B cX8_feed 6 (some .int) yX8_feed.cls g rmX8_feed) (Rt : pz_Rt B g wc Post rmX8_feed) (a1 : Int32) (a2 : Int32) (a3 : Int32) (a4 : Int32) (a5 : Int32) (h0 : Nat) (zt : Nat) (zl : Nat) (zc : Nat) (zm : Nat) (zb : Nat) (zs : Nat) (bn : Int32) (hk : Int32) (ztb : Nat) (ts : Int32) (byt : Nat → Int32) (tn : Nat)  (vc : ∀ r_1 : Int32, ∀ _ : (r_1 = if 400 < ts + 20 then 0 else 1), ((¬ r_1 = 0 → ∃ t_4 : Nat, (t_4 + 4 ≤ 400 ∧ ts = nI t_4) ∧ ∀ ts2_6 : Int32, ∀ by2_7 : Nat → Int32, ∀ _ : (ts2_6 = nI (t_4 + 4) ∧ ∀ a, a < 400 → by2_7 a = if a < t_4 then byt a else if a < t_4 + 4 then ((a1 >>> (nI (24 - 8 * (a - t_4)) &&& 31)).toInt8.toInt32) else byt a), ∃ t_9 : Nat, (t_9 + 4 ≤ 400 ∧ ts2_6 = nI t_9) ∧ ∀ ts2_11 : Int32, ∀ by2_12 : Nat → Int32, ∀ _ : (ts2_11 = nI (t_9 + 4) ∧ ∀ a, a < 400 → by2_12 a = if a < t_9 then by2_7 a else if a < t_9 + 4 then ((a2 >>> (nI (24 - 8 * (a - t_9)) &&& 31)).toInt8.toInt32) else by2_7 a), ∃ t_14 : Nat, (t_14 + 4 ≤ 400 ∧ ts2_11 = nI t_14) ∧ ∀ ts2_16 : Int32, ∀ by2_17 : Nat → Int32, ∀ _ : (ts2_16 = nI (t_14 + 4) ∧ ∀ a, a < 400 → by2_17 a = if a < t_14 then by2_12 a else if a < t_14 + 4 then ((a3 >>> (nI (24 - 8 * (a - t_14)) &&& 31)).toInt8.toInt32) else by2_12 a), ∃ t_19 : Nat, (t_19 + 4 ≤ 400 ∧ ts2_16 = nI t_19) ∧ ∀ ts2_21 : Int32, ∀ by2_22 : Nat → Int32, ∀ _ : (ts2_21 = nI (t_19 + 4) ∧ ∀ a, a < 400 → by2_22 a = if a < t_19 then by2_17 a else if a < t_19 + 4 then ((a4 >>> (nI (24 - 8 * (a - t_19)) &&& 31)).toInt8.toInt32) else by2_17 a), ∃ t_24 : Nat, (t_24 + 4 ≤ 400 ∧ ts2_21 = nI t_24) ∧ ∀ ts2_26 : Int32, ∀ by2_27 : Nat → Int32, ∀ _ : (ts2_26 = nI (t_24 + 4) ∧ ∀ a, a < 400 → by2_27 a = if a < t_24 then by2_22 a else if a < t_24 + 4 then ((a5 >>> (nI (24 - 8 * (a - t_24)) &&& 31)).toInt8.toInt32) else by2_22 a), Post (some (.int ts2_26)) [(h0, .inr (7, [.ref zt, .ref zl, .ref zc, .ref zm, .ref zb, .ref zs, .int bn, .int hk])), (zt, .inr (6, [.ref ztb, .int ts2_26])), (ztb, .inl (g.2.1 0, 400, .inl by2_27))]) ∧ (r_1 = 0 → Post (some (.int (-1))) [(h0, .inr (7, [.ref zt, .ref zl, .ref zc, .ref zm, .ref zb, .ref zs, .int bn, .int hk])), (zt, .inr (6, [.ref ztb, .int ts])), (ztb, .inl (g.2.1 0, 400, .inl byt))]))) : pz_At B 0 0 0 [(0, .ref h0), (1, .int a1), (2, .int a2), (3, .int a3), (4, .int a4), (5, .int a5)] [] [(h0, .inr (7, [.ref zt, .ref zl, .ref zc, .ref zm, .ref zb, .ref zs, .int bn, .int hk])), (zt, .inr (6, [.ref ztb, .int ts])), (ztb, .inl (g.2.1 0, 400, .inl byt))] := by
  refine pz_aload_n 0 F rfl dX8_feed_0 rfl ?_
  refine pz_get (ci := 7) (C := RX8) (T := TX8) (N := 8) (v := .ref zt) 0 F rfl rfl pz_inX8 0 (by decide) pw_210 rfl dX8_feed_1 ?_
  refine pz_callV (nA := 0) (ci := 6) (C := RX7) (T := TX7) (N := 2) (As := []) (rest := []) (wr := [(h0, .inr (7, [.ref zt, .ref zl, .ref zc, .ref zm, .ref zb, .ref zs, .int bn, .int hk])), (ztb, .inl (g.2.1 0, 400, .inl byt))]) F (ctX7_hasRoom _ g zt ztb ts) 1 rfl rfl pw_239 pw_240 pw_241 pw_2 pw_242 (by decide +kernel) (by decide) (by decide) rfl rfl (Nat.le_of_ble_eq_true rfl) [1] [0, 2] rfl rfl rfl rfl (by decide) dX8_feed_4 (fun r0 w0 hp0 => ?_)
  obtain ⟨r_1, _, rfl, rfl, hq_2⟩ := hp0
  replace vc := vc r_1  hq_2
  refine pz_eq (st' := [.int r_1]) (ws' := [(h0, .inr (7, [.ref zt, .ref zl, .ref zc, .ref zm, .ref zb, .ref zs, .int bn, .int hk])), (ztb, .inl (g.2.1 0, 400, .inl byt)), (zt, .inr (6, [.ref ztb, .int ts]))]) rfl rfl ?_
  refine pz_if_ne (tgt := 12) F dX8_feed_7 (by decide) (fun q_3 => ?_) (fun q_3 => ?_)
  · replace vc := vc.1 q_3
    refine pz_aload_n 0 F rfl dX8_feed_12 rfl ?_
    refine pz_get (ci := 7) (C := RX8) (T := TX8) (N := 8) (v := .ref zt) 0 F rfl rfl pz_inX8 0 (by decide) pw_210 rfl dX8_feed_13 ?_
    refine pz_iload_n 1 F rfl dX8_feed_16 rfl ?_
    obtain ⟨t_4, vc⟩ := vc
    obtain ⟨h_5, vc⟩ := vc
    refine pz_callV (nA := 1) (ci := 6) (C := RX7) (T := TX7) (N := 2) (As := [.int a1]) (rest := []) (wr := [(h0, .inr (7, [.ref zt, .ref zl, .ref zc, .ref zm, .ref zb, .ref zs, .int bn, .int hk]))]) F (ctX7_append _ g a1 zt ztb ts byt t_4 h_5) 2 rfl rfl pw_243 pw_244 pw_245 pw_2 pw_246 (by decide +kernel) (by decide) (by decide) rfl rfl (Nat.le_of_ble_eq_true rfl) [2, 1] [0] rfl rfl rfl rfl (by decide) dX8_feed_17 (fun r0 w0 hp0 => ?_)
    obtain ⟨⟨ts2_6, by2_7⟩, rfl, rfl, hq_8⟩ := hp0
    replace vc := vc ts2_6 by2_7 hq_8
    refine pz_eq (st' := []) (ws' := [(h0, .inr (7, [.ref zt, .ref zl, .ref zc, .ref zm, .ref zb, .ref zs, .int bn, .int hk])), (zt, .inr (6, [.ref ztb, .int ts2_6])), (ztb, .inl (g.2.1 0, 400, .inl by2_7))]) rfl rfl ?_
    refine pz_aload_n 0 F rfl dX8_feed_20 rfl ?_
    refine pz_get (ci := 7) (C := RX8) (T := TX8) (N := 8) (v := .ref zt) 0 F rfl rfl pz_inX8 0 (by decide) pw_210 rfl dX8_feed_21 ?_
    refine pz_iload_n 2 F rfl dX8_feed_24 rfl ?_
    obtain ⟨t_9, vc⟩ := vc
    obtain ⟨h_10, vc⟩ := vc
    refine pz_callV (nA := 1) (ci := 6) (C := RX7) (T := TX7) (N := 2) (As := [.int a2]) (rest := []) (wr := [(h0, .inr (7, [.ref zt, .ref zl, .ref zc, .ref zm, .ref zb, .ref zs, .int bn, .int hk]))]) F (ctX7_append _ g a2 zt ztb ts2_6 by2_7 t_9 h_10) 1 rfl rfl pw_243 pw_244 pw_245 pw_2 pw_246 (by decide +kernel) (by decide) (by decide) rfl rfl (Nat.le_of_ble_eq_true rfl) [1, 2] [0] rfl rfl rfl rfl (by decide) dX8_feed_25 (fun r0 w0 hp0 => ?_)
    obtain ⟨⟨ts2_11, by2_12⟩, rfl, rfl, hq_13⟩ := hp0
    replace vc := vc ts2_11 by2_12 hq_13
    refine pz_eq (st' := []) (ws' := [(h0, .inr (7, [.ref zt, .ref zl, .ref zc, .ref zm, .ref zb, .ref zs, .int bn, .int hk])), (zt, .inr (6, [.ref ztb, .int ts2_11])), (ztb, .inl (g.2.1 0, 400, .inl by2_12))]) rfl rfl ?_
    refine pz_aload_n 0 F rfl dX8_feed_28 rfl ?_
    refine pz_get (ci := 7) (C := RX8) (T := TX8) (N := 8) (v := .ref zt) 0 F rfl rfl pz_inX8 0 (by decide) pw_210 rfl dX8_feed_29 ?_
    refine pz_iload_n 3 F rfl dX8_feed_32 rfl ?_
    obtain ⟨t_14, vc⟩ := vc
    obtain ⟨h_15, vc⟩ := vc
    refine pz_callV (nA := 1) (ci := 6) (C := RX7) (T := TX7) (N := 2) (As := [.int a3]) (rest := []) (wr := [(h0, .inr (7, [.ref zt, .ref zl, .ref zc, .ref zm, .ref zb, .ref zs, .int bn, .int hk]))]) F (ctX7_append _ g a3 zt ztb ts2_11 by2_12 t_14 h_15) 1 rfl rfl pw_243 pw_244 pw_245 pw_2 pw_246 (by decide +kernel) (by decide) (by decide) rfl rfl (Nat.le_of_ble_eq_true rfl) [1, 2] [0] rfl rfl rfl rfl (by decide) dX8_feed_33 (fun r0 w0 hp0 => ?_)
    obtain ⟨⟨ts2_16, by2_17⟩, rfl, rfl, hq_18⟩ := hp0
    replace vc := vc ts2_16 by2_17 hq_18
    refine pz_eq (st' := []) (ws' := [(h0, .inr (7, [.ref zt, .ref zl, .ref zc, .ref zm, .ref zb, .ref zs, .int bn, .int hk])), (zt, .inr (6, [.ref ztb, .int ts2_16])), (ztb, .inl (g.2.1 0, 400, .inl by2_17))]) rfl rfl ?_
    refine pz_aload_n 0 F rfl dX8_feed_36 rfl ?_
    refine pz_get (ci := 7) (C := RX8) (T := TX8) (N := 8) (v := .ref zt) 0 F rfl rfl pz_inX8 0 (by decide) pw_210 rfl dX8_feed_37 ?_
    refine pz_iload 4 F rfl dX8_feed_40 ?_
    obtain ⟨t_19, vc⟩ := vc
    obtain ⟨h_20, vc⟩ := vc
    refine pz_callV (nA := 1) (ci := 6) (C := RX7) (T := TX7) (N := 2) (As := [.int a4]) (rest := []) (wr := [(h0, .inr (7, [.ref zt, .ref zl, .ref zc, .ref zm, .ref zb, .ref zs, .int bn, .int hk]))]) F (ctX7_append _ g a4 zt ztb ts2_16 by2_17 t_19 h_20) 1 rfl rfl pw_243 pw_244 pw_245 pw_2 pw_246 (by decide +kernel) (by decide) (by decide) rfl rfl (Nat.le_of_ble_eq_true rfl) [1, 2] [0] rfl rfl rfl rfl (by decide) dX8_feed_42 (fun r0 w0 hp0 => ?_)
    obtain ⟨⟨ts2_21, by2_22⟩, rfl, rfl, hq_23⟩ := hp0
    replace vc := vc ts2_21 by2_22 hq_23
    refine pz_eq (st' := []) (ws' := [(h0, .inr (7, [.ref zt, .ref zl, .ref zc, .ref zm, .ref zb, .ref zs, .int bn, .int hk])), (zt, .inr (6, [.ref ztb, .int ts2_21])), (ztb, .inl (g.2.1 0, 400, .inl by2_22))]) rfl rfl ?_
    refine pz_aload_n 0 F rfl dX8_feed_45 rfl ?_
    refine pz_get (ci := 7) (C := RX8) (T := TX8) (N := 8) (v := .ref zt) 0 F rfl rfl pz_inX8 0 (by decide) pw_210 rfl dX8_feed_46 ?_
    refine pz_iload 5 F rfl dX8_feed_49 ?_
    obtain ⟨t_24, vc⟩ := vc
    obtain ⟨h_25, vc⟩ := vc
    refine pz_callV (nA := 1) (ci := 6) (C := RX7) (T := TX7) (N := 2) (As := [.int a5]) (rest := []) (wr := [(h0, .inr (7, [.ref zt, .ref zl, .ref zc, .ref zm, .ref zb, .ref zs, .int bn, .int hk]))]) F (ctX7_append _ g a5 zt ztb ts2_21 by2_22 t_24 h_25) 1 rfl rfl pw_243 pw_244 pw_245 pw_2 pw_246 (by decide +kernel) (by decide) (by decide) rfl rfl (Nat.le_of_ble_eq_true rfl) [1, 2] [0] rfl rfl rfl rfl (by decide) dX8_feed_51 (fun r0 w0 hp0 => ?_)
    obtain ⟨⟨ts2_26, by2_27⟩, rfl, rfl, hq_28⟩ := hp0
    replace vc := vc ts2_26 by2_27 hq_28
    refine pz_eq (st' := []) (ws' := [(h0, .inr (7, [.ref zt, .ref zl, .ref zc, .ref zm, .ref zb, .ref zs, .int bn, .int hk])), (zt, .inr (6, [.ref ztb, .int ts2_26])), (ztb, .inl (g.2.1 0, 400, .inl by2_27))]) rfl rfl ?_
    refine pz_aload_n 0 F rfl dX8_feed_54 rfl ?_
    refine pz_get (ci := 7) (C := RX8) (T := TX8) (N := 8) (v := .ref zt) 0 F rfl rfl pz_inX8 0 (by decide) pw_210 rfl dX8_feed_55 ?_
    refine pz_get (ci := 6) (C := RX7) (T := TX7) (N := 2) (v := .int ts2_26) 1 F rfl rfl pz_inX7 1 (by decide) pw_41 rfl dX8_feed_58 ?_
    exact pz_ireturn (w1 := [(h0, .inr (7, [.ref zt, .ref zl, .ref zc, .ref zm, .ref zb, .ref zs, .int bn, .int hk])), (zt, .inr (6, [.ref ztb, .int ts2_26])), (ztb, .inl (g.2.1 0, 400, .inl by2_27))]) F Rt (by decide) (by decide) dX8_feed_61 [0, 1, 2] rfl rfl rfl vc
  · replace vc := vc.2 q_3
    refine pz_iconst (v := (-1)) F dX8_feed_10 rfl ?_
    exact pz_ireturn (w1 := [(h0, .inr (7, [.ref zt, .ref zl, .ref zc, .ref zm, .ref zb, .ref zs, .int bn, .int hk])), (zt, .inr (6, [.ref ztb, .int ts])), (ztb, .inl (g.2.1 0, 400, .inl byt))]) F Rt (by decide) (by decide) dX8_feed_11 [0, 2, 1] rfl rfl rfl vc
set_option maxHeartbeats 4000000 in
set_option maxRecDepth 100000 in
theorem ctX8_feed (l : Launch) (g : pz_G) (a1 : Int32) (a2 : Int32) (a3 : Int32) (a4 : Int32) (a5 : Int32) (h0 : Nat) (zt : Nat) (zl : Nat) (zc : Nat) (zm : Nat) (zb : Nat) (zs : Nat) (bn : Int32) (hk : Int32) (ztb : Nat) (ts : Int32) (byt : Nat → Int32) (tn : Nat) (hpre : tn ≤ 400 ∧ ts = nI tn) : pz_Ct l g yX8_feed cX8_feed 6 (some .int) rmX8_feed [.ref h0, .int a1, .int a2, .int a3, .int a4, .int a5] [(h0, .inr (7, [.ref zt, .ref zl, .ref zc, .ref zm, .ref zb, .ref zs, .int bn, .int hk])), (zt, .inr (6, [.ref ztb, .int ts])), (ztb, .inl (g.2.1 0, 400, .inl byt))] (pz_pi (fun (r : Int32) (u : Int32 × (Nat → Int32)) => (400 < tn + 20 ∧ r = -1 ∧ u.1 = nI tn ∧ u.2 = byt) ∨ (tn + 20 ≤ 400 ∧ r = nI (tn + 20) ∧ u.1 = nI (tn + 20) ∧ ∀ a, a < 400 → u.2 a = if tn ≤ a ∧ a < tn + 20 then fe_b (fe_w a1 a2 a3 a4 a5 ((a - tn) / 4)) ((a - tn) % 4) else byt a)) (fun (u : Int32 × (Nat → Int32)) => [(h0, .inr (7, [.ref zt, .ref zl, .ref zc, .ref zm, .ref zb, .ref zs, .int bn, .int hk])), (zt, .inr (6, [.ref ztb, .int u.1])), (ztb, .inl (g.2.1 0, 400, .inl u.2))])) := by
  refine pz_ofAt (by decide +kernel) (Nat.le_of_ble_eq_true rfl) (fun B F Rt hme => ?_)
  obtain ⟨ht, h1⟩ := hpre
  subst h1
  refine sgX8_feed_0 F Rt a1 a2 a3 a4 a5 h0 zt zl zc zm zb zs bn hk ztb (nI tn) byt tn ?_
  clear F Rt hme
  intro r hr
  have e20 : nI tn + 20 = nI (tn + 20) := nI_add tn 20
  rw [e20] at hr
  refine ⟨fun q => ?_, fun q => ?_⟩
  · have h2 : tn + 20 ≤ 400 := by
      apply Classical.byContradiction
      intro h
      rw [if_pos (c := (400 : Int32) < nI (tn + 20)) (nI_lt (a := 400) (by omega) (by omega))] at hr
      exact q hr
    refine ⟨tn, ⟨by omega, rfl⟩, fun t1 y1 k1 => ⟨tn + 4, ⟨by omega, k1.1⟩, fun t2 y2 k2 => ⟨tn + 8, ⟨by omega, k2.1⟩, fun t3 y3 k3 => ⟨tn + 12, ⟨by omega, k3.1⟩, fun t4 y4 k4 => ⟨tn + 16, ⟨by omega, k4.1⟩, fun t5 y5 k5 => ?_⟩⟩⟩⟩⟩
    refine ⟨_, (_, _), rfl, rfl, Or.inr ⟨h2, k5.1, k5.1, fun a ha => ?_⟩⟩
    show y5 a = _
    rw [k5.2 a ha]
    by_cases p0 : a < tn
    · rw [if_pos (c := a < tn + 16) (by omega), k4.2 a ha, if_pos (c := a < tn + 12) (by omega), k3.2 a ha, if_pos (c := a < tn + 8) (by omega), k2.2 a ha, if_pos (c := a < tn + 4) (by omega), k1.2 a ha, if_pos p0, if_neg (by omega)]
    by_cases p5 : ¬ a < tn + 20
    · rw [if_neg (c := a < tn + 16) (by omega), if_neg (c := a < tn + 16 + 4) (by omega), k4.2 a ha, if_neg (c := a < tn + 12) (by omega), if_neg (c := a < tn + 12 + 4) (by omega), k3.2 a ha, if_neg (c := a < tn + 8) (by omega), if_neg (c := a < tn + 8 + 4) (by omega), k2.2 a ha, if_neg (c := a < tn + 4) (by omega), if_neg (c := a < tn + 4 + 4) (by omega), k1.2 a ha, if_neg p0, if_neg (c := a < tn + 4) (by omega), if_neg (by omega)]
    obtain ⟨u, hu, rfl⟩ : ∃ u, u < 20 ∧ a = tn + u := ⟨a - tn, by omega, by omega⟩
    rw [if_pos (c := tn ≤ tn + u ∧ tn + u < tn + 20) (by omega), Nat.add_sub_cancel_left]
    by_cases p1 : u < 4
    · rw [if_pos (c := tn + u < tn + 16) (by omega), k4.2 _ ha, if_pos (c := tn + u < tn + 12) (by omega), k3.2 _ ha, if_pos (c := tn + u < tn + 8) (by omega), k2.2 _ ha, if_pos (c := tn + u < tn + 4) (by omega), k1.2 _ ha, if_neg p0, if_pos (c := tn + u < tn + 4) (by omega), Nat.add_sub_cancel_left, show u / 4 = 0 by omega, show u % 4 = u by omega]
      rfl
    by_cases p2 : u < 8
    · rw [if_pos (c := tn + u < tn + 16) (by omega), k4.2 _ ha, if_pos (c := tn + u < tn + 12) (by omega), k3.2 _ ha, if_pos (c := tn + u < tn + 8) (by omega), k2.2 _ ha, if_neg (c := tn + u < tn + 4) (by omega), if_pos (c := tn + u < tn + 4 + 4) (by omega), show tn + u - (tn + 4) = u - 4 by omega, show u / 4 = 1 by omega, show u % 4 = u - 4 by omega]
      rfl
    by_cases p3 : u < 12
    · rw [if_pos (c := tn + u < tn + 16) (by omega), k4.2 _ ha, if_pos (c := tn + u < tn + 12) (by omega), k3.2 _ ha, if_neg (c := tn + u < tn + 8) (by omega), if_pos (c := tn + u < tn + 8 + 4) (by omega), show tn + u - (tn + 8) = u - 8 by omega, show u / 4 = 2 by omega, show u % 4 = u - 8 by omega]
      rfl
    by_cases p4 : u < 16
    · rw [if_pos (c := tn + u < tn + 16) (by omega), k4.2 _ ha, if_neg (c := tn + u < tn + 12) (by omega), if_pos (c := tn + u < tn + 12 + 4) (by omega), show tn + u - (tn + 12) = u - 12 by omega, show u / 4 = 3 by omega, show u % 4 = u - 12 by omega]
      rfl
    · rw [if_neg (c := tn + u < tn + 16) (by omega), if_pos (c := tn + u < tn + 16 + 4) (by omega), show tn + u - (tn + 16) = u - 16 by omega, show u / 4 = 4 by omega, show u % 4 = u - 16 by omega]
      rfl
  · have h2 : 400 < tn + 20 := by
      apply Classical.byContradiction
      intro h
      rw [if_neg (c := (400 : Int32) < nI (tn + 20)) (fun e => absurd e (Int32.not_lt.mpr (nI_le (b := 400) (by omega) (by omega))))] at hr
      rw [hr] at q
      exact absurd q (by decide)
    exact ⟨_, (_, _), rfl, rfl, Or.inl ⟨h2, rfl, rfl, rfl⟩⟩
abbrev rmX8_customs_R : Room := { frames := 8, cells := 0, slots := 0, locals := 176 }
set_option maxHeartbeats 4000000 in
set_option maxRecDepth 100000 in
theorem sgX8_customs_R_0 {B : pz_B} {g : pz_G} {wc : va_W} {Post : Option Value → va_W → Prop} (F : pz_F B cX8_customs 3 (some .int) yX8_customs.cls g rmX8_customs_R) (Rt : pz_Rt B g wc Post rmX8_customs_R) (x : Int32) (h0 : Nat) (zt : Nat) (zl : Nat) (zc : Nat) (zm : Nat) (zb : Nat) (zs : Nat) (bn : Int32) (hk : Int32) (ztb : Nat) (ts : Int32) (byt : Nat → Int32) (zlr : Nat) (zli : Nat) (zld : Nat) (zlt : Nat) (ff : Int32) (fp : Int32) (en : Int32) (tk : Int32) (sa : Int32) (bh : Int32) (nu : Int32) (inf : Nat → Int32) (dr : Nat → Int32) (to : Nat → Int32) (z : Option Nat) (e : Nat)  (vc : ((x < 0 → Post (some (.int (-2))) [(h0, .inr (7, [.ref zt, .ref zl, .ref zc, .ref zm, .ref zb, .ref zs, .int bn, .int hk])), (zt, .inr (6, [.ref ztb, .int ts])), (ztb, .inl (g.2.1 0, 400, .inl byt)), (zl, .inr (2, [.ref zlr, .ref zli, .ref zld, .ref zlt, .int ff, .int fp])), (zlr, .inr (4, [va_rf z, .int en, .int tk, .int sa, .int bh, .int nu])), (zli, .inl (g.2.1 1, 12, .inl inf)), (zld, .inl (g.2.1 1, 12, .inl dr)), (zlt, .inl (g.2.1 3, 12, .inl to))]) ∧ (¬ x < 0 → ((x ≤ ts → (e ≤ 400 ∧ x = nI e) ∧ ∀ r_13 : Int32, ∀ ff2_4 : Int32, ∀ fp2_5 : Int32, ∀ tk2_6 : Int32, ∀ sa2_7 : Int32, ∀ bh2_8 : Int32, ∀ nu2_9 : Int32, ∀ dr2_10 : Nat → Int32, ∀ to2_11 : Nat → Int32, ∀ inf2_12 : Nat → Int32, ∀ _ : (∃ d0 t0 : Nat → Int32, (∀ a, a < 12 → d0 a = 0) ∧ (∀ a, a < 12 → t0 a = 0) ∧ (((pl_read (pu_cs byt e) e (e + 1) 0 0 d0 t0).1 = 0 ∧ r_13 = nI (pl_read (pu_cs byt e) e (e + 1) 0 0 d0 t0).2.2.1 ∧ ff2_4 = 0 ∧ fp2_5 = -1 ∧ ∀ a, a < 12 → inf2_12 a = (pl_read (pu_cs byt e) e (e + 1) 0 0 d0 t0).2.2.2 a) ∨ (¬ (pl_read (pu_cs byt e) e (e + 1) 0 0 d0 t0).1 = 0 ∧ r_13 = -1 ∧ ff2_4 = (pl_read (pu_cs byt e) e (e + 1) 0 0 d0 t0).1 ∧ fp2_5 = nI (pl_read (pu_cs byt e) e (e + 1) 0 0 d0 t0).2.1 ∧ inf2_12 = inf))), Post (some (.int r_13)) [(h0, .inr (7, [.ref zt, .ref zl, .ref zc, .ref zm, .ref zb, .ref zs, .int bn, .int hk])), (zt, .inr (6, [.ref ztb, .int 0])), (ztb, .inl (g.2.1 0, 400, .inl byt)), (zl, .inr (2, [.ref zlr, .ref zli, .ref zld, .ref zlt, .int ff2_4, .int fp2_5])), (zlr, .inr (4, [.ref zt, .int (nI e), .int tk2_6, .int sa2_7, .int bh2_8, .int nu2_9])), (zli, .inl (g.2.1 1, 12, .inl inf2_12)), (zld, .inl (g.2.1 1, 12, .inl dr2_10)), (zlt, .inl (g.2.1 3, 12, .inl to2_11))]) ∧ (¬ x ≤ ts → Post (some (.int (-2))) [(h0, .inr (7, [.ref zt, .ref zl, .ref zc, .ref zm, .ref zb, .ref zs, .int bn, .int hk])), (zt, .inr (6, [.ref ztb, .int ts])), (ztb, .inl (g.2.1 0, 400, .inl byt)), (zl, .inr (2, [.ref zlr, .ref zli, .ref zld, .ref zlt, .int ff, .int fp])), (zlr, .inr (4, [va_rf z, .int en, .int tk, .int sa, .int bh, .int nu])), (zli, .inl (g.2.1 1, 12, .inl inf)), (zld, .inl (g.2.1 1, 12, .inl dr)), (zlt, .inl (g.2.1 3, 12, .inl to))]))))) : pz_At B 0 0 0 [(0, .ref h0), (1, .int x)] [] [(h0, .inr (7, [.ref zt, .ref zl, .ref zc, .ref zm, .ref zb, .ref zs, .int bn, .int hk])), (zt, .inr (6, [.ref ztb, .int ts])), (ztb, .inl (g.2.1 0, 400, .inl byt)), (zl, .inr (2, [.ref zlr, .ref zli, .ref zld, .ref zlt, .int ff, .int fp])), (zlr, .inr (4, [va_rf z, .int en, .int tk, .int sa, .int bh, .int nu])), (zli, .inl (g.2.1 1, 12, .inl inf)), (zld, .inl (g.2.1 1, 12, .inl dr)), (zlt, .inl (g.2.1 3, 12, .inl to))] := by
  refine pz_iload_n 1 F rfl dX8_customs_0 rfl ?_
  refine pz_if_lt (tgt := 15) F dX8_customs_1 (by decide) (fun q_1 => ?_) (fun q_1 => ?_)
  · replace vc := vc.1 q_1
    refine pz_bipush (v := (-2)) F dX8_customs_15 rfl ?_
    exact pz_ireturn (w1 := [(h0, .inr (7, [.ref zt, .ref zl, .ref zc, .ref zm, .ref zb, .ref zs, .int bn, .int hk])), (zt, .inr (6, [.ref ztb, .int ts])), (ztb, .inl (g.2.1 0, 400, .inl byt)), (zl, .inr (2, [.ref zlr, .ref zli, .ref zld, .ref zlt, .int ff, .int fp])), (zlr, .inr (4, [va_rf z, .int en, .int tk, .int sa, .int bh, .int nu])), (zli, .inl (g.2.1 1, 12, .inl inf)), (zld, .inl (g.2.1 1, 12, .inl dr)), (zlt, .inl (g.2.1 3, 12, .inl to))]) F Rt (by decide) (by decide) dX8_customs_17 [0, 1, 2, 3, 4, 5, 6, 7] rfl rfl rfl vc
  · replace vc := vc.2 q_1
    refine pz_iload_n 1 F rfl dX8_customs_4 rfl ?_
    refine pz_aload_n 0 F rfl dX8_customs_5 rfl ?_
    refine pz_get (ci := 7) (C := RX8) (T := TX8) (N := 8) (v := .ref zt) 0 F rfl rfl pz_inX8 0 (by decide) pw_210 rfl dX8_customs_6 ?_
    refine pz_get (ci := 6) (C := RX7) (T := TX7) (N := 2) (v := .int ts) 1 F rfl rfl pz_inX7 1 (by decide) pw_41 rfl dX8_customs_9 ?_
    refine pz_icmp_le (tgt := 18) F dX8_customs_12 (by decide) (fun q_2 => ?_) (fun q_2 => ?_)
    · replace vc := vc.1 q_2
      refine pz_aload_n 0 F rfl dX8_customs_18 rfl ?_
      refine pz_get (ci := 7) (C := RX8) (T := TX8) (N := 8) (v := .ref zl) 0 F rfl rfl pz_inX8 1 (by decide) pw_211 rfl dX8_customs_19 ?_
      refine pz_aload_n 0 F rfl dX8_customs_22 rfl ?_
      refine pz_get (ci := 7) (C := RX8) (T := TX8) (N := 8) (v := .ref zt) 0 F rfl rfl pz_inX8 0 (by decide) pw_210 rfl dX8_customs_23 ?_
      refine pz_iload_n 1 F rfl dX8_customs_26 rfl ?_
      obtain ⟨h_3, vc⟩ := vc
      refine pz_callV (nA := 2) (ci := 2) (C := RX2) (T := TX2) (N := 6) (As := [.ref zt, .int x]) (rest := []) (wr := [(h0, .inr (7, [.ref zt, .ref zl, .ref zc, .ref zm, .ref zb, .ref zs, .int bn, .int hk]))]) F (ctX2_read _ g zl zlr zli zld zlt ff fp zt en tk sa bh nu ztb ts byt dr to inf x z e h_3) 3 rfl rfl pw_251 pw_252 pw_253 pw_3 pw_254 (by decide +kernel) (by decide) (by decide) rfl rfl (Nat.le_of_ble_eq_true rfl) [3, 4, 1, 2, 6, 7, 5] [0] rfl rfl rfl rfl (by decide) dX8_customs_27 (fun r0 w0 hp0 => ?_)
      obtain ⟨r_13, ⟨ff2_4, fp2_5, tk2_6, sa2_7, bh2_8, nu2_9, dr2_10, to2_11, inf2_12⟩, rfl, rfl, hq_14⟩ := hp0
      replace vc := vc r_13 ff2_4 fp2_5 tk2_6 sa2_7 bh2_8 nu2_9 dr2_10 to2_11 inf2_12 hq_14
      refine pz_eq (st' := [.int r_13]) (ws' := [(h0, .inr (7, [.ref zt, .ref zl, .ref zc, .ref zm, .ref zb, .ref zs, .int bn, .int hk])), (zl, .inr (2, [.ref zlr, .ref zli, .ref zld, .ref zlt, .int ff2_4, .int fp2_5])), (zlr, .inr (4, [.ref zt, .int (nI e), .int tk2_6, .int sa2_7, .int bh2_8, .int nu2_9])), (zt, .inr (6, [.ref ztb, .int ts])), (ztb, .inl (g.2.1 0, 400, .inl byt)), (zld, .inl (g.2.1 1, 12, .inl dr2_10)), (zlt, .inl (g.2.1 3, 12, .inl to2_11)), (zli, .inl (g.2.1 1, 12, .inl inf2_12))]) rfl rfl ?_
      refine pz_istore_n (lv' := [(2, .int r_13), (0, .ref h0), (1, .int x)]) F dX8_customs_30 rfl (by decide) rfl ?_
      refine pz_aload_n 1 F rfl dX8_customs_31 rfl ?_
      refine pz_get (ci := 7) (C := RX8) (T := TX8) (N := 8) (v := .ref zt) 0 F rfl rfl pz_inX8 0 (by decide) pw_210 rfl dX8_customs_32 ?_
      refine pz_iconst (v := 0) F dX8_customs_35 rfl ?_
      refine pz_put (ws' := [(h0, .inr (7, [.ref zt, .ref zl, .ref zc, .ref zm, .ref zb, .ref zs, .int bn, .int hk])), (zl, .inr (2, [.ref zlr, .ref zli, .ref zld, .ref zlt, .int ff2_4, .int fp2_5])), (zlr, .inr (4, [.ref zt, .int (nI e), .int tk2_6, .int sa2_7, .int bh2_8, .int nu2_9])), (zt, .inr (6, [.ref ztb, .int 0])), (ztb, .inl (g.2.1 0, 400, .inl byt)), (zld, .inl (g.2.1 1, 12, .inl dr2_10)), (zlt, .inl (g.2.1 3, 12, .inl to2_11)), (zli, .inl (g.2.1 1, 12, .inl inf2_12))]) (ci := 6) (C := RX7) (T := TX7) (N := 2) (v := .int 0) (ty := .int) 3 F rfl rfl pz_inX7 1 (by decide) pw_41 tyX7_ok nmX7 rfl rfl rfl rfl (Nat.le_of_ble_eq_true rfl) dX8_customs_36 rfl ?_
      refine pz_iload_n 0 F rfl dX8_customs_39 rfl ?_
      exact pz_ireturn (w1 := [(h0, .inr (7, [.ref zt, .ref zl, .ref zc, .ref zm, .ref zb, .ref zs, .int bn, .int hk])), (zt, .inr (6, [.ref ztb, .int 0])), (ztb, .inl (g.2.1 0, 400, .inl byt)), (zl, .inr (2, [.ref zlr, .ref zli, .ref zld, .ref zlt, .int ff2_4, .int fp2_5])), (zlr, .inr (4, [.ref zt, .int (nI e), .int tk2_6, .int sa2_7, .int bh2_8, .int nu2_9])), (zli, .inl (g.2.1 1, 12, .inl inf2_12)), (zld, .inl (g.2.1 1, 12, .inl dr2_10)), (zlt, .inl (g.2.1 3, 12, .inl to2_11))]) F Rt (by decide) (by decide) dX8_customs_40 [0, 3, 4, 1, 2, 7, 5, 6] rfl rfl rfl vc
    · replace vc := vc.2 q_2
      refine pz_bipush (v := (-2)) F dX8_customs_15 rfl ?_
      exact pz_ireturn (w1 := [(h0, .inr (7, [.ref zt, .ref zl, .ref zc, .ref zm, .ref zb, .ref zs, .int bn, .int hk])), (zt, .inr (6, [.ref ztb, .int ts])), (ztb, .inl (g.2.1 0, 400, .inl byt)), (zl, .inr (2, [.ref zlr, .ref zli, .ref zld, .ref zlt, .int ff, .int fp])), (zlr, .inr (4, [va_rf z, .int en, .int tk, .int sa, .int bh, .int nu])), (zli, .inl (g.2.1 1, 12, .inl inf)), (zld, .inl (g.2.1 1, 12, .inl dr)), (zlt, .inl (g.2.1 3, 12, .inl to))]) F Rt (by decide) (by decide) dX8_customs_17 [0, 1, 2, 3, 4, 5, 6, 7] rfl rfl rfl vc
set_option maxHeartbeats 4000000 in
set_option maxRecDepth 100000 in
theorem ctX8_customs_R (l : Launch) (g : pz_G) (x : Int32) (h0 : Nat) (zt : Nat) (zl : Nat) (zc : Nat) (zm : Nat) (zb : Nat) (zs : Nat) (bn : Int32) (hk : Int32) (ztb : Nat) (ts : Int32) (byt : Nat → Int32) (zlr : Nat) (zli : Nat) (zld : Nat) (zlt : Nat) (ff : Int32) (fp : Int32) (en : Int32) (tk : Int32) (sa : Int32) (bh : Int32) (nu : Int32) (inf : Nat → Int32) (dr : Nat → Int32) (to : Nat → Int32) (z : Option Nat) (e : Nat) (hpre : x < 0 ∨ ts < x) : pz_Ct l g yX8_customs cX8_customs 3 (some .int) rmX8_customs_R [.ref h0, .int x] [(h0, .inr (7, [.ref zt, .ref zl, .ref zc, .ref zm, .ref zb, .ref zs, .int bn, .int hk])), (zt, .inr (6, [.ref ztb, .int ts])), (ztb, .inl (g.2.1 0, 400, .inl byt)), (zl, .inr (2, [.ref zlr, .ref zli, .ref zld, .ref zlt, .int ff, .int fp])), (zlr, .inr (4, [va_rf z, .int en, .int tk, .int sa, .int bh, .int nu])), (zli, .inl (g.2.1 1, 12, .inl inf)), (zld, .inl (g.2.1 1, 12, .inl dr)), (zlt, .inl (g.2.1 3, 12, .inl to))] (pz_pi (fun (r : Int32) (u : Unit) => r = -2) (fun (u : Unit) => [(h0, .inr (7, [.ref zt, .ref zl, .ref zc, .ref zm, .ref zb, .ref zs, .int bn, .int hk])), (zt, .inr (6, [.ref ztb, .int ts])), (ztb, .inl (g.2.1 0, 400, .inl byt)), (zl, .inr (2, [.ref zlr, .ref zli, .ref zld, .ref zlt, .int ff, .int fp])), (zlr, .inr (4, [va_rf z, .int en, .int tk, .int sa, .int bh, .int nu])), (zli, .inl (g.2.1 1, 12, .inl inf)), (zld, .inl (g.2.1 1, 12, .inl dr)), (zlt, .inl (g.2.1 3, 12, .inl to))])) := by
  refine pz_ofAt (by decide +kernel) (Nat.le_of_ble_eq_true rfl) (fun B F Rt hme => ?_)
  refine sgX8_customs_R_0 F Rt x h0 zt zl zc zm zb zs bn hk ztb ts byt zlr zli zld zlt ff fp en tk sa bh nu inf dr to z e ?_
  refine ⟨fun q => ⟨_, (), rfl, rfl, rfl⟩, fun q => ⟨fun q2 => ?_, fun q2 => ⟨_, (), rfl, rfl, rfl⟩⟩⟩
  rcases hpre with h | h
  · exact absurd h q
  · exact absurd h (Int32.not_lt.mpr q2)
abbrev rmX8_customs_T : Room := { frames := 8, cells := 0, slots := 0, locals := 176 }
set_option maxHeartbeats 4000000 in
set_option maxRecDepth 100000 in
theorem sgX8_customs_T_0 {B : pz_B} {g : pz_G} {wc : va_W} {Post : Option Value → va_W → Prop} (F : pz_F B cX8_customs 3 (some .int) yX8_customs.cls g rmX8_customs_T) (Rt : pz_Rt B g wc Post rmX8_customs_T) (x : Int32) (h0 : Nat) (zt : Nat) (zl : Nat) (zc : Nat) (zm : Nat) (zb : Nat) (zs : Nat) (bn : Int32) (hk : Int32) (ztb : Nat) (ts : Int32) (byt : Nat → Int32) (zlr : Nat) (zli : Nat) (zld : Nat) (zlt : Nat) (ff : Int32) (fp : Int32) (en : Int32) (tk : Int32) (sa : Int32) (bh : Int32) (nu : Int32) (inf : Nat → Int32) (dr : Nat → Int32) (to : Nat → Int32) (z : Option Nat) (e : Nat) (t : Nat)  (vc : ((x < 0 → Post (some (.int (-2))) [(h0, .inr (7, [.ref zt, .ref zl, .ref zc, .ref zm, .ref zb, .ref zs, .int bn, .int hk])), (zt, .inr (6, [.ref ztb, .int ts])), (ztb, .inl (g.2.1 0, 400, .inl byt)), (zl, .inr (2, [.ref zlr, .ref zli, .ref zld, .ref zlt, .int ff, .int fp])), (zlr, .inr (4, [va_rf z, .int en, .int tk, .int sa, .int bh, .int nu])), (zli, .inl (g.2.1 1, 12, .inl inf)), (zld, .inl (g.2.1 1, 12, .inl dr)), (zlt, .inl (g.2.1 3, 12, .inl to))]) ∧ (¬ x < 0 → ((x ≤ ts → (e ≤ 400 ∧ x = nI e) ∧ ∀ r_13 : Int32, ∀ ff2_4 : Int32, ∀ fp2_5 : Int32, ∀ tk2_6 : Int32, ∀ sa2_7 : Int32, ∀ bh2_8 : Int32, ∀ nu2_9 : Int32, ∀ dr2_10 : Nat → Int32, ∀ to2_11 : Nat → Int32, ∀ inf2_12 : Nat → Int32, ∀ _ : (∃ d0 t0 : Nat → Int32, (∀ a, a < 12 → d0 a = 0) ∧ (∀ a, a < 12 → t0 a = 0) ∧ (((pl_read (pu_cs byt e) e (e + 1) 0 0 d0 t0).1 = 0 ∧ r_13 = nI (pl_read (pu_cs byt e) e (e + 1) 0 0 d0 t0).2.2.1 ∧ ff2_4 = 0 ∧ fp2_5 = -1 ∧ ∀ a, a < 12 → inf2_12 a = (pl_read (pu_cs byt e) e (e + 1) 0 0 d0 t0).2.2.2 a) ∨ (¬ (pl_read (pu_cs byt e) e (e + 1) 0 0 d0 t0).1 = 0 ∧ r_13 = -1 ∧ ff2_4 = (pl_read (pu_cs byt e) e (e + 1) 0 0 d0 t0).1 ∧ fp2_5 = nI (pl_read (pu_cs byt e) e (e + 1) 0 0 d0 t0).2.1 ∧ inf2_12 = inf))), Post (some (.int r_13)) [(h0, .inr (7, [.ref zt, .ref zl, .ref zc, .ref zm, .ref zb, .ref zs, .int bn, .int hk])), (zt, .inr (6, [.ref ztb, .int 0])), (ztb, .inl (g.2.1 0, 400, .inl byt)), (zl, .inr (2, [.ref zlr, .ref zli, .ref zld, .ref zlt, .int ff2_4, .int fp2_5])), (zlr, .inr (4, [.ref zt, .int (nI e), .int tk2_6, .int sa2_7, .int bh2_8, .int nu2_9])), (zli, .inl (g.2.1 1, 12, .inl inf2_12)), (zld, .inl (g.2.1 1, 12, .inl dr2_10)), (zlt, .inl (g.2.1 3, 12, .inl to2_11))]) ∧ (¬ x ≤ ts → Post (some (.int (-2))) [(h0, .inr (7, [.ref zt, .ref zl, .ref zc, .ref zm, .ref zb, .ref zs, .int bn, .int hk])), (zt, .inr (6, [.ref ztb, .int ts])), (ztb, .inl (g.2.1 0, 400, .inl byt)), (zl, .inr (2, [.ref zlr, .ref zli, .ref zld, .ref zlt, .int ff, .int fp])), (zlr, .inr (4, [va_rf z, .int en, .int tk, .int sa, .int bh, .int nu])), (zli, .inl (g.2.1 1, 12, .inl inf)), (zld, .inl (g.2.1 1, 12, .inl dr)), (zlt, .inl (g.2.1 3, 12, .inl to))]))))) : pz_At B 0 0 0 [(0, .ref h0), (1, .int x)] [] [(h0, .inr (7, [.ref zt, .ref zl, .ref zc, .ref zm, .ref zb, .ref zs, .int bn, .int hk])), (zt, .inr (6, [.ref ztb, .int ts])), (ztb, .inl (g.2.1 0, 400, .inl byt)), (zl, .inr (2, [.ref zlr, .ref zli, .ref zld, .ref zlt, .int ff, .int fp])), (zlr, .inr (4, [va_rf z, .int en, .int tk, .int sa, .int bh, .int nu])), (zli, .inl (g.2.1 1, 12, .inl inf)), (zld, .inl (g.2.1 1, 12, .inl dr)), (zlt, .inl (g.2.1 3, 12, .inl to))] := by
  refine pz_iload_n 1 F rfl dX8_customs_0 rfl ?_
  refine pz_if_lt (tgt := 15) F dX8_customs_1 (by decide) (fun q_1 => ?_) (fun q_1 => ?_)
  · replace vc := vc.1 q_1
    refine pz_bipush (v := (-2)) F dX8_customs_15 rfl ?_
    exact pz_ireturn (w1 := [(h0, .inr (7, [.ref zt, .ref zl, .ref zc, .ref zm, .ref zb, .ref zs, .int bn, .int hk])), (zt, .inr (6, [.ref ztb, .int ts])), (ztb, .inl (g.2.1 0, 400, .inl byt)), (zl, .inr (2, [.ref zlr, .ref zli, .ref zld, .ref zlt, .int ff, .int fp])), (zlr, .inr (4, [va_rf z, .int en, .int tk, .int sa, .int bh, .int nu])), (zli, .inl (g.2.1 1, 12, .inl inf)), (zld, .inl (g.2.1 1, 12, .inl dr)), (zlt, .inl (g.2.1 3, 12, .inl to))]) F Rt (by decide) (by decide) dX8_customs_17 [0, 1, 2, 3, 4, 5, 6, 7] rfl rfl rfl vc
  · replace vc := vc.2 q_1
    refine pz_iload_n 1 F rfl dX8_customs_4 rfl ?_
    refine pz_aload_n 0 F rfl dX8_customs_5 rfl ?_
    refine pz_get (ci := 7) (C := RX8) (T := TX8) (N := 8) (v := .ref zt) 0 F rfl rfl pz_inX8 0 (by decide) pw_210 rfl dX8_customs_6 ?_
    refine pz_get (ci := 6) (C := RX7) (T := TX7) (N := 2) (v := .int ts) 1 F rfl rfl pz_inX7 1 (by decide) pw_41 rfl dX8_customs_9 ?_
    refine pz_icmp_le (tgt := 18) F dX8_customs_12 (by decide) (fun q_2 => ?_) (fun q_2 => ?_)
    · replace vc := vc.1 q_2
      refine pz_aload_n 0 F rfl dX8_customs_18 rfl ?_
      refine pz_get (ci := 7) (C := RX8) (T := TX8) (N := 8) (v := .ref zl) 0 F rfl rfl pz_inX8 1 (by decide) pw_211 rfl dX8_customs_19 ?_
      refine pz_aload_n 0 F rfl dX8_customs_22 rfl ?_
      refine pz_get (ci := 7) (C := RX8) (T := TX8) (N := 8) (v := .ref zt) 0 F rfl rfl pz_inX8 0 (by decide) pw_210 rfl dX8_customs_23 ?_
      refine pz_iload_n 1 F rfl dX8_customs_26 rfl ?_
      obtain ⟨h_3, vc⟩ := vc
      refine pz_callV (nA := 2) (ci := 2) (C := RX2) (T := TX2) (N := 6) (As := [.ref zt, .int x]) (rest := []) (wr := [(h0, .inr (7, [.ref zt, .ref zl, .ref zc, .ref zm, .ref zb, .ref zs, .int bn, .int hk]))]) F (ctX2_read _ g zl zlr zli zld zlt ff fp zt en tk sa bh nu ztb ts byt dr to inf x z e h_3) 3 rfl rfl pw_251 pw_252 pw_253 pw_3 pw_254 (by decide +kernel) (by decide) (by decide) rfl rfl (Nat.le_of_ble_eq_true rfl) [3, 4, 1, 2, 6, 7, 5] [0] rfl rfl rfl rfl (by decide) dX8_customs_27 (fun r0 w0 hp0 => ?_)
      obtain ⟨r_13, ⟨ff2_4, fp2_5, tk2_6, sa2_7, bh2_8, nu2_9, dr2_10, to2_11, inf2_12⟩, rfl, rfl, hq_14⟩ := hp0
      replace vc := vc r_13 ff2_4 fp2_5 tk2_6 sa2_7 bh2_8 nu2_9 dr2_10 to2_11 inf2_12 hq_14
      refine pz_eq (st' := [.int r_13]) (ws' := [(h0, .inr (7, [.ref zt, .ref zl, .ref zc, .ref zm, .ref zb, .ref zs, .int bn, .int hk])), (zl, .inr (2, [.ref zlr, .ref zli, .ref zld, .ref zlt, .int ff2_4, .int fp2_5])), (zlr, .inr (4, [.ref zt, .int (nI e), .int tk2_6, .int sa2_7, .int bh2_8, .int nu2_9])), (zt, .inr (6, [.ref ztb, .int ts])), (ztb, .inl (g.2.1 0, 400, .inl byt)), (zld, .inl (g.2.1 1, 12, .inl dr2_10)), (zlt, .inl (g.2.1 3, 12, .inl to2_11)), (zli, .inl (g.2.1 1, 12, .inl inf2_12))]) rfl rfl ?_
      refine pz_istore_n (lv' := [(2, .int r_13), (0, .ref h0), (1, .int x)]) F dX8_customs_30 rfl (by decide) rfl ?_
      refine pz_aload_n 1 F rfl dX8_customs_31 rfl ?_
      refine pz_get (ci := 7) (C := RX8) (T := TX8) (N := 8) (v := .ref zt) 0 F rfl rfl pz_inX8 0 (by decide) pw_210 rfl dX8_customs_32 ?_
      refine pz_iconst (v := 0) F dX8_customs_35 rfl ?_
      refine pz_put (ws' := [(h0, .inr (7, [.ref zt, .ref zl, .ref zc, .ref zm, .ref zb, .ref zs, .int bn, .int hk])), (zl, .inr (2, [.ref zlr, .ref zli, .ref zld, .ref zlt, .int ff2_4, .int fp2_5])), (zlr, .inr (4, [.ref zt, .int (nI e), .int tk2_6, .int sa2_7, .int bh2_8, .int nu2_9])), (zt, .inr (6, [.ref ztb, .int 0])), (ztb, .inl (g.2.1 0, 400, .inl byt)), (zld, .inl (g.2.1 1, 12, .inl dr2_10)), (zlt, .inl (g.2.1 3, 12, .inl to2_11)), (zli, .inl (g.2.1 1, 12, .inl inf2_12))]) (ci := 6) (C := RX7) (T := TX7) (N := 2) (v := .int 0) (ty := .int) 3 F rfl rfl pz_inX7 1 (by decide) pw_41 tyX7_ok nmX7 rfl rfl rfl rfl (Nat.le_of_ble_eq_true rfl) dX8_customs_36 rfl ?_
      refine pz_iload_n 0 F rfl dX8_customs_39 rfl ?_
      exact pz_ireturn (w1 := [(h0, .inr (7, [.ref zt, .ref zl, .ref zc, .ref zm, .ref zb, .ref zs, .int bn, .int hk])), (zt, .inr (6, [.ref ztb, .int 0])), (ztb, .inl (g.2.1 0, 400, .inl byt)), (zl, .inr (2, [.ref zlr, .ref zli, .ref zld, .ref zlt, .int ff2_4, .int fp2_5])), (zlr, .inr (4, [.ref zt, .int (nI e), .int tk2_6, .int sa2_7, .int bh2_8, .int nu2_9])), (zli, .inl (g.2.1 1, 12, .inl inf2_12)), (zld, .inl (g.2.1 1, 12, .inl dr2_10)), (zlt, .inl (g.2.1 3, 12, .inl to2_11))]) F Rt (by decide) (by decide) dX8_customs_40 [0, 3, 4, 1, 2, 7, 5, 6] rfl rfl rfl vc
    · replace vc := vc.2 q_2
      refine pz_bipush (v := (-2)) F dX8_customs_15 rfl ?_
      exact pz_ireturn (w1 := [(h0, .inr (7, [.ref zt, .ref zl, .ref zc, .ref zm, .ref zb, .ref zs, .int bn, .int hk])), (zt, .inr (6, [.ref ztb, .int ts])), (ztb, .inl (g.2.1 0, 400, .inl byt)), (zl, .inr (2, [.ref zlr, .ref zli, .ref zld, .ref zlt, .int ff, .int fp])), (zlr, .inr (4, [va_rf z, .int en, .int tk, .int sa, .int bh, .int nu])), (zli, .inl (g.2.1 1, 12, .inl inf)), (zld, .inl (g.2.1 1, 12, .inl dr)), (zlt, .inl (g.2.1 3, 12, .inl to))]) F Rt (by decide) (by decide) dX8_customs_17 [0, 1, 2, 3, 4, 5, 6, 7] rfl rfl rfl vc
set_option maxHeartbeats 4000000 in
set_option maxRecDepth 100000 in
theorem ctX8_customs_T (l : Launch) (g : pz_G) (x : Int32) (h0 : Nat) (zt : Nat) (zl : Nat) (zc : Nat) (zm : Nat) (zb : Nat) (zs : Nat) (bn : Int32) (hk : Int32) (ztb : Nat) (ts : Int32) (byt : Nat → Int32) (zlr : Nat) (zli : Nat) (zld : Nat) (zlt : Nat) (ff : Int32) (fp : Int32) (en : Int32) (tk : Int32) (sa : Int32) (bh : Int32) (nu : Int32) (inf : Nat → Int32) (dr : Nat → Int32) (to : Nat → Int32) (z : Option Nat) (e : Nat) (t : Nat) (hpre : e ≤ t ∧ t ≤ 400 ∧ x = nI e ∧ ts = nI t) : pz_Ct l g yX8_customs cX8_customs 3 (some .int) rmX8_customs_T [.ref h0, .int x] [(h0, .inr (7, [.ref zt, .ref zl, .ref zc, .ref zm, .ref zb, .ref zs, .int bn, .int hk])), (zt, .inr (6, [.ref ztb, .int ts])), (ztb, .inl (g.2.1 0, 400, .inl byt)), (zl, .inr (2, [.ref zlr, .ref zli, .ref zld, .ref zlt, .int ff, .int fp])), (zlr, .inr (4, [va_rf z, .int en, .int tk, .int sa, .int bh, .int nu])), (zli, .inl (g.2.1 1, 12, .inl inf)), (zld, .inl (g.2.1 1, 12, .inl dr)), (zlt, .inl (g.2.1 3, 12, .inl to))] (pz_pi (fun (r : Int32) (u : Int32 × Int32 × Int32 × Int32 × Int32 × Int32 × (Nat → Int32) × (Nat → Int32) × (Nat → Int32)) => ∃ d0 t0 : Nat → Int32, (∀ a, a < 12 → d0 a = 0) ∧ (∀ a, a < 12 → t0 a = 0) ∧ (((pl_read (pu_cs byt e) e (e + 1) 0 0 d0 t0).1 = 0 ∧ r = nI (pl_read (pu_cs byt e) e (e + 1) 0 0 d0 t0).2.2.1 ∧ u.1 = 0 ∧ u.2.1 = -1 ∧ ∀ a, a < 12 → u.2.2.2.2.2.2.2.2 a = (pl_read (pu_cs byt e) e (e + 1) 0 0 d0 t0).2.2.2 a) ∨ (¬ (pl_read (pu_cs byt e) e (e + 1) 0 0 d0 t0).1 = 0 ∧ r = -1 ∧ u.1 = (pl_read (pu_cs byt e) e (e + 1) 0 0 d0 t0).1 ∧ u.2.1 = nI (pl_read (pu_cs byt e) e (e + 1) 0 0 d0 t0).2.1 ∧ u.2.2.2.2.2.2.2.2 = inf))) (fun (u : Int32 × Int32 × Int32 × Int32 × Int32 × Int32 × (Nat → Int32) × (Nat → Int32) × (Nat → Int32)) => [(h0, .inr (7, [.ref zt, .ref zl, .ref zc, .ref zm, .ref zb, .ref zs, .int bn, .int hk])), (zt, .inr (6, [.ref ztb, .int 0])), (ztb, .inl (g.2.1 0, 400, .inl byt)), (zl, .inr (2, [.ref zlr, .ref zli, .ref zld, .ref zlt, .int u.1, .int u.2.1])), (zlr, .inr (4, [.ref zt, .int x, .int u.2.2.1, .int u.2.2.2.1, .int u.2.2.2.2.1, .int u.2.2.2.2.2.1])), (zli, .inl (g.2.1 1, 12, .inl u.2.2.2.2.2.2.2.2)), (zld, .inl (g.2.1 1, 12, .inl u.2.2.2.2.2.2.1)), (zlt, .inl (g.2.1 3, 12, .inl u.2.2.2.2.2.2.2.1))])) := by
  refine pz_ofAt (by decide +kernel) (Nat.le_of_ble_eq_true rfl) (fun B F Rt hme => ?_)
  obtain ⟨h1, h2, h3, h4⟩ := hpre
  subst h3; subst h4
  refine sgX8_customs_T_0 F Rt (nI e) h0 zt zl zc zm zb zs bn hk ztb (nI t) byt zlr zli zld zlt ff fp en tk sa bh nu inf dr to z e t ?_
  refine ⟨fun q => absurd q (nI_pos (by omega)), fun q => ⟨fun q2 => ⟨⟨by omega, rfl⟩, ?_⟩, fun q2 => absurd (nI_le (by omega) (by omega)) q2⟩⟩
  intro r ff2 fp2 tk2 sa2 bh2 nu2 dr2 to2 inf2 h
  exact ⟨_, (_, _, _, _, _, _, _, _, _), rfl, rfl, h⟩
