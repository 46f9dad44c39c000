theorem bo_n {s : Int32} (h1 : ¬ s < 1) (h2 : ¬ (8 : Int32) < s) : ∃ v, v ≤ 8 ∧ s = nI v := by
  have h3 : ¬ s < 0 := fun h => h1 (Int32.lt_of_lt_of_le h (by decide))
  have h4 : s < nI 9 := Int32.lt_of_le_of_lt (Int32.not_lt.mp h2) (by decide)
  obtain ⟨v, hv, e⟩ := hs_nI (M := 9) (by decide) ⟨h3, h4⟩
  exact ⟨v, by omega, e⟩
abbrev rmX8_boulder_R : Room := { frames := 2, cells := 0, slots := 0, locals := 44 }
set_option maxHeartbeats 4000000 in
set_option maxRecDepth 100000 in
theorem sgX8_boulder_R_0 {B : pz_B} {g : pz_G} {wc : va_W} {Post : Option Value → va_W → Prop} (F : pz_F B cX8_boulder 4 (some .int) yX8_boulder.cls g rmX8_boulder_R) (Rt : pz_Rt B g wc Post rmX8_boulder_R) (ow : Int32) (sv : Int32) (iv : Int32) (h0 : Nat) (zt : Nat) (zl : Nat) (zc : Nat) (zm : Nat) (zb : Nat) (zs : Nat) (hk : Int32) (bq : Nat → Option Nat) (zmp : Nat) (zmd : Nat) (zcw : Nat) (gc : Int32) (kc : Int32) (zcp : Nat) (zcg : Nat) (zco : Nat) (zcd : Nat) (ao : Int64) (zcf : Nat) (zct : Nat) (zcn : Nat) (up : Int64) (lo : Int64) (M : Nat) (NB : Nat)  (vc : (((10 : Int32) ≤ (nI NB) → Post (some (.int (-1))) [(h0, .inr (7, [.ref zt, .ref zl, .ref zc, .ref zm, .ref zb, .ref zs, .int (nI NB), .int hk])), (zb, .inl (g.2.1 4, 10, .inr (.inr (.inr (.inr bq))))), (zm, .inr (3, [.ref zmp, .ref zmd, .int (nI M)])), (zc, .inr (1, [.ref zcw, .int gc, .int kc, .ref zcp, .ref zcg, .ref zco, .ref zcd, .long ao, .ref zcf, .ref zct, .ref zcn, .long up, .long lo]))]) ∧ (¬ (10 : Int32) ≤ (nI NB) → ∀ r_2 : Int32, ∀ _ : (r_2 = if ow < 0 then 0 else if (nI M) ≤ ow then 0 else 1), ((¬ r_2 = 0 → ((sv < 1 → Post (some (.int (-1))) [(h0, .inr (7, [.ref zt, .ref zl, .ref zc, .ref zm, .ref zb, .ref zs, .int (nI NB), .int hk])), (zb, .inl (g.2.1 4, 10, .inr (.inr (.inr (.inr bq))))), (zm, .inr (3, [.ref zmp, .ref zmd, .int (nI M)])), (zc, .inr (1, [.ref zcw, .int gc, .int kc, .ref zcp, .ref zcg, .ref zco, .ref zcd, .long ao, .ref zcf, .ref zct, .ref zcn, .long up, .long lo]))]) ∧ (¬ sv < 1 → (((8 : Int32) < sv → Post (some (.int (-1))) [(h0, .inr (7, [.ref zt, .ref zl, .ref zc, .ref zm, .ref zb, .ref zs, .int (nI NB), .int hk])), (zb, .inl (g.2.1 4, 10, .inr (.inr (.inr (.inr bq))))), (zm, .inr (3, [.ref zmp, .ref zmd, .int (nI M)])), (zc, .inr (1, [.ref zcw, .int gc, .int kc, .ref zcp, .ref zcg, .ref zco, .ref zcd, .long ao, .ref zcf, .ref zct, .ref zcn, .long up, .long lo]))]) ∧ (¬ (8 : Int32) < sv → ∃ n_7 : Nat, (n_7 ≤ 8 ∧ sv = nI n_7) ∧ ∀ r_9 : Int32, ∀ _ : ((r_9 = 1 ∧ ∀ a, a < n_7 → pu_gi iv (nI a) < gc) ∨ (r_9 = 0 ∧ ∃ a, a < n_7 ∧ ¬ pu_gi iv (nI a) < gc)), ((¬ r_9 = 0 → False) ∧ (r_9 = 0 → Post (some (.int (-1))) [(h0, .inr (7, [.ref zt, .ref zl, .ref zc, .ref zm, .ref zb, .ref zs, .int (nI NB), .int hk])), (zb, .inl (g.2.1 4, 10, .inr (.inr (.inr (.inr bq))))), (zm, .inr (3, [.ref zmp, .ref zmd, .int (nI M)])), (zc, .inr (1, [.ref zcw, .int gc, .int kc, .ref zcp, .ref zcg, .ref zco, .ref zcd, .long ao, .ref zcf, .ref zct, .ref zcn, .long up, .long lo]))]))))))) ∧ (r_2 = 0 → Post (some (.int (-1))) [(h0, .inr (7, [.ref zt, .ref zl, .ref zc, .ref zm, .ref zb, .ref zs, .int (nI NB), .int hk])), (zb, .inl (g.2.1 4, 10, .inr (.inr (.inr (.inr bq))))), (zm, .inr (3, [.ref zmp, .ref zmd, .int (nI M)])), (zc, .inr (1, [.ref zcw, .int gc, .int kc, .ref zcp, .ref zcg, .ref zco, .ref zcd, .long ao, .ref zcf, .ref zct, .ref zcn, .long up, .long lo]))]))))) : pz_At B 0 0 0 [(0, .ref h0), (1, .int ow), (2, .int sv), (3, .int iv)] [] [(h0, .inr (7, [.ref zt, .ref zl, .ref zc, .ref zm, .ref zb, .ref zs, .int (nI NB), .int hk])), (zb, .inl (g.2.1 4, 10, .inr (.inr (.inr (.inr bq))))), (zm, .inr (3, [.ref zmp, .ref zmd, .int (nI M)])), (zc, .inr (1, [.ref zcw, .int gc, .int kc, .ref zcp, .ref zcg, .ref zco, .ref zcd, .long ao, .ref zcf, .ref zct, .ref zcn, .long up, .long lo]))] := by
  refine pz_aload_n 0 F rfl dX8_boulder_0 rfl ?_
  refine pz_get (ci := 7) (C := RX8) (T := TX8) (N := 8) (v := .int (nI NB)) 0 F rfl rfl pz_inX8 6 (by decide) pw_216 rfl dX8_boulder_1 ?_
  refine pz_bipush (v := 10) F dX8_boulder_4 rfl ?_
  refine pz_icmp_ge (tgt := 20) F dX8_boulder_6 (by decide) (fun q_1 => ?_) (fun q_1 => ?_)
  · replace vc := vc.1 q_1
    refine pz_iconst (v := (-1)) F dX8_boulder_20 rfl ?_
    exact pz_ireturn (w1 := [(h0, .inr (7, [.ref zt, .ref zl, .ref zc, .ref zm, .ref zb, .ref zs, .int (nI NB), .int hk])), (zb, .inl (g.2.1 4, 10, .inr (.inr (.inr (.inr bq))))), (zm, .inr (3, [.ref zmp, .ref zmd, .int (nI M)])), (zc, .inr (1, [.ref zcw, .int gc, .int kc, .ref zcp, .ref zcg, .ref zco, .ref zcd, .long ao, .ref zcf, .ref zct, .ref zcn, .long up, .long lo]))]) F Rt (by decide) (by decide) dX8_boulder_21 [0, 1, 2, 3] rfl rfl rfl vc
  · replace vc := vc.2 q_1
    refine pz_aload_n 0 F rfl dX8_boulder_9 rfl ?_
    refine pz_get (ci := 7) (C := RX8) (T := TX8) (N := 8) (v := .ref zm) 0 F rfl rfl pz_inX8 3 (by decide) pw_213 rfl dX8_boulder_10 ?_
    refine pz_iload_n 1 F rfl dX8_boulder_13 rfl ?_
    refine pz_callV (nA := 1) (ci := 3) (C := RX4) (T := TX4) (N := 3) (As := [.int ow]) (rest := []) (wr := [(h0, .inr (7, [.ref zt, .ref zl, .ref zc, .ref zm, .ref zb, .ref zs, .int (nI NB), .int hk])), (zb, .inl (g.2.1 4, 10, .inr (.inr (.inr (.inr bq))))), (zc, .inr (1, [.ref zcw, .int gc, .int kc, .ref zcp, .ref zcg, .ref zco, .ref zcd, .long ao, .ref zcf, .ref zct, .ref zcn, .long up, .long lo]))]) F (ctX4_has _ g zm ow zmp zmd (nI M)) 2 rfl rfl pw_425 pw_426 pw_427 pw_6 pw_428 (by decide +kernel) (by decide) (by decide) rfl rfl (Nat.le_of_ble_eq_true rfl) [2] [0, 1, 3] rfl rfl rfl rfl (by decide) dX8_boulder_14 (fun r0 w0 hp0 => ?_)
    obtain ⟨r_2, _, rfl, rfl, hq_3⟩ := hp0
    replace vc := vc r_2  hq_3
    refine pz_eq (st' := [.int r_2]) (ws' := [(h0, .inr (7, [.ref zt, .ref zl, .ref zc, .ref zm, .ref zb, .ref zs, .int (nI NB), .int hk])), (zb, .inl (g.2.1 4, 10, .inr (.inr (.inr (.inr bq))))), (zc, .inr (1, [.ref zcw, .int gc, .int kc, .ref zcp, .ref zcg, .ref zco, .ref zcd, .long ao, .ref zcf, .ref zct, .ref zcn, .long up, .long lo])), (zm, .inr (3, [.ref zmp, .ref zmd, .int (nI M)]))]) rfl rfl ?_
    refine pz_if_ne (tgt := 22) F dX8_boulder_17 (by decide) (fun q_4 => ?_) (fun q_4 => ?_)
    · replace vc := vc.1 q_4
      refine pz_iload_n 2 F rfl dX8_boulder_22 rfl ?_
      refine pz_iconst (v := 1) F dX8_boulder_23 rfl ?_
      refine pz_icmp_lt (tgt := 45) F dX8_boulder_24 (by decide) (fun q_5 => ?_) (fun q_5 => ?_)
      · replace vc := vc.1 q_5
        refine pz_iconst (v := (-1)) F dX8_boulder_45 rfl ?_
        exact pz_ireturn (w1 := [(h0, .inr (7, [.ref zt, .ref zl, .ref zc, .ref zm, .ref zb, .ref zs, .int (nI NB), .int hk])), (zb, .inl (g.2.1 4, 10, .inr (.inr (.inr (.inr bq))))), (zm, .inr (3, [.ref zmp, .ref zmd, .int (nI M)])), (zc, .inr (1, [.ref zcw, .int gc, .int kc, .ref zcp, .ref zcg, .ref zco, .ref zcd, .long ao, .ref zcf, .ref zct, .ref zcn, .long up, .long lo]))]) F Rt (by decide) (by decide) dX8_boulder_46 [0, 1, 3, 2] rfl rfl rfl vc
      · replace vc := vc.2 q_5
        refine pz_iload_n 2 F rfl dX8_boulder_27 rfl ?_
        refine pz_bipush (v := 8) F dX8_boulder_28 rfl ?_
        refine pz_icmp_gt (tgt := 45) F dX8_boulder_30 (by decide) (fun q_6 => ?_) (fun q_6 => ?_)
        · replace vc := vc.1 q_6
          refine pz_iconst (v := (-1)) F dX8_boulder_45 rfl ?_
          exact pz_ireturn (w1 := [(h0, .inr (7, [.ref zt, .ref zl, .ref zc, .ref zm, .ref zb, .ref zs, .int (nI NB), .int hk])), (zb, .inl (g.2.1 4, 10, .inr (.inr (.inr (.inr bq))))), (zm, .inr (3, [.ref zmp, .ref zmd, .int (nI M)])), (zc, .inr (1, [.ref zcw, .int gc, .int kc, .ref zcp, .ref zcg, .ref zco, .ref zcd, .long ao, .ref zcf, .ref zct, .ref zcn, .long up, .long lo]))]) F Rt (by decide) (by decide) dX8_boulder_46 [0, 1, 3, 2] rfl rfl rfl vc
        · replace vc := vc.2 q_6
          refine pz_aload_n 0 F rfl dX8_boulder_33 rfl ?_
          refine pz_get (ci := 7) (C := RX8) (T := TX8) (N := 8) (v := .ref zc) 0 F rfl rfl pz_inX8 2 (by decide) pw_212 rfl dX8_boulder_34 ?_
          refine pz_iload_n 2 F rfl dX8_boulder_37 rfl ?_
          refine pz_iload_n 3 F rfl dX8_boulder_38 rfl ?_
          obtain ⟨n_7, vc⟩ := vc
          obtain ⟨h_8, vc⟩ := vc
          refine pz_callV (nA := 2) (ci := 1) (C := RX1) (T := TX1) (N := 13) (As := [.int sv, .int iv]) (rest := []) (wr := [(h0, .inr (7, [.ref zt, .ref zl, .ref zc, .ref zm, .ref zb, .ref zs, .int (nI NB), .int hk])), (zb, .inl (g.2.1 4, 10, .inr (.inr (.inr (.inr bq))))), (zm, .inr (3, [.ref zmp, .ref zmd, .int (nI M)]))]) F (ctX1_knowsAll _ g sv iv zc zcw gc kc zcp zcg zco zcd ao zcf zct zcn up lo n_7 h_8) 2 rfl rfl pw_429 pw_430 pw_431 pw_5 pw_432 (by decide +kernel) (by decide) (by decide) rfl rfl (Nat.le_of_ble_eq_true rfl) [2] [0, 1, 3] rfl rfl rfl rfl (by decide) dX8_boulder_39 (fun r0 w0 hp0 => ?_)
          obtain ⟨r_9, _, rfl, rfl, hq_10⟩ := hp0
          replace vc := vc r_9  hq_10
          refine pz_eq (st' := [.int r_9]) (ws' := [(h0, .inr (7, [.ref zt, .ref zl, .ref zc, .ref zm, .ref zb, .ref zs, .int (nI NB), .int hk])), (zb, .inl (g.2.1 4, 10, .inr (.inr (.inr (.inr bq))))), (zm, .inr (3, [.ref zmp, .ref zmd, .int (nI M)])), (zc, .inr (1, [.ref zcw, .int gc, .int kc, .ref zcp, .ref zcg, .ref zco, .ref zcd, .long ao, .ref zcf, .ref zct, .ref zcn, .long up, .long lo]))]) rfl rfl ?_
          refine pz_if_ne (tgt := 47) F dX8_boulder_42 (by decide) (fun q_11 => ?_) (fun q_11 => ?_)
          · replace vc := vc.1 q_11
            exact vc.elim
          · replace vc := vc.2 q_11
            refine pz_iconst (v := (-1)) F dX8_boulder_45 rfl ?_
            exact pz_ireturn (w1 := [(h0, .inr (7, [.ref zt, .ref zl, .ref zc, .ref zm, .ref zb, .ref zs, .int (nI NB), .int hk])), (zb, .inl (g.2.1 4, 10, .inr (.inr (.inr (.inr bq))))), (zm, .inr (3, [.ref zmp, .ref zmd, .int (nI M)])), (zc, .inr (1, [.ref zcw, .int gc, .int kc, .ref zcp, .ref zcg, .ref zco, .ref zcd, .long ao, .ref zcf, .ref zct, .ref zcn, .long up, .long lo]))]) F Rt (by decide) (by decide) dX8_boulder_46 [0, 1, 2, 3] rfl rfl rfl vc
    · replace vc := vc.2 q_4
      refine pz_iconst (v := (-1)) F dX8_boulder_20 rfl ?_
      exact pz_ireturn (w1 := [(h0, .inr (7, [.ref zt, .ref zl, .ref zc, .ref zm, .ref zb, .ref zs, .int (nI NB), .int hk])), (zb, .inl (g.2.1 4, 10, .inr (.inr (.inr (.inr bq))))), (zm, .inr (3, [.ref zmp, .ref zmd, .int (nI M)])), (zc, .inr (1, [.ref zcw, .int gc, .int kc, .ref zcp, .ref zcg, .ref zco, .ref zcd, .long ao, .ref zcf, .ref zct, .ref zcn, .long up, .long lo]))]) F Rt (by decide) (by decide) dX8_boulder_21 [0, 1, 3, 2] rfl rfl rfl vc
set_option maxHeartbeats 4000000 in
set_option maxRecDepth 100000 in
theorem ctX8_boulder_R (l : Launch) (g : pz_G) (ow : Int32) (sv : Int32) (iv : Int32) (h0 : Nat) (zt : Nat) (zl : Nat) (zc : Nat) (zm : Nat) (zb : Nat) (zs : Nat) (hk : Int32) (bq : Nat → Option Nat) (zmp : Nat) (zmd : Nat) (zcw : Nat) (gc : Int32) (kc : Int32) (zcp : Nat) (zcg : Nat) (zco : Nat) (zcd : Nat) (ao : Int64) (zcf : Nat) (zct : Nat) (zcn : Nat) (up : Int64) (lo : Int64) (M : Nat) (NB : Nat) (hpre : NB ≤ 10 ∧ ¬ (NB < 10 ∧ hs_in ow M ∧ ¬ sv < 1 ∧ ¬ (8 : Int32) < sv ∧ ∀ a, a < sv.toNatClampNeg → pu_gi iv (nI a) < gc)) : pz_Ct l g yX8_boulder cX8_boulder 4 (some .int) rmX8_boulder_R [.ref h0, .int ow, .int sv, .int iv] [(h0, .inr (7, [.ref zt, .ref zl, .ref zc, .ref zm, .ref zb, .ref zs, .int (nI NB), .int hk])), (zb, .inl (g.2.1 4, 10, .inr (.inr (.inr (.inr bq))))), (zm, .inr (3, [.ref zmp, .ref zmd, .int (nI M)])), (zc, .inr (1, [.ref zcw, .int gc, .int kc, .ref zcp, .ref zcg, .ref zco, .ref zcd, .long ao, .ref zcf, .ref zct, .ref zcn, .long up, .long lo]))] (pz_pi (fun (r : Int32) (u : Unit) => r = -1) (fun (u : Unit) => [(h0, .inr (7, [.ref zt, .ref zl, .ref zc, .ref zm, .ref zb, .ref zs, .int (nI NB), .int hk])), (zb, .inl (g.2.1 4, 10, .inr (.inr (.inr (.inr bq))))), (zm, .inr (3, [.ref zmp, .ref zmd, .int (nI M)])), (zc, .inr (1, [.ref zcw, .int gc, .int kc, .ref zcp, .ref zcg, .ref zco, .ref zcd, .long ao, .ref zcf, .ref zct, .ref zcn, .long up, .long lo]))])) := by
  refine pz_ofAt (by decide +kernel) (Nat.le_of_ble_eq_true rfl) (fun B F Rt hme => ?_)
  obtain ⟨hN, hno⟩ := hpre
  refine sgX8_boulder_R_0 F Rt ow sv iv h0 zt zl zc zm zb zs hk bq zmp zmd zcw gc kc zcp zcg zco zcd ao zcf zct zcn up lo M NB ?_
  clear F Rt hme
  refine ⟨fun q => ⟨_, (), rfl, rfl, rfl⟩, fun q r1 h1 => ?_⟩
  rcases hs_of h1 with ⟨i1, rfl⟩ | ⟨i1, rfl⟩
  · refine ⟨fun _ => ⟨fun q2 => ⟨_, (), rfl, rfl, rfl⟩, fun q2 => ⟨fun q3 => ⟨_, (), rfl, rfl, rfl⟩, fun q3 => ?_⟩⟩, fun q => absurd q (by decide)⟩
    obtain ⟨v, hv, ev⟩ := bo_n q2 q3
    refine ⟨v, ⟨hv, ev⟩, fun r2 h2 => ?_⟩
    rcases h2 with ⟨rfl, h2⟩ | ⟨rfl, h2⟩
    · exact absurd ⟨pu_lt (n := 10) (by omega) (by omega) q, i1, q2, q3, fun a ha => h2 a (by rw [ev, nI_clamp (by omega)] at ha; exact ha)⟩ hno
    · exact ⟨fun q => absurd rfl q, fun _ => ⟨_, (), rfl, rfl, rfl⟩⟩
  · exact ⟨fun q => absurd rfl q, fun _ => ⟨_, (), rfl, rfl, rfl⟩⟩
abbrev rmX8_boulder_T : Room := { frames := 2, cells := 4, slots := 32, locals := 44 }
set_option maxHeartbeats 4000000 in
set_option maxRecDepth 100000 in
theorem sgX8_boulder_T_0 {B : pz_B} {g : pz_G} {wc : va_W} {Post : Option Value → va_W → Prop} (F : pz_F B cX8_boulder 4 (some .int) yX8_boulder.cls g rmX8_boulder_T) (Rt : pz_Rt B g wc Post rmX8_boulder_T) (ow : Int32) (sv : Int32) (iv : Int32) (h0 : Nat) (zt : Nat) (zl : Nat) (zc : Nat) (zm : Nat) (zb : Nat) (zs : Nat) (hk : Int32) (bq : Nat → Option Nat) (zmp : Nat) (zmd : Nat) (zcw : Nat) (gc : Int32) (kc : Int32) (zcp : Nat) (zcg : Nat) (zco : Nat) (zcd : Nat) (ao : Int64) (zcf : Nat) (zct : Nat) (zcn : Nat) (up : Int64) (lo : Int64) (M : Nat) (NB : Nat)  (vc : (((10 : Int32) ≤ (nI NB) → Post (some (.int (-1))) [(h0, .inr (7, [.ref zt, .ref zl, .ref zc, .ref zm, .ref zb, .ref zs, .int (nI NB), .int hk])), (zb, .inl (g.2.1 4, 10, .inr (.inr (.inr (.inr bq))))), (zm, .inr (3, [.ref zmp, .ref zmd, .int (nI M)])), (zc, .inr (1, [.ref zcw, .int gc, .int kc, .ref zcp, .ref zcg, .ref zco, .ref zcd, .long ao, .ref zcf, .ref zct, .ref zcn, .long up, .long lo]))]) ∧ (¬ (10 : Int32) ≤ (nI NB) → ∀ r_2 : Int32, ∀ _ : (r_2 = if ow < 0 then 0 else if (nI M) ≤ ow then 0 else 1), ((¬ r_2 = 0 → ((sv < 1 → Post (some (.int (-1))) [(h0, .inr (7, [.ref zt, .ref zl, .ref zc, .ref zm, .ref zb, .ref zs, .int (nI NB), .int hk])), (zb, .inl (g.2.1 4, 10, .inr (.inr (.inr (.inr bq))))), (zm, .inr (3, [.ref zmp, .ref zmd, .int (nI M)])), (zc, .inr (1, [.ref zcw, .int gc, .int kc, .ref zcp, .ref zcg, .ref zco, .ref zcd, .long ao, .ref zcf, .ref zct, .ref zcn, .long up, .long lo]))]) ∧ (¬ sv < 1 → (((8 : Int32) < sv → Post (some (.int (-1))) [(h0, .inr (7, [.ref zt, .ref zl, .ref zc, .ref zm, .ref zb, .ref zs, .int (nI NB), .int hk])), (zb, .inl (g.2.1 4, 10, .inr (.inr (.inr (.inr bq))))), (zm, .inr (3, [.ref zmp, .ref zmd, .int (nI M)])), (zc, .inr (1, [.ref zcw, .int gc, .int kc, .ref zcp, .ref zcg, .ref zco, .ref zcd, .long ao, .ref zcf, .ref zct, .ref zcn, .long up, .long lo]))]) ∧ (¬ (8 : Int32) < sv → ∃ n_7 : Nat, (n_7 ≤ 8 ∧ sv = nI n_7) ∧ ∀ r_9 : Int32, ∀ _ : ((r_9 = 1 ∧ ∀ a, a < n_7 → pu_gi iv (nI a) < gc) ∨ (r_9 = 0 ∧ ∃ a, a < n_7 ∧ ¬ pu_gi iv (nI a) < gc)), ((¬ r_9 = 0 → ∀ a_12 : Nat, ∃ o_13 : Nat, (o_13 < 8 ∧ ow = nI o_13) ∧ ∀ a1_15 : Nat, ∀ a2_16 : Nat, ∀ a3_17 : Nat, ∀ _ : (True), vp_in (nI NB) 10 ∧ ∀ f_20 : Nat → Option Nat, f_20 = va_up bq (nI NB).toNatClampNeg (some a_12) → ∀ x_21 : Int32, x_21 = ((nI NB) + 1) → ∀ x_22 : Int32, x_22 = (x_21 - 1) → Post (some (.int x_22)) [(h0, .inr (7, [.ref zt, .ref zl, .ref zc, .ref zm, .ref zb, .ref zs, .int x_21, .int hk])), (zb, .inl (g.2.1 4, 10, .inr (.inr (.inr (.inr f_20))))), (zm, .inr (3, [.ref zmp, .ref zmd, .int (nI M)])), (zc, .inr (1, [.ref zcw, .int gc, .int kc, .ref zcp, .ref zcg, .ref zco, .ref zcd, .long ao, .ref zcf, .ref zct, .ref zcn, .long up, .long lo])), (a_12, .inr (0, [.int sv, .int iv, .ref a1_15, .ref a2_16, .ref a3_17, .int 0, .int 0, .int 0])), (a1_15, .inl (g.2.1 1, 8, .inl (upd (fun _ => 0) o_13 16))), (a2_16, .inl (g.2.1 1, 8, .inl (fun _ => 0))), (a3_17, .inl (g.2.1 1, 8, .inl (fun _ => 0)))]) ∧ (r_9 = 0 → Post (some (.int (-1))) [(h0, .inr (7, [.ref zt, .ref zl, .ref zc, .ref zm, .ref zb, .ref zs, .int (nI NB), .int hk])), (zb, .inl (g.2.1 4, 10, .inr (.inr (.inr (.inr bq))))), (zm, .inr (3, [.ref zmp, .ref zmd, .int (nI M)])), (zc, .inr (1, [.ref zcw, .int gc, .int kc, .ref zcp, .ref zcg, .ref zco, .ref zcd, .long ao, .ref zcf, .ref zct, .ref zcn, .long up, .long lo]))]))))))) ∧ (r_2 = 0 → Post (some (.int (-1))) [(h0, .inr (7, [.ref zt, .ref zl, .ref zc, .ref zm, .ref zb, .ref zs, .int (nI NB), .int hk])), (zb, .inl (g.2.1 4, 10, .inr (.inr (.inr (.inr bq))))), (zm, .inr (3, [.ref zmp, .ref zmd, .int (nI M)])), (zc, .inr (1, [.ref zcw, .int gc, .int kc, .ref zcp, .ref zcg, .ref zco, .ref zcd, .long ao, .ref zcf, .ref zct, .ref zcn, .long up, .long lo]))]))))) : pz_At B 0 0 0 [(0, .ref h0), (1, .int ow), (2, .int sv), (3, .int iv)] [] [(h0, .inr (7, [.ref zt, .ref zl, .ref zc, .ref zm, .ref zb, .ref zs, .int (nI NB), .int hk])), (zb, .inl (g.2.1 4, 10, .inr (.inr (.inr (.inr bq))))), (zm, .inr (3, [.ref zmp, .ref zmd, .int (nI M)])), (zc, .inr (1, [.ref zcw, .int gc, .int kc, .ref zcp, .ref zcg, .ref zco, .ref zcd, .long ao, .ref zcf, .ref zct, .ref zcn, .long up, .long lo]))] := by
  refine pz_aload_n 0 F rfl dX8_boulder_0 rfl ?_
  refine pz_get (ci := 7) (C := RX8) (T := TX8) (N := 8) (v := .int (nI NB)) 0 F rfl rfl pz_inX8 6 (by decide) pw_216 rfl dX8_boulder_1 ?_
  refine pz_bipush (v := 10) F dX8_boulder_4 rfl ?_
  refine pz_icmp_ge (tgt := 20) F dX8_boulder_6 (by decide) (fun q_1 => ?_) (fun q_1 => ?_)
  · replace vc := vc.1 q_1
    refine pz_iconst (v := (-1)) F dX8_boulder_20 rfl ?_
    exact pz_ireturn (w1 := [(h0, .inr (7, [.ref zt, .ref zl, .ref zc, .ref zm, .ref zb, .ref zs, .int (nI NB), .int hk])), (zb, .inl (g.2.1 4, 10, .inr (.inr (.inr (.inr bq))))), (zm, .inr (3, [.ref zmp, .ref zmd, .int (nI M)])), (zc, .inr (1, [.ref zcw, .int gc, .int kc, .ref zcp, .ref zcg, .ref zco, .ref zcd, .long ao, .ref zcf, .ref zct, .ref zcn, .long up, .long lo]))]) F Rt (by decide) (by decide) dX8_boulder_21 [0, 1, 2, 3] rfl rfl rfl vc
  · replace vc := vc.2 q_1
    refine pz_aload_n 0 F rfl dX8_boulder_9 rfl ?_
    refine pz_get (ci := 7) (C := RX8) (T := TX8) (N := 8) (v := .ref zm) 0 F rfl rfl pz_inX8 3 (by decide) pw_213 rfl dX8_boulder_10 ?_
    refine pz_iload_n 1 F rfl dX8_boulder_13 rfl ?_
    refine pz_callV (nA := 1) (ci := 3) (C := RX4) (T := TX4) (N := 3) (As := [.int ow]) (rest := []) (wr := [(h0, .inr (7, [.ref zt, .ref zl, .ref zc, .ref zm, .ref zb, .ref zs, .int (nI NB), .int hk])), (zb, .inl (g.2.1 4, 10, .inr (.inr (.inr (.inr bq))))), (zc, .inr (1, [.ref zcw, .int gc, .int kc, .ref zcp, .ref zcg, .ref zco, .ref zcd, .long ao, .ref zcf, .ref zct, .ref zcn, .long up, .long lo]))]) F (ctX4_has _ g zm ow zmp zmd (nI M)) 2 rfl rfl pw_425 pw_426 pw_427 pw_6 pw_428 (by decide +kernel) (by decide) (by decide) rfl rfl (Nat.le_of_ble_eq_true rfl) [2] [0, 1, 3] rfl rfl rfl rfl (by decide) dX8_boulder_14 (fun r0 w0 hp0 => ?_)
    obtain ⟨r_2, _, rfl, rfl, hq_3⟩ := hp0
    replace vc := vc r_2  hq_3
    refine pz_eq (st' := [.int r_2]) (ws' := [(h0, .inr (7, [.ref zt, .ref zl, .ref zc, .ref zm, .ref zb, .ref zs, .int (nI NB), .int hk])), (zb, .inl (g.2.1 4, 10, .inr (.inr (.inr (.inr bq))))), (zc, .inr (1, [.ref zcw, .int gc, .int kc, .ref zcp, .ref zcg, .ref zco, .ref zcd, .long ao, .ref zcf, .ref zct, .ref zcn, .long up, .long lo])), (zm, .inr (3, [.ref zmp, .ref zmd, .int (nI M)]))]) rfl rfl ?_
    refine pz_if_ne (tgt := 22) F dX8_boulder_17 (by decide) (fun q_4 => ?_) (fun q_4 => ?_)
    · replace vc := vc.1 q_4
      refine pz_iload_n 2 F rfl dX8_boulder_22 rfl ?_
      refine pz_iconst (v := 1) F dX8_boulder_23 rfl ?_
      refine pz_icmp_lt (tgt := 45) F dX8_boulder_24 (by decide) (fun q_5 => ?_) (fun q_5 => ?_)
      · replace vc := vc.1 q_5
        refine pz_iconst (v := (-1)) F dX8_boulder_45 rfl ?_
        exact pz_ireturn (w1 := [(h0, .inr (7, [.ref zt, .ref zl, .ref zc, .ref zm, .ref zb, .ref zs, .int (nI NB), .int hk])), (zb, .inl (g.2.1 4, 10, .inr (.inr (.inr (.inr bq))))), (zm, .inr (3, [.ref zmp, .ref zmd, .int (nI M)])), (zc, .inr (1, [.ref zcw, .int gc, .int kc, .ref zcp, .ref zcg, .ref zco, .ref zcd, .long ao, .ref zcf, .ref zct, .ref zcn, .long up, .long lo]))]) F Rt (by decide) (by decide) dX8_boulder_46 [0, 1, 3, 2] rfl rfl rfl vc
      · replace vc := vc.2 q_5
        refine pz_iload_n 2 F rfl dX8_boulder_27 rfl ?_
        refine pz_bipush (v := 8) F dX8_boulder_28 rfl ?_
        refine pz_icmp_gt (tgt := 45) F dX8_boulder_30 (by decide) (fun q_6 => ?_) (fun q_6 => ?_)
        · replace vc := vc.1 q_6
          refine pz_iconst (v := (-1)) F dX8_boulder_45 rfl ?_
          exact pz_ireturn (w1 := [(h0, .inr (7, [.ref zt, .ref zl, .ref zc, .ref zm, .ref zb, .ref zs, .int (nI NB), .int hk])), (zb, .inl (g.2.1 4, 10, .inr (.inr (.inr (.inr bq))))), (zm, .inr (3, [.ref zmp, .ref zmd, .int (nI M)])), (zc, .inr (1, [.ref zcw, .int gc, .int kc, .ref zcp, .ref zcg, .ref zco, .ref zcd, .long ao, .ref zcf, .ref zct, .ref zcn, .long up, .long lo]))]) F Rt (by decide) (by decide) dX8_boulder_46 [0, 1, 3, 2] rfl rfl rfl vc
        · replace vc := vc.2 q_6
          refine pz_aload_n 0 F rfl dX8_boulder_33 rfl ?_
          refine pz_get (ci := 7) (C := RX8) (T := TX8) (N := 8) (v := .ref zc) 0 F rfl rfl pz_inX8 2 (by decide) pw_212 rfl dX8_boulder_34 ?_
          refine pz_iload_n 2 F rfl dX8_boulder_37 rfl ?_
          refine pz_iload_n 3 F rfl dX8_boulder_38 rfl ?_
          obtain ⟨n_7, vc⟩ := vc
          obtain ⟨h_8, vc⟩ := vc
          refine pz_callV (nA := 2) (ci := 1) (C := RX1) (T := TX1) (N := 13) (As := [.int sv, .int iv]) (rest := []) (wr := [(h0, .inr (7, [.ref zt, .ref zl, .ref zc, .ref zm, .ref zb, .ref zs, .int (nI NB), .int hk])), (zb, .inl (g.2.1 4, 10, .inr (.inr (.inr (.inr bq))))), (zm, .inr (3, [.ref zmp, .ref zmd, .int (nI M)]))]) F (ctX1_knowsAll _ g sv iv zc zcw gc kc zcp zcg zco zcd ao zcf zct zcn up lo n_7 h_8) 2 rfl rfl pw_429 pw_430 pw_431 pw_5 pw_432 (by decide +kernel) (by decide) (by decide) rfl rfl (Nat.le_of_ble_eq_true rfl) [2] [0, 1, 3] rfl rfl rfl rfl (by decide) dX8_boulder_39 (fun r0 w0 hp0 => ?_)
          obtain ⟨r_9, _, rfl, rfl, hq_10⟩ := hp0
          replace vc := vc r_9  hq_10
          refine pz_eq (st' := [.int r_9]) (ws' := [(h0, .inr (7, [.ref zt, .ref zl, .ref zc, .ref zm, .ref zb, .ref zs, .int (nI NB), .int hk])), (zb, .inl (g.2.1 4, 10, .inr (.inr (.inr (.inr bq))))), (zm, .inr (3, [.ref zmp, .ref zmd, .int (nI M)])), (zc, .inr (1, [.ref zcw, .int gc, .int kc, .ref zcp, .ref zcg, .ref zco, .ref zcd, .long ao, .ref zcf, .ref zct, .ref zcn, .long up, .long lo]))]) rfl rfl ?_
          refine pz_if_ne (tgt := 47) F dX8_boulder_42 (by decide) (fun q_11 => ?_) (fun q_11 => ?_)
          · replace vc := vc.1 q_11
            refine pz_aload_n 0 F rfl dX8_boulder_47 rfl ?_
            refine pz_get (ci := 7) (C := RX8) (T := TX8) (N := 8) (v := .ref zb) 0 F rfl rfl pz_inX8 4 (by decide) pw_214 rfl dX8_boulder_48 ?_
            refine pz_aload_n 0 F rfl dX8_boulder_51 rfl ?_
            refine pz_get (ci := 7) (C := RX8) (T := TX8) (N := 8) (v := .int (nI NB)) 0 F rfl rfl pz_inX8 6 (by decide) pw_216 rfl dX8_boulder_52 ?_
            refine pz_new (ci := 0) (C := RX0) (T := TX0) (N := 8) (fs := [.int 0, .int 0, .null, .null, .null, .int 0, .int 0, .int 0]) F rfl pz_inX0 tyX0_ok pw_176 pw_436 pw_17 (by decide) (by decide) dX8_boulder_55 (fun a_12 => ?_)
            refine pz_eq (st' := [.ref a_12, .int (nI NB), .ref zb]) (ws' := [(h0, .inr (7, [.ref zt, .ref zl, .ref zc, .ref zm, .ref zb, .ref zs, .int (nI NB), .int hk])), (zb, .inl (g.2.1 4, 10, .inr (.inr (.inr (.inr bq))))), (zm, .inr (3, [.ref zmp, .ref zmd, .int (nI M)])), (zc, .inr (1, [.ref zcw, .int gc, .int kc, .ref zcp, .ref zcg, .ref zco, .ref zcd, .long ao, .ref zcf, .ref zct, .ref zcn, .long up, .long lo])), (a_12, .inr (0, [.int 0, .int 0, .null, .null, .null, .int 0, .int 0, .int 0]))]) rfl rfl ?_
            replace vc := vc a_12
            refine pz_dup F dX8_boulder_58 rfl ?_
            refine pz_iload_n 1 F rfl dX8_boulder_59 rfl ?_
            refine pz_iload_n 2 F rfl dX8_boulder_60 rfl ?_
            refine pz_iload_n 3 F rfl dX8_boulder_61 rfl ?_
            obtain ⟨o_13, vc⟩ := vc
            obtain ⟨h_14, vc⟩ := vc
            refine pz_callI (nA := 3) (As := [.int ow, .int sv, .int iv]) (rest := [.ref a_12, .int (nI NB), .ref zb]) (wr := [(h0, .inr (7, [.ref zt, .ref zl, .ref zc, .ref zm, .ref zb, .ref zs, .int (nI NB), .int hk])), (zb, .inl (g.2.1 4, 10, .inr (.inr (.inr (.inr bq))))), (zm, .inr (3, [.ref zmp, .ref zmd, .int (nI M)])), (zc, .inr (1, [.ref zcw, .int gc, .int kc, .ref zcp, .ref zcg, .ref zco, .ref zcd, .long ao, .ref zcf, .ref zct, .ref zcn, .long up, .long lo]))]) F (ctX0_init _ g a_12 ow sv iv o_13 h_14) rfl pw_437 pw_438 pw_17 pw_439 (by decide +kernel) (by decide) (by decide) rfl rfl (Nat.le_of_ble_eq_true rfl) [4] [0, 1, 2, 3] rfl rfl rfl rfl (by decide) dX8_boulder_62 (fun r0 w0 hp0 => ?_)
            obtain ⟨⟨a1_15, a2_16, a3_17⟩, rfl, rfl, hq_18⟩ := hp0
            replace vc := vc a1_15 a2_16 a3_17 hq_18
            refine pz_eq (st' := [.ref a_12, .int (nI NB), .ref zb]) (ws' := [(h0, .inr (7, [.ref zt, .ref zl, .ref zc, .ref zm, .ref zb, .ref zs, .int (nI NB), .int hk])), (zb, .inl (g.2.1 4, 10, .inr (.inr (.inr (.inr bq))))), (zm, .inr (3, [.ref zmp, .ref zmd, .int (nI M)])), (zc, .inr (1, [.ref zcw, .int gc, .int kc, .ref zcp, .ref zcg, .ref zco, .ref zcd, .long ao, .ref zcf, .ref zct, .ref zcn, .long up, .long lo])), (a_12, .inr (0, [.int sv, .int iv, .ref a1_15, .ref a2_16, .ref a3_17, .int 0, .int 0, .int 0])), (a1_15, .inl (g.2.1 1, 8, .inl (upd (fun _ => 0) o_13 16))), (a2_16, .inl (g.2.1 1, 8, .inl (fun _ => 0))), (a3_17, .inl (g.2.1 1, 8, .inl (fun _ => 0)))]) rfl rfl ?_
            refine pz_widen (k' := 4) (n' := 32) (by decide) (by decide) ?_
            obtain ⟨h_19, vc⟩ := vc
            obtain ⟨f_20, ef_20⟩ : ∃ z : Nat → Option Nat, z = va_up bq (nI NB).toNatClampNeg (some a_12) := ⟨_, rfl⟩
            replace vc := vc f_20 ef_20
            refine pz_aastore (ws' := [(h0, .inr (7, [.ref zt, .ref zl, .ref zc, .ref zm, .ref zb, .ref zs, .int (nI NB), .int hk])), (zb, .inl (g.2.1 4, 10, .inr (.inr (.inr (.inr f_20))))), (zm, .inr (3, [.ref zmp, .ref zmd, .int (nI M)])), (zc, .inr (1, [.ref zcw, .int gc, .int kc, .ref zcp, .ref zcg, .ref zco, .ref zcd, .long ao, .ref zcf, .ref zct, .ref zcn, .long up, .long lo])), (a_12, .inr (0, [.int sv, .int iv, .ref a1_15, .ref a2_16, .ref a3_17, .int 0, .int 0, .int 0])), (a1_15, .inl (g.2.1 1, 8, .inl (upd (fun _ => 0) o_13 16))), (a2_16, .inl (g.2.1 1, 8, .inl (fun _ => 0))), (a3_17, .inl (g.2.1 1, 8, .inl (fun _ => 0)))]) F 1 4 rfl rfl h_19 dX8_boulder_65 (by rw [ef_20]; rfl) ?_
            refine pz_aload_n 0 F rfl dX8_boulder_66 rfl ?_
            refine pz_dup F dX8_boulder_67 rfl ?_
            refine pz_get (ci := 7) (C := RX8) (T := TX8) (N := 8) (v := .int (nI NB)) 0 F rfl rfl pz_inX8 6 (by decide) pw_216 rfl dX8_boulder_68 ?_
            refine pz_iconst (v := 1) F dX8_boulder_71 rfl ?_
            refine pz_iadd F dX8_boulder_72 ?_
            refine pz_topi (fun x_21 ex_21 => ?_)
            replace vc := vc x_21 ex_21
            refine pz_put (ws' := [(h0, .inr (7, [.ref zt, .ref zl, .ref zc, .ref zm, .ref zb, .ref zs, .int x_21, .int hk])), (zb, .inl (g.2.1 4, 10, .inr (.inr (.inr (.inr f_20))))), (zm, .inr (3, [.ref zmp, .ref zmd, .int (nI M)])), (zc, .inr (1, [.ref zcw, .int gc, .int kc, .ref zcp, .ref zcg, .ref zco, .ref zcd, .long ao, .ref zcf, .ref zct, .ref zcn, .long up, .long lo])), (a_12, .inr (0, [.int sv, .int iv, .ref a1_15, .ref a2_16, .ref a3_17, .int 0, .int 0, .int 0])), (a1_15, .inl (g.2.1 1, 8, .inl (upd (fun _ => 0) o_13 16))), (a2_16, .inl (g.2.1 1, 8, .inl (fun _ => 0))), (a3_17, .inl (g.2.1 1, 8, .inl (fun _ => 0)))]) (ci := 7) (C := RX8) (T := TX8) (N := 8) (v := .int x_21) (ty := .int) 0 F rfl rfl pz_inX8 6 (by decide) pw_216 tyX8_ok nmX8 rfl rfl rfl rfl (Nat.le_of_ble_eq_true rfl) dX8_boulder_73 rfl ?_
            refine pz_aload_n 0 F rfl dX8_boulder_76 rfl ?_
            refine pz_get (ci := 7) (C := RX8) (T := TX8) (N := 8) (v := .int x_21) 0 F rfl rfl pz_inX8 6 (by decide) pw_216 rfl dX8_boulder_77 ?_
            refine pz_iconst (v := 1) F dX8_boulder_80 rfl ?_
            refine pz_isub F dX8_boulder_81 ?_
            refine pz_topi (fun x_22 ex_22 => ?_)
            replace vc := vc x_22 ex_22
            exact pz_ireturn (w1 := [(h0, .inr (7, [.ref zt, .ref zl, .ref zc, .ref zm, .ref zb, .ref zs, .int x_21, .int hk])), (zb, .inl (g.2.1 4, 10, .inr (.inr (.inr (.inr f_20))))), (zm, .inr (3, [.ref zmp, .ref zmd, .int (nI M)])), (zc, .inr (1, [.ref zcw, .int gc, .int kc, .ref zcp, .ref zcg, .ref zco, .ref zcd, .long ao, .ref zcf, .ref zct, .ref zcn, .long up, .long lo])), (a_12, .inr (0, [.int sv, .int iv, .ref a1_15, .ref a2_16, .ref a3_17, .int 0, .int 0, .int 0])), (a1_15, .inl (g.2.1 1, 8, .inl (upd (fun _ => 0) o_13 16))), (a2_16, .inl (g.2.1 1, 8, .inl (fun _ => 0))), (a3_17, .inl (g.2.1 1, 8, .inl (fun _ => 0)))]) F Rt (by decide) (by decide) dX8_boulder_82 [0, 1, 2, 3, 4, 5, 6, 7] rfl rfl rfl vc
          · replace vc := vc.2 q_11
            refine pz_iconst (v := (-1)) F dX8_boulder_45 rfl ?_
            exact pz_ireturn (w1 := [(h0, .inr (7, [.ref zt, .ref zl, .ref zc, .ref zm, .ref zb, .ref zs, .int (nI NB), .int hk])), (zb, .inl (g.2.1 4, 10, .inr (.inr (.inr (.inr bq))))), (zm, .inr (3, [.ref zmp, .ref zmd, .int (nI M)])), (zc, .inr (1, [.ref zcw, .int gc, .int kc, .ref zcp, .ref zcg, .ref zco, .ref zcd, .long ao, .ref zcf, .ref zct, .ref zcn, .long up, .long lo]))]) F Rt (by decide) (by decide) dX8_boulder_46 [0, 1, 2, 3] rfl rfl rfl vc
    · replace vc := vc.2 q_4
      refine pz_iconst (v := (-1)) F dX8_boulder_20 rfl ?_
      exact pz_ireturn (w1 := [(h0, .inr (7, [.ref zt, .ref zl, .ref zc, .ref zm, .ref zb, .ref zs, .int (nI NB), .int hk])), (zb, .inl (g.2.1 4, 10, .inr (.inr (.inr (.inr bq))))), (zm, .inr (3, [.ref zmp, .ref zmd, .int (nI M)])), (zc, .inr (1, [.ref zcw, .int gc, .int kc, .ref zcp, .ref zcg, .ref zco, .ref zcd, .long ao, .ref zcf, .ref zct, .ref zcn, .long up, .long lo]))]) F Rt (by decide) (by decide) dX8_boulder_21 [0, 1, 3, 2] rfl rfl rfl vc
set_option maxHeartbeats 4000000 in
set_option maxRecDepth 100000 in
theorem ctX8_boulder_T (l : Launch) (g : pz_G) (ow : Int32) (sv : Int32) (iv : Int32) (h0 : Nat) (zt : Nat) (zl : Nat) (zc : Nat) (zm : Nat) (zb : Nat) (zs : Nat) (hk : Int32) (bq : Nat → Option Nat) (zmp : Nat) (zmd : Nat) (zcw : Nat) (gc : Int32) (kc : Int32) (zcp : Nat) (zcg : Nat) (zco : Nat) (zcd : Nat) (ao : Int64) (zcf : Nat) (zct : Nat) (zcn : Nat) (up : Int64) (lo : Int64) (M : Nat) (NB : Nat) (hpre : M ≤ 8 ∧ (NB < 10 ∧ hs_in ow M ∧ ¬ sv < 1 ∧ ¬ (8 : Int32) < sv ∧ ∀ a, a < sv.toNatClampNeg → pu_gi iv (nI a) < gc)) : pz_Ct l g yX8_boulder cX8_boulder 4 (some .int) rmX8_boulder_T [.ref h0, .int ow, .int sv, .int iv] [(h0, .inr (7, [.ref zt, .ref zl, .ref zc, .ref zm, .ref zb, .ref zs, .int (nI NB), .int hk])), (zb, .inl (g.2.1 4, 10, .inr (.inr (.inr (.inr bq))))), (zm, .inr (3, [.ref zmp, .ref zmd, .int (nI M)])), (zc, .inr (1, [.ref zcw, .int gc, .int kc, .ref zcp, .ref zcg, .ref zco, .ref zcd, .long ao, .ref zcf, .ref zct, .ref zcn, .long up, .long lo]))] (pz_pi (fun (r : Int32) (u : Nat × Nat × Nat × Nat × (Nat → Option Nat)) => r = nI NB ∧ u.2.2.2.2 = va_up bq NB (some u.1)) (fun (u : Nat × Nat × Nat × Nat × (Nat → Option Nat)) => [(h0, .inr (7, [.ref zt, .ref zl, .ref zc, .ref zm, .ref zb, .ref zs, .int (nI (NB + 1)), .int hk])), (zb, .inl (g.2.1 4, 10, .inr (.inr (.inr (.inr u.2.2.2.2))))), (zm, .inr (3, [.ref zmp, .ref zmd, .int (nI M)])), (zc, .inr (1, [.ref zcw, .int gc, .int kc, .ref zcp, .ref zcg, .ref zco, .ref zcd, .long ao, .ref zcf, .ref zct, .ref zcn, .long up, .long lo])), (u.1, .inr (0, [.int sv, .int iv, .ref u.2.1, .ref u.2.2.1, .ref u.2.2.2.1, .int 0, .int 0, .int 0])), (u.2.1, .inl (g.2.1 1, 8, .inl (upd (fun _ => 0) ow.toNatClampNeg 16))), (u.2.2.1, .inl (g.2.1 1, 8, .inl (fun _ => 0))), (u.2.2.2.1, .inl (g.2.1 1, 8, .inl (fun _ => 0)))])) := by
  refine pz_ofAt (by decide +kernel) (Nat.le_of_ble_eq_true rfl) (fun B F Rt hme => ?_)
  obtain ⟨hM, hN, i1, q2, q3, hg⟩ := hpre
  obtain ⟨o, ho, eo⟩ := hs_nI (by omega) i1
  obtain ⟨v, hv, ev⟩ := bo_n q2 q3
  refine sgX8_boulder_T_0 F Rt ow sv iv h0 zt zl zc zm zb zs hk bq zmp zmd zcw gc kc zcp zcg zco zcd ao zcf zct zcn up lo M NB ?_
  clear F Rt hme
  refine ⟨fun q => absurd (pu_ge (n := 10) (by omega) q) (by omega), fun q r1 h1 => ?_⟩
  rcases hs_of h1 with ⟨_, rfl⟩ | ⟨i2, rfl⟩
  · refine ⟨fun _ => ⟨fun q => absurd q q2, fun _ => ⟨fun q => absurd q q3, fun _ => ⟨v, ⟨hv, ev⟩, fun r2 h2 => ?_⟩⟩⟩, fun q => absurd q (by decide)⟩
    rcases h2 with ⟨rfl, h2⟩ | ⟨rfl, a, ha, hb⟩
    · refine ⟨fun _ a0 => ⟨o, ⟨by omega, eo⟩, fun a1 a2 a3 _ => ⟨vp_in_nI hN (by omega), ?_⟩⟩, fun q => absurd q (by decide)⟩
      rintro f rfl x1 rfl x2 rfl
      have eo2 : ow.toNatClampNeg = o := by rw [eo, nI_clamp (by omega)]
      rw [nI_clamp (by omega)]
      refine ⟨_, (a0, a1, a2, a3, _), rfl, by rw [nI_1, eo2], ?_, rfl⟩
      rw [nI_1, nI_pred]
    · exact absurd (hg a (by rw [ev, nI_clamp (by omega)]; exact ha)) hb
  · exact absurd i1 i2
abbrev rmX8_look_B : Room := { frames := 1, cells := 0, slots := 0, locals := 21 }
set_option maxHeartbeats 4000000 in
set_option maxRecDepth 100000 in
theorem sgX8_look_B_0 {B : pz_B} {g : pz_G} {wc : va_W} {Post : Option Value → va_W → Prop} (F : pz_F B cX8_look 4 (some .int) yX8_look.cls g rmX8_look_B) (Rt : pz_Rt B g wc Post rmX8_look_B) (x : Int32) (w : Int32) (h0 : Nat) (zt : Nat) (zl : Nat) (zc : Nat) (zm : Nat) (zb : Nat) (zs : Nat) (bn : Int32) (hk : Int32) (bq : Nat → Option Nat) (ba : Nat) (sl : Int32) (ins : Int32) (bpa : Nat) (bbd : Nat) (bbc : Nat) (cnt : Int32) (se : Int32) (sp : Int32) (jb : Nat) (NB : Nat)  (vc : (jb < NB ∧ NB ≤ 10 ∧ x = nI jb ∧ bn = nI NB ∧ bq jb = some ba) ∧ ∀ _ : (True), ((w = 0 → Post (some (.int sl)) [(h0, .inr (7, [.ref zt, .ref zl, .ref zc, .ref zm, .ref zb, .ref zs, .int bn, .int hk])), (zb, .inl (g.2.1 4, 10, .inr (.inr (.inr (.inr bq))))), (ba, .inr (0, [.int sl, .int ins, .ref bpa, .ref bbd, .ref bbc, .int cnt, .int se, .int sp]))]) ∧ (¬ w = 0 → ((w = 1 → Post (some (.int se)) [(h0, .inr (7, [.ref zt, .ref zl, .ref zc, .ref zm, .ref zb, .ref zs, .int bn, .int hk])), (zb, .inl (g.2.1 4, 10, .inr (.inr (.inr (.inr bq))))), (ba, .inr (0, [.int sl, .int ins, .ref bpa, .ref bbd, .ref bbc, .int cnt, .int se, .int sp]))]) ∧ (¬ w = 1 → ((w = 2 → ((sp = 0 → Post (some (.int 0)) [(h0, .inr (7, [.ref zt, .ref zl, .ref zc, .ref zm, .ref zb, .ref zs, .int bn, .int hk])), (zb, .inl (g.2.1 4, 10, .inr (.inr (.inr (.inr bq))))), (ba, .inr (0, [.int sl, .int ins, .ref bpa, .ref bbd, .ref bbc, .int cnt, .int se, .int sp]))]) ∧ (¬ sp = 0 → Post (some (.int 1)) [(h0, .inr (7, [.ref zt, .ref zl, .ref zc, .ref zm, .ref zb, .ref zs, .int bn, .int hk])), (zb, .inl (g.2.1 4, 10, .inr (.inr (.inr (.inr bq))))), (ba, .inr (0, [.int sl, .int ins, .ref bpa, .ref bbd, .ref bbc, .int cnt, .int se, .int sp]))]))) ∧ (¬ w = 2 → ((w = 3 → Post (some (.int cnt)) [(h0, .inr (7, [.ref zt, .ref zl, .ref zc, .ref zm, .ref zb, .ref zs, .int bn, .int hk])), (zb, .inl (g.2.1 4, 10, .inr (.inr (.inr (.inr bq))))), (ba, .inr (0, [.int sl, .int ins, .ref bpa, .ref bbd, .ref bbc, .int cnt, .int se, .int sp]))]) ∧ (¬ w = 3 → False))))))))) : pz_At B 0 0 0 [(0, .ref h0), (1, .int x), (2, .int w)] [] [(h0, .inr (7, [.ref zt, .ref zl, .ref zc, .ref zm, .ref zb, .ref zs, .int bn, .int hk])), (zb, .inl (g.2.1 4, 10, .inr (.inr (.inr (.inr bq))))), (ba, .inr (0, [.int sl, .int ins, .ref bpa, .ref bbd, .ref bbc, .int cnt, .int se, .int sp]))] := by
  refine pz_aload_n 0 F rfl dX8_look_0 rfl ?_
  refine pz_iload_n 1 F rfl dX8_look_1 rfl ?_
  obtain ⟨h_1, vc⟩ := vc
  refine pz_callV (nA := 1) (ci := 7) (C := RX8) (T := TX8) (N := 8) (As := [.int x]) (rest := []) (wr := []) F (ctX8_known_B _ g x h0 zt zl zc zm zb zs bn hk bq ba sl ins bpa bbd bbc cnt se sp jb NB h_1) 0 rfl rfl pw_485 pw_487 pv_13 pw_1 pw_488 (by decide +kernel) (by decide) (by decide) rfl rfl (Nat.le_of_ble_eq_true rfl) [0, 1, 2] [] rfl rfl rfl rfl (by decide) dX8_look_2 (fun r0 w0 hp0 => ?_)
  obtain ⟨_, rfl, rfl, hq_2⟩ := hp0
  replace vc := vc  hq_2
  refine pz_eq (st' := [.ref ba]) (ws' := [(h0, .inr (7, [.ref zt, .ref zl, .ref zc, .ref zm, .ref zb, .ref zs, .int bn, .int hk])), (zb, .inl (g.2.1 4, 10, .inr (.inr (.inr (.inr bq))))), (ba, .inr (0, [.int sl, .int ins, .ref bpa, .ref bbd, .ref bbc, .int cnt, .int se, .int sp]))]) rfl rfl ?_
  refine pz_astore_n (lv' := [(3, .ref ba), (0, .ref h0), (1, .int x), (2, .int w)]) F dX8_look_5 rfl (by decide) rfl ?_
  refine pz_aload_n 0 F rfl dX8_look_6 rfl ?_
  refine pz_ifnonnull (tgt := 20) F dX8_look_7 (by decide) ?_
  refine pz_iload_n 3 F rfl dX8_look_20 rfl ?_
  by_cases q_3 : w = 0
  · replace vc := vc.1 q_3
    refine pz_tsw (off := 31) (tgt := 52) F dX8_look_21 (by rw [q_3]; decide) (by rw [q_3]; decide) (by rw [q_3]; rfl) (by decide) ?_
    refine pz_aload_n 0 F rfl dX8_look_52 rfl ?_
    refine pz_get (ci := 0) (C := RX0) (T := TX0) (N := 8) (v := .int sl) 2 F rfl rfl pz_inX0 0 (by decide) pw_442 rfl dX8_look_53 ?_
    exact pz_ireturn (w1 := [(h0, .inr (7, [.ref zt, .ref zl, .ref zc, .ref zm, .ref zb, .ref zs, .int bn, .int hk])), (zb, .inl (g.2.1 4, 10, .inr (.inr (.inr (.inr bq))))), (ba, .inr (0, [.int sl, .int ins, .ref bpa, .ref bbd, .ref bbc, .int cnt, .int se, .int sp]))]) F Rt (by decide) (by decide) dX8_look_56 [0, 1, 2] rfl rfl rfl vc
  · replace vc := vc.2 q_3
    by_cases q_4 : w = 1
    · replace vc := vc.1 q_4
      refine pz_tsw (off := 36) (tgt := 57) F dX8_look_21 (by rw [q_4]; decide) (by rw [q_4]; decide) (by rw [q_4]; rfl) (by decide) ?_
      refine pz_aload_n 0 F rfl dX8_look_57 rfl ?_
      refine pz_get (ci := 0) (C := RX0) (T := TX0) (N := 8) (v := .int se) 2 F rfl rfl pz_inX0 6 (by decide) pw_457 rfl dX8_look_58 ?_
      exact pz_ireturn (w1 := [(h0, .inr (7, [.ref zt, .ref zl, .ref zc, .ref zm, .ref zb, .ref zs, .int bn, .int hk])), (zb, .inl (g.2.1 4, 10, .inr (.inr (.inr (.inr bq))))), (ba, .inr (0, [.int sl, .int ins, .ref bpa, .ref bbd, .ref bbc, .int cnt, .int se, .int sp]))]) F Rt (by decide) (by decide) dX8_look_61 [0, 1, 2] rfl rfl rfl vc
    · replace vc := vc.2 q_4
      by_cases q_5 : w = 2
      · replace vc := vc.1 q_5
        refine pz_tsw (off := 41) (tgt := 62) F dX8_look_21 (by rw [q_5]; decide) (by rw [q_5]; decide) (by rw [q_5]; rfl) (by decide) ?_
        refine pz_aload_n 0 F rfl dX8_look_62 rfl ?_
        refine pz_get (ci := 0) (C := RX0) (T := TX0) (N := 8) (v := .int sp) 2 F rfl rfl pz_inX0 7 (by decide) pw_459 rfl dX8_look_63 ?_
        refine pz_if_eq (tgt := 73) F dX8_look_66 (by decide) (fun q_6 => ?_) (fun q_6 => ?_)
        · replace vc := vc.1 q_6
          refine pz_iconst (v := 0) F dX8_look_73 rfl ?_
          exact pz_ireturn (w1 := [(h0, .inr (7, [.ref zt, .ref zl, .ref zc, .ref zm, .ref zb, .ref zs, .int bn, .int hk])), (zb, .inl (g.2.1 4, 10, .inr (.inr (.inr (.inr bq))))), (ba, .inr (0, [.int sl, .int ins, .ref bpa, .ref bbd, .ref bbc, .int cnt, .int se, .int sp]))]) F Rt (by decide) (by decide) dX8_look_74 [0, 1, 2] rfl rfl rfl vc
        · replace vc := vc.2 q_6
          refine pz_iconst (v := 1) F dX8_look_69 rfl ?_
          refine pz_goto (tgt := 74) F dX8_look_70 (by decide) ?_
          exact pz_ireturn (w1 := [(h0, .inr (7, [.ref zt, .ref zl, .ref zc, .ref zm, .ref zb, .ref zs, .int bn, .int hk])), (zb, .inl (g.2.1 4, 10, .inr (.inr (.inr (.inr bq))))), (ba, .inr (0, [.int sl, .int ins, .ref bpa, .ref bbd, .ref bbc, .int cnt, .int se, .int sp]))]) F Rt (by decide) (by decide) dX8_look_74 [0, 1, 2] rfl rfl rfl vc
      · replace vc := vc.2 q_5
        by_cases q_7 : w = 3
        · replace vc := vc.1 q_7
          refine pz_tsw (off := 54) (tgt := 75) F dX8_look_21 (by rw [q_7]; decide) (by rw [q_7]; decide) (by rw [q_7]; rfl) (by decide) ?_
          refine pz_aload_n 0 F rfl dX8_look_75 rfl ?_
          refine pz_get (ci := 0) (C := RX0) (T := TX0) (N := 8) (v := .int cnt) 2 F rfl rfl pz_inX0 5 (by decide) pw_454 rfl dX8_look_76 ?_
          exact pz_ireturn (w1 := [(h0, .inr (7, [.ref zt, .ref zl, .ref zc, .ref zm, .ref zb, .ref zs, .int bn, .int hk])), (zb, .inl (g.2.1 4, 10, .inr (.inr (.inr (.inr bq))))), (ba, .inr (0, [.int sl, .int ins, .ref bpa, .ref bbd, .ref bbc, .int cnt, .int se, .int sp]))]) F Rt (by decide) (by decide) dX8_look_79 [0, 1, 2] rfl rfl rfl vc
        · replace vc := vc.2 q_7
          refine pz_tswO (tgt := 80) F dX8_look_21 (by have h0 := lv_neT (a := 0) q_3 rfl; have h1 := lv_neT (a := 1) q_4 rfl; have h2 := lv_neT (a := 2) q_5 rfl; have h3 := lv_neT (a := 3) q_7 rfl; omega) (by decide) ?_
          exact vc.elim
set_option maxHeartbeats 4000000 in
set_option maxRecDepth 100000 in
theorem ctX8_look_B (l : Launch) (g : pz_G) (x : Int32) (w : Int32) (h0 : Nat) (zt : Nat) (zl : Nat) (zc : Nat) (zm : Nat) (zb : Nat) (zs : Nat) (bn : Int32) (hk : Int32) (bq : Nat → Option Nat) (ba : Nat) (sl : Int32) (ins : Int32) (bpa : Nat) (bbd : Nat) (bbc : Nat) (cnt : Int32) (se : Int32) (sp : Int32) (jb : Nat) (NB : Nat) (hpre : (jb < NB ∧ NB ≤ 10 ∧ x = nI jb ∧ bn = nI NB ∧ bq jb = some ba) ∧ (w = 0 ∨ w = 1 ∨ w = 2 ∨ w = 3)) : pz_Ct l g yX8_look cX8_look 4 (some .int) rmX8_look_B [.ref h0, .int x, .int w] [(h0, .inr (7, [.ref zt, .ref zl, .ref zc, .ref zm, .ref zb, .ref zs, .int bn, .int hk])), (zb, .inl (g.2.1 4, 10, .inr (.inr (.inr (.inr bq))))), (ba, .inr (0, [.int sl, .int ins, .ref bpa, .ref bbd, .ref bbc, .int cnt, .int se, .int sp]))] (pz_pi (fun (r : Int32) (u : Unit) => r = if w = 0 then sl else if w = 1 then se else if w = 2 then (if sp = 0 then 0 else 1) else cnt) (fun (u : Unit) => [(h0, .inr (7, [.ref zt, .ref zl, .ref zc, .ref zm, .ref zb, .ref zs, .int bn, .int hk])), (zb, .inl (g.2.1 4, 10, .inr (.inr (.inr (.inr bq))))), (ba, .inr (0, [.int sl, .int ins, .ref bpa, .ref bbd, .ref bbc, .int cnt, .int se, .int sp]))])) := by
  refine pz_ofAt (by decide +kernel) (Nat.le_of_ble_eq_true rfl) (fun B F Rt hme => ?_)
  obtain ⟨hB, hw⟩ := hpre
  refine sgX8_look_B_0 F Rt x w h0 zt zl zc zm zb zs bn hk bq ba sl ins bpa bbd bbc cnt se sp jb NB ?_
  clear F Rt hme
  refine ⟨hB, fun _ => ⟨fun q0 => ⟨_, (), rfl, rfl, by rw [if_pos q0]⟩, fun q0 => ⟨fun q1 => ⟨_, (), rfl, rfl, by rw [if_neg q0, if_pos q1]⟩, fun q1 => ⟨fun q2 => ⟨fun q => ⟨_, (), rfl, rfl, by rw [if_neg q0, if_neg q1, if_pos q2, if_pos q]⟩, fun q => ⟨_, (), rfl, rfl, by rw [if_neg q0, if_neg q1, if_pos q2, if_neg q]⟩⟩, fun q2 => ⟨fun q3 => ⟨_, (), rfl, rfl, by rw [if_neg q0, if_neg q1, if_neg q2]⟩, fun q3 => ?_⟩⟩⟩⟩⟩
  rcases hw with h | h | h | h
  · exact q0 h
  · exact q1 h
  · exact q2 h
  · exact q3 h
