
abbrev rmX5_advance : Room := { frames := 2, cells := 0, slots := 0, locals := 48 }
set_option maxHeartbeats 4000000 in
set_option maxRecDepth 100000 in
theorem sgX5_advance_0 {B : pz_B} {g : pz_G} {wc : va_W} {Post : Option Value → va_W → Prop} (F : pz_F B cX5_advance 2 none yX5_advance.cls g rmX5_advance) (Rt : pz_Rt B g wc Post rmX5_advance) (h0 : Nat) (ht : Nat) (en : Int32) (tk : Int32) (sa : Int32) (bh : Int32) (nu : Int32) (hb : Nat) (ts : Int32) (byt : Nat → Int32) (j : Nat) (e : Nat)  (vc : (j ≤ e ∧ e ≤ 400 ∧ bh = nI j ∧ en = nI e) ∧ ∀ k_2 : Nat, ∀ _ : (pu_scan pu_bl (pu_cs byt e) j e k_2), (k_2 < 1000 ∧ e ≤ 400 ∧ (nI k_2) = nI k_2 ∧ en = nI e) ∧ ∀ r_5 : Int32, ∀ _ : (r_5 = pu_cs byt e k_2), ((¬ r_5 = (-1) → ∀ r_8 : Int32, ∀ _ : (r_8 = if pu_le r_5 = true then 1 else 0), ((r_8 = 0 → ∀ r_11 : Int32, ∀ _ : (r_11 = if pu_di r_5 = true then 1 else 0), ((r_11 = 0 → ((¬ r_5 = 59 → ∀ x_15 : Int32, x_15 = ((nI k_2) + 1) → Post none [(h0, .inr (4, [.ref ht, .int en, .int 4, .int (nI k_2), .int x_15, .int nu])), (ht, .inr (6, [.ref hb, .int ts])), (hb, .inl (g.2.1 0, 400, .inl byt))]) ∧ (r_5 = 59 → ∀ x_16 : Int32, x_16 = ((nI k_2) + 1) → Post none [(h0, .inr (4, [.ref ht, .int en, .int 3, .int (nI k_2), .int x_16, .int nu])), (ht, .inr (6, [.ref hb, .int ts])), (hb, .inl (g.2.1 0, 400, .inl byt))]))) ∧ (¬ r_11 = 0 → (k_2 ≤ e ∧ e ≤ 400 ∧ (nI k_2) = nI k_2 ∧ en = nI e) ∧ ∀ k_18 : Nat, ∀ nu2_19 : Int32, ∀ _ : (pu_scan pu_di (pu_cs byt e) k_2 e k_18 ∧ nu2_19 = pu_num (pu_cs byt e) k_2 (k_18 - k_2)), Post none [(h0, .inr (4, [.ref ht, .int en, .int 2, .int (nI k_2), .int (nI k_18), .int nu2_19])), (ht, .inr (6, [.ref hb, .int ts])), (hb, .inl (g.2.1 0, 400, .inl byt))]))) ∧ (¬ r_8 = 0 → (k_2 ≤ e ∧ e ≤ 400 ∧ (nI k_2) = nI k_2 ∧ en = nI e) ∧ ∀ k_22 : Nat, ∀ _ : (pu_scan pu_le (pu_cs byt e) k_2 e k_22), Post none [(h0, .inr (4, [.ref ht, .int en, .int 1, .int (nI k_2), .int (nI k_22), .int nu])), (ht, .inr (6, [.ref hb, .int ts])), (hb, .inl (g.2.1 0, 400, .inl byt))]))) ∧ (r_5 = (-1) → Post none [(h0, .inr (4, [.ref ht, .int en, .int 0, .int (nI k_2), .int (nI k_2), .int nu])), (ht, .inr (6, [.ref hb, .int ts])), (hb, .inl (g.2.1 0, 400, .inl byt))]))) : pz_At B 0 0 0 [(0, .ref h0)] [] [(h0, .inr (4, [.ref ht, .int en, .int tk, .int sa, .int bh, .int nu])), (ht, .inr (6, [.ref hb, .int ts])), (hb, .inl (g.2.1 0, 400, .inl byt))] := by
  refine pz_aload_n 0 F rfl dX5_advance_0 rfl ?_
  obtain ⟨h_1, vc⟩ := vc
  refine pz_callV (nA := 0) (ci := 4) (C := RX5) (T := TX5) (N := 6) (As := []) (rest := []) (wr := []) F (ctX5_skipBlanks _ g h0 ht en tk sa bh nu hb ts byt j e h_1) 0 rfl rfl pw_267 pw_269 pv_1 pw_4 pw_270 (by decide +kernel) (by decide) (by decide) rfl rfl (Nat.le_of_ble_eq_true rfl) [0, 1, 2] [] rfl rfl rfl rfl (by decide) dX5_advance_1 (fun r0 w0 hp0 => ?_)
  obtain ⟨k_2, rfl, rfl, hq_3⟩ := hp0
  replace vc := vc k_2 hq_3
  refine pz_eq (st' := []) (ws' := [(h0, .inr (4, [.ref ht, .int en, .int tk, .int sa, .int (nI k_2), .int nu])), (ht, .inr (6, [.ref hb, .int ts])), (hb, .inl (g.2.1 0, 400, .inl byt))]) rfl rfl ?_
  refine pz_aload_n 0 F rfl dX5_advance_4 rfl ?_
  refine pz_aload_n 0 F rfl dX5_advance_5 rfl ?_
  refine pz_get (ci := 4) (C := RX5) (T := TX5) (N := 6) (v := .int (nI k_2)) 0 F rfl rfl pz_inX5 4 (by decide) pw_66 rfl dX5_advance_6 ?_
  refine pz_put (ws' := [(h0, .inr (4, [.ref ht, .int en, .int tk, .int (nI k_2), .int (nI k_2), .int nu])), (ht, .inr (6, [.ref hb, .int ts])), (hb, .inl (g.2.1 0, 400, .inl byt))]) (ci := 4) (C := RX5) (T := TX5) (N := 6) (v := .int (nI k_2)) (ty := .int) 0 F rfl rfl pz_inX5 3 (by decide) pw_64 tyX5_ok nmX5 rfl rfl rfl rfl (Nat.le_of_ble_eq_true rfl) dX5_advance_9 rfl ?_
  refine pz_aload_n 0 F rfl dX5_advance_12 rfl ?_
  refine pz_aload_n 0 F rfl dX5_advance_13 rfl ?_
  refine pz_get (ci := 4) (C := RX5) (T := TX5) (N := 6) (v := .int (nI k_2)) 0 F rfl rfl pz_inX5 3 (by decide) pw_64 rfl dX5_advance_14 ?_
  obtain ⟨h_4, vc⟩ := vc
  refine pz_callV (nA := 1) (ci := 4) (C := RX5) (T := TX5) (N := 6) (As := [.int (nI k_2)]) (rest := []) (wr := []) F (ctX5_signAt _ g (nI k_2) h0 ht en tk (nI k_2) (nI k_2) nu hb ts byt k_2 e h_4) 0 rfl rfl pw_271 pw_273 pv_2 pw_4 pw_274 (by decide +kernel) (by decide) (by decide) rfl rfl (Nat.le_of_ble_eq_true rfl) [0, 1, 2] [] rfl rfl rfl rfl (by decide) dX5_advance_17 (fun r0 w0 hp0 => ?_)
  obtain ⟨r_5, _, rfl, rfl, hq_6⟩ := hp0
  replace vc := vc r_5  hq_6
  refine pz_eq (st' := [.int r_5]) (ws' := [(h0, .inr (4, [.ref ht, .int en, .int tk, .int (nI k_2), .int (nI k_2), .int nu])), (ht, .inr (6, [.ref hb, .int ts])), (hb, .inl (g.2.1 0, 400, .inl byt))]) rfl rfl ?_
  refine pz_istore_n (lv' := [(1, .int r_5), (0, .ref h0)]) F dX5_advance_20 rfl (by decide) rfl ?_
  refine pz_iload_n 0 F rfl dX5_advance_21 rfl ?_
  refine pz_iconst (v := (-1)) F dX5_advance_22 rfl ?_
  refine pz_icmp_ne (tgt := 34) F dX5_advance_23 (by decide) (fun q_7 => ?_) (fun q_7 => ?_)
  · replace vc := vc.1 q_7
    refine pz_iload_n 0 F rfl dX5_advance_34 rfl ?_
    refine pz_callS (nA := 1) (As := [.int r_5]) (rest := []) (wr := [(h0, .inr (4, [.ref ht, .int en, .int tk, .int (nI k_2), .int (nI k_2), .int nu])), (ht, .inr (6, [.ref hb, .int ts])), (hb, .inl (g.2.1 0, 400, .inl byt))]) F (ctX5_isLetter _ g r_5) pw_278 pw_279 pw_4 pw_280 (by decide +kernel) (by decide) (by decide) rfl rfl (Nat.le_of_ble_eq_true rfl) [] [0, 1, 2] rfl rfl rfl rfl (by decide) dX5_advance_35 (fun r0 w0 hp0 => ?_)
    obtain ⟨r_8, _, rfl, rfl, hq_9⟩ := hp0
    replace vc := vc r_8  hq_9
    refine pz_eq (st' := [.int r_8]) (ws' := [(h0, .inr (4, [.ref ht, .int en, .int tk, .int (nI k_2), .int (nI k_2), .int nu])), (ht, .inr (6, [.ref hb, .int ts])), (hb, .inl (g.2.1 0, 400, .inl byt))]) rfl rfl ?_
    refine pz_if_eq (tgt := 53) F dX5_advance_38 (by decide) (fun q_10 => ?_) (fun q_10 => ?_)
    · replace vc := vc.1 q_10
      refine pz_iload_n 0 F rfl dX5_advance_53 rfl ?_
      refine pz_callS (nA := 1) (As := [.int r_5]) (rest := []) (wr := [(h0, .inr (4, [.ref ht, .int en, .int tk, .int (nI k_2), .int (nI k_2), .int nu])), (ht, .inr (6, [.ref hb, .int ts])), (hb, .inl (g.2.1 0, 400, .inl byt))]) F (ctX5_isDigit _ g r_5) pw_285 pw_286 pw_4 pw_287 (by decide +kernel) (by decide) (by decide) rfl rfl (Nat.le_of_ble_eq_true rfl) [] [0, 1, 2] rfl rfl rfl rfl (by decide) dX5_advance_54 (fun r0 w0 hp0 => ?_)
      obtain ⟨r_11, _, rfl, rfl, hq_12⟩ := hp0
      replace vc := vc r_11  hq_12
      refine pz_eq (st' := [.int r_11]) (ws' := [(h0, .inr (4, [.ref ht, .int en, .int tk, .int (nI k_2), .int (nI k_2), .int nu])), (ht, .inr (6, [.ref hb, .int ts])), (hb, .inl (g.2.1 0, 400, .inl byt))]) rfl rfl ?_
      refine pz_if_eq (tgt := 72) F dX5_advance_57 (by decide) (fun q_13 => ?_) (fun q_13 => ?_)
      · replace vc := vc.1 q_13
        refine pz_aload_n 1 F rfl dX5_advance_72 rfl ?_
        refine pz_iload_n 0 F rfl dX5_advance_73 rfl ?_
        refine pz_bipush (v := 59) F dX5_advance_74 rfl ?_
        refine pz_icmp_ne (tgt := 83) F dX5_advance_76 (by decide) (fun q_14 => ?_) (fun q_14 => ?_)
        · replace vc := vc.1 q_14
          refine pz_iconst (v := 4) F dX5_advance_83 rfl ?_
          refine pz_put (ws' := [(h0, .inr (4, [.ref ht, .int en, .int 4, .int (nI k_2), .int (nI k_2), .int nu])), (ht, .inr (6, [.ref hb, .int ts])), (hb, .inl (g.2.1 0, 400, .inl byt))]) (ci := 4) (C := RX5) (T := TX5) (N := 6) (v := .int 4) (ty := .int) 0 F rfl rfl pz_inX5 2 (by decide) pw_63 tyX5_ok nmX5 rfl rfl rfl rfl (Nat.le_of_ble_eq_true rfl) dX5_advance_84 rfl ?_
          refine pz_aload_n 1 F rfl dX5_advance_87 rfl ?_
          refine pz_dup F dX5_advance_88 rfl ?_
          refine pz_get (ci := 4) (C := RX5) (T := TX5) (N := 6) (v := .int (nI k_2)) 0 F rfl rfl pz_inX5 4 (by decide) pw_66 rfl dX5_advance_89 ?_
          refine pz_iconst (v := 1) F dX5_advance_92 rfl ?_
          refine pz_iadd F dX5_advance_93 ?_
          refine pz_topi (fun x_15 ex_15 => ?_)
          replace vc := vc x_15 ex_15
          refine pz_put (ws' := [(h0, .inr (4, [.ref ht, .int en, .int 4, .int (nI k_2), .int x_15, .int nu])), (ht, .inr (6, [.ref hb, .int ts])), (hb, .inl (g.2.1 0, 400, .inl byt))]) (ci := 4) (C := RX5) (T := TX5) (N := 6) (v := .int x_15) (ty := .int) 0 F rfl rfl pz_inX5 4 (by decide) pw_66 tyX5_ok nmX5 rfl rfl rfl rfl (Nat.le_of_ble_eq_true rfl) dX5_advance_94 rfl ?_
          exact pz_return (w1 := [(h0, .inr (4, [.ref ht, .int en, .int 4, .int (nI k_2), .int x_15, .int nu])), (ht, .inr (6, [.ref hb, .int ts])), (hb, .inl (g.2.1 0, 400, .inl byt))]) F Rt (by decide) (by decide) dX5_advance_97 [0, 1, 2] rfl rfl vc
        · replace vc := vc.2 q_14
          refine pz_iconst (v := 3) F dX5_advance_79 rfl ?_
          refine pz_goto (tgt := 84) F dX5_advance_80 (by decide) ?_
          refine pz_put (ws' := [(h0, .inr (4, [.ref ht, .int en, .int 3, .int (nI k_2), .int (nI k_2), .int nu])), (ht, .inr (6, [.ref hb, .int ts])), (hb, .inl (g.2.1 0, 400, .inl byt))]) (ci := 4) (C := RX5) (T := TX5) (N := 6) (v := .int 3) (ty := .int) 0 F rfl rfl pz_inX5 2 (by decide) pw_63 tyX5_ok nmX5 rfl rfl rfl rfl (Nat.le_of_ble_eq_true rfl) dX5_advance_84 rfl ?_
          refine pz_aload_n 1 F rfl dX5_advance_87 rfl ?_
          refine pz_dup F dX5_advance_88 rfl ?_
          refine pz_get (ci := 4) (C := RX5) (T := TX5) (N := 6) (v := .int (nI k_2)) 0 F rfl rfl pz_inX5 4 (by decide) pw_66 rfl dX5_advance_89 ?_
          refine pz_iconst (v := 1) F dX5_advance_92 rfl ?_
          refine pz_iadd F dX5_advance_93 ?_
          refine pz_topi (fun x_16 ex_16 => ?_)
          replace vc := vc x_16 ex_16
          refine pz_put (ws' := [(h0, .inr (4, [.ref ht, .int en, .int 3, .int (nI k_2), .int x_16, .int nu])), (ht, .inr (6, [.ref hb, .int ts])), (hb, .inl (g.2.1 0, 400, .inl byt))]) (ci := 4) (C := RX5) (T := TX5) (N := 6) (v := .int x_16) (ty := .int) 0 F rfl rfl pz_inX5 4 (by decide) pw_66 tyX5_ok nmX5 rfl rfl rfl rfl (Nat.le_of_ble_eq_true rfl) dX5_advance_94 rfl ?_
          exact pz_return (w1 := [(h0, .inr (4, [.ref ht, .int en, .int 3, .int (nI k_2), .int x_16, .int nu])), (ht, .inr (6, [.ref hb, .int ts])), (hb, .inl (g.2.1 0, 400, .inl byt))]) F Rt (by decide) (by decide) dX5_advance_97 [0, 1, 2] rfl rfl vc
      · replace vc := vc.2 q_13
        refine pz_aload_n 1 F rfl dX5_advance_60 rfl ?_
        refine pz_iconst (v := 2) F dX5_advance_61 rfl ?_
        refine pz_put (ws' := [(h0, .inr (4, [.ref ht, .int en, .int 2, .int (nI k_2), .int (nI k_2), .int nu])), (ht, .inr (6, [.ref hb, .int ts])), (hb, .inl (g.2.1 0, 400, .inl byt))]) (ci := 4) (C := RX5) (T := TX5) (N := 6) (v := .int 2) (ty := .int) 0 F rfl rfl pz_inX5 2 (by decide) pw_63 tyX5_ok nmX5 rfl rfl rfl rfl (Nat.le_of_ble_eq_true rfl) dX5_advance_62 rfl ?_
        refine pz_aload_n 1 F rfl dX5_advance_65 rfl ?_
        obtain ⟨h_17, vc⟩ := vc
        refine pz_callV (nA := 0) (ci := 4) (C := RX5) (T := TX5) (N := 6) (As := []) (rest := []) (wr := []) F (ctX5_passDigits _ g h0 ht en 2 (nI k_2) (nI k_2) nu hb ts byt k_2 e h_17) 0 rfl rfl pw_288 pw_290 pv_4 pw_4 pw_291 (by decide +kernel) (by decide) (by decide) rfl rfl (Nat.le_of_ble_eq_true rfl) [0, 1, 2] [] rfl rfl rfl rfl (by decide) dX5_advance_66 (fun r0 w0 hp0 => ?_)
        obtain ⟨⟨k_18, nu2_19⟩, rfl, rfl, hq_20⟩ := hp0
        replace vc := vc k_18 nu2_19 hq_20
        refine pz_eq (st' := []) (ws' := [(h0, .inr (4, [.ref ht, .int en, .int 2, .int (nI k_2), .int (nI k_18), .int nu2_19])), (ht, .inr (6, [.ref hb, .int ts])), (hb, .inl (g.2.1 0, 400, .inl byt))]) rfl rfl ?_
        refine pz_goto (tgt := 97) F dX5_advance_69 (by decide) ?_
        exact pz_return (w1 := [(h0, .inr (4, [.ref ht, .int en, .int 2, .int (nI k_2), .int (nI k_18), .int nu2_19])), (ht, .inr (6, [.ref hb, .int ts])), (hb, .inl (g.2.1 0, 400, .inl byt))]) F Rt (by decide) (by decide) dX5_advance_97 [0, 1, 2] rfl rfl vc
    · replace vc := vc.2 q_10
      refine pz_aload_n 1 F rfl dX5_advance_41 rfl ?_
      refine pz_iconst (v := 1) F dX5_advance_42 rfl ?_
      refine pz_put (ws' := [(h0, .inr (4, [.ref ht, .int en, .int 1, .int (nI k_2), .int (nI k_2), .int nu])), (ht, .inr (6, [.ref hb, .int ts])), (hb, .inl (g.2.1 0, 400, .inl byt))]) (ci := 4) (C := RX5) (T := TX5) (N := 6) (v := .int 1) (ty := .int) 0 F rfl rfl pz_inX5 2 (by decide) pw_63 tyX5_ok nmX5 rfl rfl rfl rfl (Nat.le_of_ble_eq_true rfl) dX5_advance_43 rfl ?_
      refine pz_aload_n 1 F rfl dX5_advance_46 rfl ?_
      obtain ⟨h_21, vc⟩ := vc
      refine pz_callV (nA := 0) (ci := 4) (C := RX5) (T := TX5) (N := 6) (As := []) (rest := []) (wr := []) F (ctX5_passLetters _ g h0 ht en 1 (nI k_2) (nI k_2) nu hb ts byt k_2 e h_21) 0 rfl rfl pw_281 pw_283 pv_3 pw_4 pw_284 (by decide +kernel) (by decide) (by decide) rfl rfl (Nat.le_of_ble_eq_true rfl) [0, 1, 2] [] rfl rfl rfl rfl (by decide) dX5_advance_47 (fun r0 w0 hp0 => ?_)
      obtain ⟨k_22, rfl, rfl, hq_23⟩ := hp0
      replace vc := vc k_22 hq_23
      refine pz_eq (st' := []) (ws' := [(h0, .inr (4, [.ref ht, .int en, .int 1, .int (nI k_2), .int (nI k_22), .int nu])), (ht, .inr (6, [.ref hb, .int ts])), (hb, .inl (g.2.1 0, 400, .inl byt))]) rfl rfl ?_
      refine pz_goto (tgt := 97) F dX5_advance_50 (by decide) ?_
      exact pz_return (w1 := [(h0, .inr (4, [.ref ht, .int en, .int 1, .int (nI k_2), .int (nI k_22), .int nu])), (ht, .inr (6, [.ref hb, .int ts])), (hb, .inl (g.2.1 0, 400, .inl byt))]) F Rt (by decide) (by decide) dX5_advance_97 [0, 1, 2] rfl rfl vc
  · replace vc := vc.2 q_7
    refine pz_aload_n 1 F rfl dX5_advance_26 rfl ?_
    refine pz_iconst (v := 0) F dX5_advance_27 rfl ?_
    refine pz_put (ws' := [(h0, .inr (4, [.ref ht, .int en, .int 0, .int (nI k_2), .int (nI k_2), .int nu])), (ht, .inr (6, [.ref hb, .int ts])), (hb, .inl (g.2.1 0, 400, .inl byt))]) (ci := 4) (C := RX5) (T := TX5) (N := 6) (v := .int 0) (ty := .int) 0 F rfl rfl pz_inX5 2 (by decide) pw_63 tyX5_ok nmX5 rfl rfl rfl rfl (Nat.le_of_ble_eq_true rfl) dX5_advance_28 rfl ?_
    refine pz_goto (tgt := 97) F dX5_advance_31 (by decide) ?_
    exact pz_return (w1 := [(h0, .inr (4, [.ref ht, .int en, .int 0, .int (nI k_2), .int (nI k_2), .int nu])), (ht, .inr (6, [.ref hb, .int ts])), (hb, .inl (g.2.1 0, 400, .inl byt))]) F Rt (by decide) (by decide) dX5_advance_97 [0, 1, 2] rfl rfl vc
set_option maxHeartbeats 4000000 in
set_option maxRecDepth 100000 in
theorem ctX5_advance (l : Launch) (g : pz_G) (h0 : Nat) (ht : Nat) (en : Int32) (tk : Int32) (sa : Int32) (bh : Int32) (nu : Int32) (hb : Nat) (ts : Int32) (byt : Nat → Int32) (j : Nat) (e : Nat) (hpre : j ≤ e ∧ e ≤ 400 ∧ bh = nI j ∧ en = nI e) : pz_Ct l g yX5_advance cX5_advance 2 none rmX5_advance [.ref h0] [(h0, .inr (4, [.ref ht, .int en, .int tk, .int sa, .int bh, .int nu])), (ht, .inr (6, [.ref hb, .int ts])), (hb, .inl (g.2.1 0, 400, .inl byt))] (pz_pv (fun (u : Int32 × Int32) => u.1 = tk_k (pu_cs byt e) e j ∧ u.2 = if u.1 = 2 then tk_n (pu_cs byt e) e j else nu) (fun (u : Int32 × Int32) => [(h0, .inr (4, [.ref ht, .int en, .int u.1, .int (nI (tk_s (pu_cs byt e) e j)), .int (nI (tk_e (pu_cs byt e) e j)), .int u.2])), (ht, .inr (6, [.ref hb, .int ts])), (hb, .inl (g.2.1 0, 400, .inl byt))])) := by
  refine pz_ofAt (by decide +kernel) (Nat.le_of_ble_eq_true rfl) (fun B F Rt hme => ?_)
  obtain ⟨hj, he, h1, h2⟩ := hpre
  subst h1; subst h2
  refine sgX5_advance_0 F Rt h0 ht (nI e) tk sa (nI j) nu hb ts byt j e ?_
  refine ⟨⟨hj, he, rfl, rfl⟩, fun s hs => ?_⟩
  have es : s = tk_s (pu_cs byt e) e j := pu_sc_of hs
  have hs1 := tk_s_in (c := pu_cs byt e) hj
  subst es
  refine ⟨⟨by omega, he, rfl, rfl⟩, fun r hr => ⟨fun q => ?_, fun q => ?_⟩⟩
  · have h3 : tk_s (pu_cs byt e) e j < e := by
      rcases Nat.lt_or_ge (tk_s (pu_cs byt e) e j) e with h3 | h3
      · exact h3
      · exact absurd (by rw [hr, pu_cs_out (by omega)]) q
    refine fun r2 hr2 => ⟨fun q2 => ?_, fun q2 => ?_⟩
    · have h4 : pu_le (pu_cs byt e (tk_s (pu_cs byt e) e j)) = false := by
        cases hc : pu_le (pu_cs byt e (tk_s (pu_cs byt e) e j))
        · rfl
        · rw [hr2, hr, hc] at q2
          exact absurd q2 (by decide)
      refine fun r3 hr3 => ⟨fun q3 => ?_, fun q3 => ?_⟩
      · have h5 : pu_di (pu_cs byt e (tk_s (pu_cs byt e) e j)) = false := by
          cases hc : pu_di (pu_cs byt e (tk_s (pu_cs byt e) e j))
          · rfl
          · rw [hr3, hr, hc] at q3
            exact absurd q3 (by decide)
        have ee : tk_e (pu_cs byt e) e j = tk_s (pu_cs byt e) e j + 1 := by
          unfold tk_e
          rw [if_pos h3, if_neg (by rw [h4]; decide), if_neg (by rw [h5]; decide)]
        refine ⟨fun q4 => ?_, fun q4 => ?_⟩
        · rintro x rfl
          have ek : tk_k (pu_cs byt e) e j = 4 := by
            unfold tk_k
            rw [if_pos h3, if_neg (by rw [h4]; decide), if_neg (by rw [h5]; decide), if_neg (by rw [← hr]; exact q4)]
          refine ⟨(4, nu), rfl, by rw [ee, nI_1], ek.symm, ?_⟩
          show nu = _
          rw [if_neg (by show ¬ (4 : Int32) = 2; decide)]
        · rintro x rfl
          have ek : tk_k (pu_cs byt e) e j = 3 := by
            unfold tk_k
            rw [if_pos h3, if_neg (by rw [h4]; decide), if_neg (by rw [h5]; decide), if_pos (by rw [← hr]; exact q4)]
          refine ⟨(3, nu), rfl, by rw [ee, nI_1], ek.symm, ?_⟩
          show nu = _
          rw [if_neg (by show ¬ (3 : Int32) = 2; decide)]
      · have h5 : pu_di (pu_cs byt e (tk_s (pu_cs byt e) e j)) = true := by
          cases hc : pu_di (pu_cs byt e (tk_s (pu_cs byt e) e j))
          · rw [hr3, hr, hc] at q3
            exact absurd rfl q3
          · rfl
        refine ⟨⟨hs1.2, he, rfl, rfl⟩, fun k2 nu2 hk2 => ?_⟩
        have ee : tk_e (pu_cs byt e) e j = k2 := by
          unfold tk_e
          rw [if_pos h3, if_neg (by rw [h4]; decide), if_pos h5]
          exact (pu_sc_of hk2.1).symm
        have ek : tk_k (pu_cs byt e) e j = 2 := by
          unfold tk_k
          rw [if_pos h3, if_neg (by rw [h4]; decide), if_pos h5]
        refine ⟨(2, nu2), rfl, by rw [ee], ek.symm, ?_⟩
        show nu2 = _
        rw [if_pos rfl, tk_n, ee]
        exact hk2.2
    · have h4 : pu_le (pu_cs byt e (tk_s (pu_cs byt e) e j)) = true := by
        cases hc : pu_le (pu_cs byt e (tk_s (pu_cs byt e) e j))
        · rw [hr2, hr, hc] at q2
          exact absurd rfl q2
        · rfl
      refine ⟨⟨hs1.2, he, rfl, rfl⟩, fun k2 hk2 => ?_⟩
      have ee : tk_e (pu_cs byt e) e j = k2 := by
        unfold tk_e
        rw [if_pos h3, if_pos h4]
        exact (pu_sc_of hk2).symm
      have ek : tk_k (pu_cs byt e) e j = 1 := by
        unfold tk_k
        rw [if_pos h3, if_pos h4]
      refine ⟨(1, nu), rfl, by rw [ee], ek.symm, ?_⟩
      show nu = _
      rw [if_neg (by show ¬ (1 : Int32) = 2; decide)]
  · have h3 : ¬ tk_s (pu_cs byt e) e j < e := fun h3 => pu_cs_nn (byt := byt) h3 (by rw [← hr]; exact q)
    have ee : tk_e (pu_cs byt e) e j = tk_s (pu_cs byt e) e j := by
      unfold tk_e
      rw [if_neg h3]
    have ek : tk_k (pu_cs byt e) e j = 0 := by
      unfold tk_k
      rw [if_neg h3]
    refine ⟨(0, nu), rfl, by rw [ee], ek.symm, ?_⟩
    show nu = _
    rw [if_neg (by show ¬ (0 : Int32) = 2; decide)]
