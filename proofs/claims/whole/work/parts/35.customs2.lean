
abbrev rmX2_readLine : Room := { frames := 6, cells := 0, slots := 0, locals := 131 }
abbrev paX2_readLine_54 (B : pz_B) (g : pz_G) (h0 : Nat) (hr : Nat) (hi : Nat) (hd : Nat) (ho : Nat) (ff : Int32) (fp : Int32) (ht : Nat) (en : Int32) (tk : Int32) (sa : Int32) (bh : Int32) (nu : Int32) (hb : Nat) (ts : Int32) (byt : Nat → Int32) (dr : Nat → Int32) (to : Nat → Int32) (j : Nat) (e : Nat) (w : Nat) (sl : Int32) (tk1 : Int32) (sa1 : Int32) (bh1 : Int32) (nu1 : Int32) (ff1 : Int32) (fp1 : Int32) : Prop := pz_At B 0 0 54 [(0, .ref h0), (1, .ref (g.2.2 w)), (2, .int sl)] [] [(h0, .inr (2, [.ref hr, .ref hi, .ref hd, .ref ho, .int ff1, .int fp1])), (hr, .inr (4, [.ref ht, .int en, .int tk1, .int sa1, .int bh1, .int nu1])), (ht, .inr (6, [.ref hb, .int ts])), (hb, .inl (g.2.1 0, 400, .inl byt)), (hd, .inl (g.2.1 1, 12, .inl dr)), (ho, .inl (g.2.1 3, 12, .inl to))]
set_option maxHeartbeats 4000000 in
set_option maxRecDepth 100000 in
theorem sgX2_readLine_0 {B : pz_B} {g : pz_G} {wc : va_W} {Post : Option Value → va_W → Prop} (F : pz_F B cX2_readLine 3 (some .boolean) yX2_readLine.cls g rmX2_readLine) (Rt : pz_Rt B g wc Post rmX2_readLine) (h0 : Nat) (hr : Nat) (hi : Nat) (hd : Nat) (ho : Nat) (ff : Int32) (fp : Int32) (ht : Nat) (en : Int32) (tk : Int32) (sa : Int32) (bh : Int32) (nu : Int32) (hb : Nat) (ts : Int32) (byt : Nat → Int32) (dr : Nat → Int32) (to : Nat → Int32) (j : Nat) (e : Nat) (T54 : Nat → Int32 → Int32 → Int32 → Int32 → Int32 → Int32 → Int32 → Prop) (hT54 : ∀ (w : Nat) (sl : Int32) (tk1 : Int32) (sa1 : Int32) (bh1 : Int32) (nu1 : Int32) (ff1 : Int32) (fp1 : Int32), T54 w sl tk1 sa1 bh1 nu1 ff1 fp1 → paX2_readLine_54 B g h0 hr hi hd ho ff fp ht en tk sa bh nu hb ts byt dr to j e w sl tk1 sa1 bh1 nu1 ff1 fp1)  (vc : ∃ j_1 : Nat, (j_1 ≤ e ∧ e ≤ 400 ∧ tk = tk_k (pu_cs byt e) e j_1 ∧ sa = nI (tk_s (pu_cs byt e) e j_1) ∧ bh = nI (tk_e (pu_cs byt e) e j_1) ∧ en = nI e) ∧ ∀ r_3 : Option Nat, ∀ _ : (r_3 = tk_l (pu_cs byt e) e j_1), ((r_3 = none → ∀ r_6 : Int32, ∀ _ : (r_6 = 0), narrow .boolean (.int r_6) = .int r_6 ∧ Post (some (.int r_6)) [(h0, .inr (2, [.ref hr, .ref hi, .ref hd, .ref ho, .int 1, .int sa])), (hr, .inr (4, [.ref ht, .int en, .int tk, .int sa, .int bh, .int nu])), (ht, .inr (6, [.ref hb, .int ts])), (hb, .inl (g.2.1 0, 400, .inl byt)), (hd, .inl (g.2.1 1, 12, .inl dr)), (ho, .inl (g.2.1 3, 12, .inl to))]) ∧ (∀ b_5 : Nat, r_3 = some b_5 → b_5 < 9 ∧ ∀ x_10 : Int32, x_10 = (pz_sl b_5) → b_5 < 9 ∧ ((¬ b_5 = 8 → T54 b_5 x_10 tk sa bh nu ff fp) ∧ (b_5 = 8 → ∃ j_13 : Nat, (j_13 ≤ e ∧ e ≤ 400 ∧ bh = nI j_13 ∧ en = nI e) ∧ ∀ tk2_15 : Int32, ∀ nu2_16 : Int32, ∀ _ : (tk2_15 = tk_k (pu_cs byt e) e j_13 ∧ nu2_16 = if tk2_15 = 2 then tk_n (pu_cs byt e) e j_13 else nu), ∀ r_20 : Int32, ∀ ff2_18 : Int32, ∀ fp2_19 : Int32, ∀ _ : ((tk2_15 = 2 ∧ nu2_16 ≤ 3 ∧ r_20 = 1 ∧ ff2_18 = ff ∧ fp2_19 = fp) ∨ (tk2_15 = 2 ∧ ¬ nu2_16 ≤ 3 ∧ r_20 = 0 ∧ ff2_18 = 2 ∧ fp2_19 = (nI (tk_s (pu_cs byt e) e j_13))) ∨ (¬ tk2_15 = 2 ∧ r_20 = 0 ∧ ff2_18 = 1 ∧ fp2_19 = (nI (tk_s (pu_cs byt e) e j_13)))), ((¬ r_20 = 0 → ∀ x_23 : Int32, x_23 = (x_10 + nu2_16) → T54 b_5 x_23 tk2_15 (nI (tk_s (pu_cs byt e) e j_13)) (nI (tk_e (pu_cs byt e) e j_13)) nu2_16 ff2_18 fp2_19) ∧ (r_20 = 0 → Post (some (.int 0)) [(h0, .inr (2, [.ref hr, .ref hi, .ref hd, .ref ho, .int ff2_18, .int fp2_19])), (hr, .inr (4, [.ref ht, .int en, .int tk2_15, .int (nI (tk_s (pu_cs byt e) e j_13)), .int (nI (tk_e (pu_cs byt e) e j_13)), .int nu2_16])), (ht, .inr (6, [.ref hb, .int ts])), (hb, .inl (g.2.1 0, 400, .inl byt)), (hd, .inl (g.2.1 1, 12, .inl dr)), (ho, .inl (g.2.1 3, 12, .inl to))]))))))) : pz_At B 0 0 0 [(0, .ref h0)] [] [(h0, .inr (2, [.ref hr, .ref hi, .ref hd, .ref ho, .int ff, .int fp])), (hr, .inr (4, [.ref ht, .int en, .int tk, .int sa, .int bh, .int nu])), (ht, .inr (6, [.ref hb, .int ts])), (hb, .inl (g.2.1 0, 400, .inl byt)), (hd, .inl (g.2.1 1, 12, .inl dr)), (ho, .inl (g.2.1 3, 12, .inl to))] := by
  refine pz_aload_n 0 F rfl dX2_readLine_0 rfl ?_
  obtain ⟨j_1, vc⟩ := vc
  obtain ⟨h_2, vc⟩ := vc
  refine pz_callV (nA := 0) (ci := 2) (C := RX2) (T := TX2) (N := 6) (As := []) (rest := []) (wr := [(hd, .inl (g.2.1 1, 12, .inl dr)), (ho, .inl (g.2.1 3, 12, .inl to))]) F (ctX2_lineHere _ g h0 hr hi hd ho ff fp ht en tk sa bh nu hb ts byt j_1 e h_2) 0 rfl rfl pw_300 pw_302 pv_6 pw_3 pw_303 (by decide +kernel) (by decide) (by decide) rfl rfl (Nat.le_of_ble_eq_true rfl) [0, 1, 2, 3] [4, 5] rfl rfl rfl rfl (by decide) dX2_readLine_1 (fun r0 w0 hp0 => ?_)
  obtain ⟨r_3, _, rfl, rfl, hq_4⟩ := hp0
  replace vc := vc r_3  hq_4
  refine pz_eq (st' := [pz_rl g r_3]) (ws' := [(hd, .inl (g.2.1 1, 12, .inl dr)), (ho, .inl (g.2.1 3, 12, .inl to)), (h0, .inr (2, [.ref hr, .ref hi, .ref hd, .ref ho, .int ff, .int fp])), (hr, .inr (4, [.ref ht, .int en, .int tk, .int sa, .int bh, .int nu])), (ht, .inr (6, [.ref hb, .int ts])), (hb, .inl (g.2.1 0, 400, .inl byt))]) rfl rfl ?_
  rcases r_3 with _ | b_5
  · replace vc := vc.1 rfl
    show pz_At B 0 0 4 [(0, .ref h0)] [.null] [(hd, .inl (g.2.1 1, 12, .inl dr)), (ho, .inl (g.2.1 3, 12, .inl to)), (h0, .inr (2, [.ref hr, .ref hi, .ref hd, .ref ho, .int ff, .int fp])), (hr, .inr (4, [.ref ht, .int en, .int tk, .int sa, .int bh, .int nu])), (ht, .inr (6, [.ref hb, .int ts])), (hb, .inl (g.2.1 0, 400, .inl byt))]
    refine pz_astore_nN (lv' := [(1, .null), (0, .ref h0)]) F dX2_readLine_4 rfl (by decide) rfl ?_
    refine pz_aload_nN 0 F rfl dX2_readLine_5 rfl ?_
    refine pz_ifnonnullN F dX2_readLine_6 ?_
    refine pz_aload_n 1 F rfl dX2_readLine_9 rfl ?_
    refine pz_iconst (v := 1) F dX2_readLine_10 rfl ?_
    refine pz_callV (nA := 1) (ci := 2) (C := RX2) (T := TX2) (N := 6) (As := [.int 1]) (rest := []) (wr := [(hd, .inl (g.2.1 1, 12, .inl dr)), (ho, .inl (g.2.1 3, 12, .inl to)), (ht, .inr (6, [.ref hb, .int ts])), (hb, .inl (g.2.1 0, 400, .inl byt))]) F (ctX2_blame _ g h0 1 hr hi hd ho ff fp ht en tk sa bh nu) 2 rfl rfl pw_358 pw_360 pv_7 pw_3 pw_361 (by decide +kernel) (by decide) (by decide) rfl rfl (Nat.le_of_ble_eq_true rfl) [2, 3] [0, 1, 4, 5] rfl rfl rfl rfl (by decide) dX2_readLine_11 (fun r0 w0 hp0 => ?_)
    obtain ⟨r_6, _, rfl, rfl, hq_7⟩ := hp0
    replace vc := vc r_6  hq_7
    refine pz_eq (st' := [.int r_6]) (ws' := [(hd, .inl (g.2.1 1, 12, .inl dr)), (ho, .inl (g.2.1 3, 12, .inl to)), (ht, .inr (6, [.ref hb, .int ts])), (hb, .inl (g.2.1 0, 400, .inl byt)), (h0, .inr (2, [.ref hr, .ref hi, .ref hd, .ref ho, .int 1, .int sa])), (hr, .inr (4, [.ref ht, .int en, .int tk, .int sa, .int bh, .int nu]))]) rfl rfl ?_
    obtain ⟨h_8, vc⟩ := vc
    exact pz_ireturn (w1 := [(h0, .inr (2, [.ref hr, .ref hi, .ref hd, .ref ho, .int 1, .int sa])), (hr, .inr (4, [.ref ht, .int en, .int tk, .int sa, .int bh, .int nu])), (ht, .inr (6, [.ref hb, .int ts])), (hb, .inl (g.2.1 0, 400, .inl byt)), (hd, .inl (g.2.1 1, 12, .inl dr)), (ho, .inl (g.2.1 3, 12, .inl to))]) F Rt (by decide) (by decide) dX2_readLine_14 [4, 5, 2, 3, 0, 1] rfl rfl h_8 vc
  · replace vc := vc.2 b_5 rfl
    show pz_At B 0 0 4 [(0, .ref h0)] [.ref (g.2.2 b_5)] [(hd, .inl (g.2.1 1, 12, .inl dr)), (ho, .inl (g.2.1 3, 12, .inl to)), (h0, .inr (2, [.ref hr, .ref hi, .ref hd, .ref ho, .int ff, .int fp])), (hr, .inr (4, [.ref ht, .int en, .int tk, .int sa, .int bh, .int nu])), (ht, .inr (6, [.ref hb, .int ts])), (hb, .inl (g.2.1 0, 400, .inl byt))]
    refine pz_astore_n (lv' := [(1, .ref (g.2.2 b_5)), (0, .ref h0)]) F dX2_readLine_4 rfl (by decide) rfl ?_
    refine pz_aload_n 0 F rfl dX2_readLine_5 rfl ?_
    refine pz_ifnonnull (tgt := 15) F dX2_readLine_6 (by decide) ?_
    refine pz_aload_n 0 F rfl dX2_readLine_15 rfl ?_
    obtain ⟨h_9, vc⟩ := vc
    refine pz_getO F (pz_lineS F (i := b_5) h_9) pw_1153 dX2_readLine_16 ?_
    show pz_At B 0 0 19 [(1, .ref (g.2.2 b_5)), (0, .ref h0)] [.int (pz_sl b_5)] [(hd, .inl (g.2.1 1, 12, .inl dr)), (ho, .inl (g.2.1 3, 12, .inl to)), (h0, .inr (2, [.ref hr, .ref hi, .ref hd, .ref ho, .int ff, .int fp])), (hr, .inr (4, [.ref ht, .int en, .int tk, .int sa, .int bh, .int nu])), (ht, .inr (6, [.ref hb, .int ts])), (hb, .inl (g.2.1 0, 400, .inl byt))]
    refine pz_topi (fun x_10 ex_10 => ?_)
    replace vc := vc x_10 ex_10
    refine pz_istore_n (lv' := [(2, .int x_10), (1, .ref (g.2.2 b_5)), (0, .ref h0)]) F dX2_readLine_19 rfl (by decide) rfl ?_
    refine pz_aload_n 1 F rfl dX2_readLine_20 rfl ?_
    refine pz_gets F (pz_line F (i := 8) (by decide)) pw_362 dX2_readLine_21 ?_
    obtain ⟨h_11, vc⟩ := vc
    refine pz_acmpL (i := b_5) (j := 8) (tgt := 54) F h_11 (by decide) dX2_readLine_24 (by decide) (fun q_12 => ?_) (fun q_12 => ?_)
    · replace vc := vc.1 q_12
      exact pz_sub [2, 1, 0] [2, 3, 4, 5, 0, 1] rfl rfl rfl (hT54 b_5 x_10 tk sa bh nu ff fp vc)
    · replace vc := vc.2 q_12
      refine pz_aload_n 2 F rfl dX2_readLine_27 rfl ?_
      refine pz_get (ci := 2) (C := RX2) (T := TX2) (N := 6) (v := .ref hr) 2 F rfl rfl pz_inX2 0 (by decide) pw_82 rfl dX2_readLine_28 ?_
      obtain ⟨j_13, vc⟩ := vc
      obtain ⟨h_14, vc⟩ := vc
      refine pz_callV (nA := 0) (ci := 4) (C := RX5) (T := TX5) (N := 6) (As := []) (rest := []) (wr := [(hd, .inl (g.2.1 1, 12, .inl dr)), (ho, .inl (g.2.1 3, 12, .inl to)), (h0, .inr (2, [.ref hr, .ref hi, .ref hd, .ref ho, .int ff, .int fp]))]) F (ctX5_advance _ g hr ht en tk sa bh nu hb ts byt j_13 e h_14) 3 rfl rfl pw_364 pw_264 pw_265 pw_4 pw_266 (by decide +kernel) (by decide) (by decide) rfl rfl (Nat.le_of_ble_eq_true rfl) [3, 4, 5] [0, 1, 2] rfl rfl rfl rfl (by decide) dX2_readLine_31 (fun r0 w0 hp0 => ?_)
      obtain ⟨⟨tk2_15, nu2_16⟩, rfl, rfl, hq_17⟩ := hp0
      replace vc := vc tk2_15 nu2_16 hq_17
      refine pz_eq (st' := []) (ws' := [(hd, .inl (g.2.1 1, 12, .inl dr)), (ho, .inl (g.2.1 3, 12, .inl to)), (h0, .inr (2, [.ref hr, .ref hi, .ref hd, .ref ho, .int ff, .int fp])), (hr, .inr (4, [.ref ht, .int en, .int tk2_15, .int (nI (tk_s (pu_cs byt e) e j_13)), .int (nI (tk_e (pu_cs byt e) e j_13)), .int nu2_16])), (ht, .inr (6, [.ref hb, .int ts])), (hb, .inl (g.2.1 0, 400, .inl byt))]) rfl rfl ?_
      refine pz_aload_n 2 F rfl dX2_readLine_34 rfl ?_
      refine pz_iconst (v := 3) F dX2_readLine_35 rfl ?_
      refine pz_callV (nA := 1) (ci := 2) (C := RX2) (T := TX2) (N := 6) (As := [.int 3]) (rest := []) (wr := [(hd, .inl (g.2.1 1, 12, .inl dr)), (ho, .inl (g.2.1 3, 12, .inl to)), (ht, .inr (6, [.ref hb, .int ts])), (hb, .inl (g.2.1 0, 400, .inl byt))]) F (ctX2_isNumberUpTo _ g h0 3 hr hi hd ho ff fp ht en tk2_15 (nI (tk_s (pu_cs byt e) e j_13)) (nI (tk_e (pu_cs byt e) e j_13)) nu2_16) 2 rfl rfl pw_365 pw_367 pv_8 pw_3 pw_368 (by decide +kernel) (by decide) (by decide) rfl rfl (Nat.le_of_ble_eq_true rfl) [2, 3] [0, 1, 4, 5] rfl rfl rfl rfl (by decide) dX2_readLine_36 (fun r0 w0 hp0 => ?_)
      obtain ⟨r_20, ⟨ff2_18, fp2_19⟩, rfl, rfl, hq_21⟩ := hp0
      replace vc := vc r_20 ff2_18 fp2_19 hq_21
      refine pz_eq (st' := [.int r_20]) (ws' := [(hd, .inl (g.2.1 1, 12, .inl dr)), (ho, .inl (g.2.1 3, 12, .inl to)), (ht, .inr (6, [.ref hb, .int ts])), (hb, .inl (g.2.1 0, 400, .inl byt)), (h0, .inr (2, [.ref hr, .ref hi, .ref hd, .ref ho, .int ff2_18, .int fp2_19])), (hr, .inr (4, [.ref ht, .int en, .int tk2_15, .int (nI (tk_s (pu_cs byt e) e j_13)), .int (nI (tk_e (pu_cs byt e) e j_13)), .int nu2_16]))]) rfl rfl ?_
      refine pz_if_ne (tgt := 44) F dX2_readLine_39 (by decide) (fun q_22 => ?_) (fun q_22 => ?_)
      · replace vc := vc.1 q_22
        refine pz_iload_n 0 F rfl dX2_readLine_44 rfl ?_
        refine pz_aload_n 2 F rfl dX2_readLine_45 rfl ?_
        refine pz_get (ci := 2) (C := RX2) (T := TX2) (N := 6) (v := .ref hr) 4 F rfl rfl pz_inX2 0 (by decide) pw_82 rfl dX2_readLine_46 ?_
        refine pz_get (ci := 4) (C := RX5) (T := TX5) (N := 6) (v := .int nu2_16) 5 F rfl rfl pz_inX5 5 (by decide) pw_68 rfl dX2_readLine_49 ?_
        refine pz_iadd F dX2_readLine_52 ?_
        refine pz_topi (fun x_23 ex_23 => ?_)
        replace vc := vc x_23 ex_23
        refine pz_istore_n (lv' := [(2, .int x_23), (1, .ref (g.2.2 b_5)), (0, .ref h0)]) F dX2_readLine_53 rfl (by decide) rfl ?_
        exact pz_sub [2, 1, 0] [4, 5, 2, 3, 0, 1] rfl rfl rfl (hT54 b_5 x_23 tk2_15 (nI (tk_s (pu_cs byt e) e j_13)) (nI (tk_e (pu_cs byt e) e j_13)) nu2_16 ff2_18 fp2_19 vc)
      · replace vc := vc.2 q_22
        refine pz_iconst (v := 0) F dX2_readLine_42 rfl ?_
        exact pz_ireturn (w1 := [(h0, .inr (2, [.ref hr, .ref hi, .ref hd, .ref ho, .int ff2_18, .int fp2_19])), (hr, .inr (4, [.ref ht, .int en, .int tk2_15, .int (nI (tk_s (pu_cs byt e) e j_13)), .int (nI (tk_e (pu_cs byt e) e j_13)), .int nu2_16])), (ht, .inr (6, [.ref hb, .int ts])), (hb, .inl (g.2.1 0, 400, .inl byt)), (hd, .inl (g.2.1 1, 12, .inl dr)), (ho, .inl (g.2.1 3, 12, .inl to))]) F Rt (by decide) (by decide) dX2_readLine_43 [4, 5, 2, 3, 0, 1] rfl rfl rfl vc
set_option maxHeartbeats 4000000 in
set_option maxRecDepth 100000 in
theorem sgX2_readLine_54 {B : pz_B} {g : pz_G} {wc : va_W} {Post : Option Value → va_W → Prop} (F : pz_F B cX2_readLine 3 (some .boolean) yX2_readLine.cls g rmX2_readLine) (Rt : pz_Rt B g wc Post rmX2_readLine) (h0 : Nat) (hr : Nat) (hi : Nat) (hd : Nat) (ho : Nat) (ff : Int32) (fp : Int32) (ht : Nat) (en : Int32) (tk : Int32) (sa : Int32) (bh : Int32) (nu : Int32) (hb : Nat) (ts : Int32) (byt : Nat → Int32) (dr : Nat → Int32) (to : Nat → Int32) (j : Nat) (e : Nat) (w : Nat) (sl : Int32) (tk1 : Int32) (sa1 : Int32) (bh1 : Int32) (nu1 : Int32) (ff1 : Int32) (fp1 : Int32) (vc : vp_in sl 12 ∧ (((to sl.toNatClampNeg) = 0 → vp_in sl 12 ∧ ∀ f_4 : Nat → Int32, f_4 = upd to sl.toNatClampNeg (vp_nar .boolean 1) → ∃ j_5 : Nat, (j_5 ≤ e ∧ e ≤ 400 ∧ bh1 = nI j_5 ∧ en = nI e) ∧ ∀ tk2_7 : Int32, ∀ nu2_8 : Int32, ∀ _ : (tk2_7 = tk_k (pu_cs byt e) e j_5 ∧ nu2_8 = if tk2_7 = 2 then tk_n (pu_cs byt e) e j_5 else nu1), ∃ j_10 : Nat, (w < 9 ∧ vp_in sl 12 ∧ j_10 ≤ e ∧ e ≤ 400 ∧ tk2_7 = tk_k (pu_cs byt e) e j_10 ∧ (tk2_7 = 2 → nu2_8 = tk_n (pu_cs byt e) e j_10) ∧ (nI (tk_s (pu_cs byt e) e j_5)) = nI (tk_s (pu_cs byt e) e j_10) ∧ (nI (tk_e (pu_cs byt e) e j_5)) = nI (tk_e (pu_cs byt e) e j_10) ∧ en = nI e) ∧ ∀ r_15 : Int32, ∀ dr2_12 : Nat → Int32, ∀ ff2_13 : Int32, ∀ fp2_14 : Int32, ∀ _ : ((r_15 = 1 ∧ (pl_say (pu_cs byt e) e j_10 w).1 = 0 ∧ dr2_12 = upd dr sl.toNatClampNeg (pl_say (pu_cs byt e) e j_10 w).2 ∧ ff2_13 = ff1 ∧ fp2_14 = fp1) ∨ (r_15 = 0 ∧ ¬ (pl_say (pu_cs byt e) e j_10 w).1 = 0 ∧ ff2_13 = (pl_say (pu_cs byt e) e j_10 w).1 ∧ fp2_14 = (nI (tk_s (pu_cs byt e) e j_5)))), ((¬ r_15 = 0 → ((tk_e (pu_cs byt e) e j_5) ≤ e ∧ e ≤ 400 ∧ (nI (tk_e (pu_cs byt e) e j_5)) = nI (tk_e (pu_cs byt e) e j_5) ∧ en = nI e) ∧ ∀ tk2_19 : Int32, ∀ nu2_20 : Int32, ∀ _ : (tk2_19 = tk_k (pu_cs byt e) e (tk_e (pu_cs byt e) e j_5) ∧ nu2_20 = if tk2_19 = 2 then tk_n (pu_cs byt e) e (tk_e (pu_cs byt e) e j_5) else nu2_8), ((tk2_19 = 3 → ((tk_e (pu_cs byt e) e (tk_e (pu_cs byt e) e j_5)) ≤ e ∧ e ≤ 400 ∧ (nI (tk_e (pu_cs byt e) e (tk_e (pu_cs byt e) e j_5))) = nI (tk_e (pu_cs byt e) e (tk_e (pu_cs byt e) e j_5)) ∧ en = nI e) ∧ ∀ tk2_24 : Int32, ∀ nu2_25 : Int32, ∀ _ : (tk2_24 = tk_k (pu_cs byt e) e (tk_e (pu_cs byt e) e (tk_e (pu_cs byt e) e j_5)) ∧ nu2_25 = if tk2_24 = 2 then tk_n (pu_cs byt e) e (tk_e (pu_cs byt e) e (tk_e (pu_cs byt e) e j_5)) else nu2_20), Post (some (.int 1)) [(h0, .inr (2, [.ref hr, .ref hi, .ref hd, .ref ho, .int ff2_13, .int fp2_14])), (hr, .inr (4, [.ref ht, .int en, .int tk2_24, .int (nI (tk_s (pu_cs byt e) e (tk_e (pu_cs byt e) e (tk_e (pu_cs byt e) e j_5)))), .int (nI (tk_e (pu_cs byt e) e (tk_e (pu_cs byt e) e (tk_e (pu_cs byt e) e j_5)))), .int nu2_25])), (ht, .inr (6, [.ref hb, .int ts])), (hb, .inl (g.2.1 0, 400, .inl byt)), (hd, .inl (g.2.1 1, 12, .inl dr2_12)), (ho, .inl (g.2.1 3, 12, .inl f_4))]) ∧ (¬ tk2_19 = 3 → ∀ r_27 : Int32, ∀ _ : (r_27 = 0), narrow .boolean (.int r_27) = .int r_27 ∧ Post (some (.int r_27)) [(h0, .inr (2, [.ref hr, .ref hi, .ref hd, .ref ho, .int 1, .int (nI (tk_s (pu_cs byt e) e (tk_e (pu_cs byt e) e j_5)))])), (hr, .inr (4, [.ref ht, .int en, .int tk2_19, .int (nI (tk_s (pu_cs byt e) e (tk_e (pu_cs byt e) e j_5))), .int (nI (tk_e (pu_cs byt e) e (tk_e (pu_cs byt e) e j_5))), .int nu2_20])), (ht, .inr (6, [.ref hb, .int ts])), (hb, .inl (g.2.1 0, 400, .inl byt)), (hd, .inl (g.2.1 1, 12, .inl dr2_12)), (ho, .inl (g.2.1 3, 12, .inl f_4))]))) ∧ (r_15 = 0 → Post (some (.int 0)) [(h0, .inr (2, [.ref hr, .ref hi, .ref hd, .ref ho, .int ff2_13, .int fp2_14])), (hr, .inr (4, [.ref ht, .int en, .int tk2_7, .int (nI (tk_s (pu_cs byt e) e j_5)), .int (nI (tk_e (pu_cs byt e) e j_5)), .int nu2_8])), (ht, .inr (6, [.ref hb, .int ts])), (hb, .inl (g.2.1 0, 400, .inl byt)), (hd, .inl (g.2.1 1, 12, .inl dr2_12)), (ho, .inl (g.2.1 3, 12, .inl f_4))]))) ∧ (¬ (to sl.toNatClampNeg) = 0 → ∀ r_30 : Int32, ∀ _ : (r_30 = 0), narrow .boolean (.int r_30) = .int r_30 ∧ Post (some (.int r_30)) [(h0, .inr (2, [.ref hr, .ref hi, .ref hd, .ref ho, .int 3, .int sa1])), (hr, .inr (4, [.ref ht, .int en, .int tk1, .int sa1, .int bh1, .int nu1])), (ht, .inr (6, [.ref hb, .int ts])), (hb, .inl (g.2.1 0, 400, .inl byt)), (hd, .inl (g.2.1 1, 12, .inl dr)), (ho, .inl (g.2.1 3, 12, .inl to))]))) : pz_At B 0 0 54 [(0, .ref h0), (1, .ref (g.2.2 w)), (2, .int sl)] [] [(h0, .inr (2, [.ref hr, .ref hi, .ref hd, .ref ho, .int ff1, .int fp1])), (hr, .inr (4, [.ref ht, .int en, .int tk1, .int sa1, .int bh1, .int nu1])), (ht, .inr (6, [.ref hb, .int ts])), (hb, .inl (g.2.1 0, 400, .inl byt)), (hd, .inl (g.2.1 1, 12, .inl dr)), (ho, .inl (g.2.1 3, 12, .inl to))] := by
  refine pz_aload_n 0 F rfl dX2_readLine_54 rfl ?_
  refine pz_get (ci := 2) (C := RX2) (T := TX2) (N := 6) (v := .ref ho) 0 F rfl rfl pz_inX2 3 (by decide) pw_85 rfl dX2_readLine_55 ?_
  refine pz_iload_n 2 F rfl dX2_readLine_58 rfl ?_
  obtain ⟨h_1, vc⟩ := vc
  refine pz_zaload 5 F rfl h_1 dX2_readLine_59 ?_
  refine pz_if_eq (tgt := 69) F dX2_readLine_60 (by decide) (fun q_2 => ?_) (fun q_2 => ?_)
  · replace vc := vc.1 q_2
    refine pz_aload_n 0 F rfl dX2_readLine_69 rfl ?_
    refine pz_get (ci := 2) (C := RX2) (T := TX2) (N := 6) (v := .ref ho) 0 F rfl rfl pz_inX2 3 (by decide) pw_85 rfl dX2_readLine_70 ?_
    refine pz_iload_n 2 F rfl dX2_readLine_73 rfl ?_
    refine pz_iconst (v := 1) F dX2_readLine_74 rfl ?_
    obtain ⟨h_3, vc⟩ := vc
    obtain ⟨f_4, ef_4⟩ : ∃ z : Nat → Int32, z = upd to sl.toNatClampNeg (vp_nar .boolean 1) := ⟨_, rfl⟩
    replace vc := vc f_4 ef_4
    refine pz_zastore (ws' := [(h0, .inr (2, [.ref hr, .ref hi, .ref hd, .ref ho, .int ff1, .int fp1])), (hr, .inr (4, [.ref ht, .int en, .int tk1, .int sa1, .int bh1, .int nu1])), (ht, .inr (6, [.ref hb, .int ts])), (hb, .inl (g.2.1 0, 400, .inl byt)), (hd, .inl (g.2.1 1, 12, .inl dr)), (ho, .inl (g.2.1 3, 12, .inl f_4))]) F 5 rfl h_3 dX2_readLine_75 (by rw [ef_4]; rfl) ?_
    refine pz_aload_n 0 F rfl dX2_readLine_76 rfl ?_
    refine pz_get (ci := 2) (C := RX2) (T := TX2) (N := 6) (v := .ref hr) 0 F rfl rfl pz_inX2 0 (by decide) pw_82 rfl dX2_readLine_77 ?_
    obtain ⟨j_5, vc⟩ := vc
    obtain ⟨h_6, vc⟩ := vc
    refine pz_callV (nA := 0) (ci := 4) (C := RX5) (T := TX5) (N := 6) (As := []) (rest := []) (wr := [(h0, .inr (2, [.ref hr, .ref hi, .ref hd, .ref ho, .int ff1, .int fp1])), (hd, .inl (g.2.1 1, 12, .inl dr)), (ho, .inl (g.2.1 3, 12, .inl f_4))]) F (ctX5_advance _ g hr ht en tk1 sa1 bh1 nu1 hb ts byt j_5 e h_6) 1 rfl rfl pw_364 pw_264 pw_265 pw_4 pw_266 (by decide +kernel) (by decide) (by decide) rfl rfl (Nat.le_of_ble_eq_true rfl) [1, 2, 3] [0, 4, 5] rfl rfl rfl rfl (by decide) dX2_readLine_80 (fun r0 w0 hp0 => ?_)
    obtain ⟨⟨tk2_7, nu2_8⟩, rfl, rfl, hq_9⟩ := hp0
    replace vc := vc tk2_7 nu2_8 hq_9
    refine pz_eq (st' := []) (ws' := [(h0, .inr (2, [.ref hr, .ref hi, .ref hd, .ref ho, .int ff1, .int fp1])), (hd, .inl (g.2.1 1, 12, .inl dr)), (ho, .inl (g.2.1 3, 12, .inl f_4)), (hr, .inr (4, [.ref ht, .int en, .int tk2_7, .int (nI (tk_s (pu_cs byt e) e j_5)), .int (nI (tk_e (pu_cs byt e) e j_5)), .int nu2_8])), (ht, .inr (6, [.ref hb, .int ts])), (hb, .inl (g.2.1 0, 400, .inl byt))]) rfl rfl ?_
    refine pz_aload_n 0 F rfl dX2_readLine_83 rfl ?_
    refine pz_aload_n 1 F rfl dX2_readLine_84 rfl ?_
    refine pz_iload_n 2 F rfl dX2_readLine_85 rfl ?_
    obtain ⟨j_10, vc⟩ := vc
    obtain ⟨h_11, vc⟩ := vc
    refine pz_callV (nA := 2) (ci := 2) (C := RX2) (T := TX2) (N := 6) (As := [.ref (g.2.2 w), .int sl]) (rest := []) (wr := [(ho, .inl (g.2.1 3, 12, .inl f_4))]) F (ctX2_keepSaying _ g w sl h0 hr hi hd ho ff1 fp1 ht en tk2_7 (nI (tk_s (pu_cs byt e) e j_5)) (nI (tk_e (pu_cs byt e) e j_5)) nu2_8 hb ts byt dr j_10 e h_11) 0 rfl rfl pw_369 pw_371 pv_9 pw_3 pw_372 (by decide +kernel) (by decide) (by decide) rfl rfl (Nat.le_of_ble_eq_true rfl) [0, 3, 4, 5, 1] [2] rfl rfl rfl rfl (by decide) dX2_readLine_86 (fun r0 w0 hp0 => ?_)
    obtain ⟨r_15, ⟨dr2_12, ff2_13, fp2_14⟩, rfl, rfl, hq_16⟩ := hp0
    replace vc := vc r_15 dr2_12 ff2_13 fp2_14 hq_16
    refine pz_eq (st' := [.int r_15]) (ws' := [(ho, .inl (g.2.1 3, 12, .inl f_4)), (h0, .inr (2, [.ref hr, .ref hi, .ref hd, .ref ho, .int ff2_13, .int fp2_14])), (hr, .inr (4, [.ref ht, .int en, .int tk2_7, .int (nI (tk_s (pu_cs byt e) e j_5)), .int (nI (tk_e (pu_cs byt e) e j_5)), .int nu2_8])), (ht, .inr (6, [.ref hb, .int ts])), (hb, .inl (g.2.1 0, 400, .inl byt)), (hd, .inl (g.2.1 1, 12, .inl dr2_12))]) rfl rfl ?_
    refine pz_if_ne (tgt := 94) F dX2_readLine_89 (by decide) (fun q_17 => ?_) (fun q_17 => ?_)
    · replace vc := vc.1 q_17
      refine pz_aload_n 0 F rfl dX2_readLine_94 rfl ?_
      refine pz_get (ci := 2) (C := RX2) (T := TX2) (N := 6) (v := .ref hr) 1 F rfl rfl pz_inX2 0 (by decide) pw_82 rfl dX2_readLine_95 ?_
      obtain ⟨h_18, vc⟩ := vc
      refine pz_callV (nA := 0) (ci := 4) (C := RX5) (T := TX5) (N := 6) (As := []) (rest := []) (wr := [(ho, .inl (g.2.1 3, 12, .inl f_4)), (h0, .inr (2, [.ref hr, .ref hi, .ref hd, .ref ho, .int ff2_13, .int fp2_14])), (hd, .inl (g.2.1 1, 12, .inl dr2_12))]) F (ctX5_advance _ g hr ht en tk2_7 (nI (tk_s (pu_cs byt e) e j_5)) (nI (tk_e (pu_cs byt e) e j_5)) nu2_8 hb ts byt (tk_e (pu_cs byt e) e j_5) e h_18) 2 rfl rfl pw_364 pw_264 pw_265 pw_4 pw_266 (by decide +kernel) (by decide) (by decide) rfl rfl (Nat.le_of_ble_eq_true rfl) [2, 3, 4] [0, 1, 5] rfl rfl rfl rfl (by decide) dX2_readLine_98 (fun r0 w0 hp0 => ?_)
      obtain ⟨⟨tk2_19, nu2_20⟩, rfl, rfl, hq_21⟩ := hp0
      replace vc := vc tk2_19 nu2_20 hq_21
      refine pz_eq (st' := []) (ws' := [(ho, .inl (g.2.1 3, 12, .inl f_4)), (h0, .inr (2, [.ref hr, .ref hi, .ref hd, .ref ho, .int ff2_13, .int fp2_14])), (hd, .inl (g.2.1 1, 12, .inl dr2_12)), (hr, .inr (4, [.ref ht, .int en, .int tk2_19, .int (nI (tk_s (pu_cs byt e) e (tk_e (pu_cs byt e) e j_5))), .int (nI (tk_e (pu_cs byt e) e (tk_e (pu_cs byt e) e j_5))), .int nu2_20])), (ht, .inr (6, [.ref hb, .int ts])), (hb, .inl (g.2.1 0, 400, .inl byt))]) rfl rfl ?_
      refine pz_aload_n 0 F rfl dX2_readLine_101 rfl ?_
      refine pz_get (ci := 2) (C := RX2) (T := TX2) (N := 6) (v := .ref hr) 1 F rfl rfl pz_inX2 0 (by decide) pw_82 rfl dX2_readLine_102 ?_
      refine pz_get (ci := 4) (C := RX5) (T := TX5) (N := 6) (v := .int tk2_19) 3 F rfl rfl pz_inX5 2 (by decide) pw_62 rfl dX2_readLine_105 ?_
      refine pz_iconst (v := 3) F dX2_readLine_108 rfl ?_
      refine pz_icmp_eq (tgt := 118) F dX2_readLine_109 (by decide) (fun q_22 => ?_) (fun q_22 => ?_)
      · replace vc := vc.1 q_22
        refine pz_aload_n 0 F rfl dX2_readLine_118 rfl ?_
        refine pz_get (ci := 2) (C := RX2) (T := TX2) (N := 6) (v := .ref hr) 1 F rfl rfl pz_inX2 0 (by decide) pw_82 rfl dX2_readLine_119 ?_
        obtain ⟨h_23, vc⟩ := vc
        refine pz_callV (nA := 0) (ci := 4) (C := RX5) (T := TX5) (N := 6) (As := []) (rest := []) (wr := [(ho, .inl (g.2.1 3, 12, .inl f_4)), (h0, .inr (2, [.ref hr, .ref hi, .ref hd, .ref ho, .int ff2_13, .int fp2_14])), (hd, .inl (g.2.1 1, 12, .inl dr2_12))]) F (ctX5_advance _ g hr ht en tk2_19 (nI (tk_s (pu_cs byt e) e (tk_e (pu_cs byt e) e j_5))) (nI (tk_e (pu_cs byt e) e (tk_e (pu_cs byt e) e j_5))) nu2_20 hb ts byt (tk_e (pu_cs byt e) e (tk_e (pu_cs byt e) e j_5)) e h_23) 3 rfl rfl pw_364 pw_264 pw_265 pw_4 pw_266 (by decide +kernel) (by decide) (by decide) rfl rfl (Nat.le_of_ble_eq_true rfl) [3, 4, 5] [0, 1, 2] rfl rfl rfl rfl (by decide) dX2_readLine_122 (fun r0 w0 hp0 => ?_)
        obtain ⟨⟨tk2_24, nu2_25⟩, rfl, rfl, hq_26⟩ := hp0
        replace vc := vc tk2_24 nu2_25 hq_26
        refine pz_eq (st' := []) (ws' := [(ho, .inl (g.2.1 3, 12, .inl f_4)), (h0, .inr (2, [.ref hr, .ref hi, .ref hd, .ref ho, .int ff2_13, .int fp2_14])), (hd, .inl (g.2.1 1, 12, .inl dr2_12)), (hr, .inr (4, [.ref ht, .int en, .int tk2_24, .int (nI (tk_s (pu_cs byt e) e (tk_e (pu_cs byt e) e (tk_e (pu_cs byt e) e j_5)))), .int (nI (tk_e (pu_cs byt e) e (tk_e (pu_cs byt e) e (tk_e (pu_cs byt e) e j_5)))), .int nu2_25])), (ht, .inr (6, [.ref hb, .int ts])), (hb, .inl (g.2.1 0, 400, .inl byt))]) rfl rfl ?_
        refine pz_iconst (v := 1) F dX2_readLine_125 rfl ?_
        exact pz_ireturn (w1 := [(h0, .inr (2, [.ref hr, .ref hi, .ref hd, .ref ho, .int ff2_13, .int fp2_14])), (hr, .inr (4, [.ref ht, .int en, .int tk2_24, .int (nI (tk_s (pu_cs byt e) e (tk_e (pu_cs byt e) e (tk_e (pu_cs byt e) e j_5)))), .int (nI (tk_e (pu_cs byt e) e (tk_e (pu_cs byt e) e (tk_e (pu_cs byt e) e j_5)))), .int nu2_25])), (ht, .inr (6, [.ref hb, .int ts])), (hb, .inl (g.2.1 0, 400, .inl byt)), (hd, .inl (g.2.1 1, 12, .inl dr2_12)), (ho, .inl (g.2.1 3, 12, .inl f_4))]) F Rt (by decide) (by decide) dX2_readLine_126 [1, 3, 4, 5, 2, 0] rfl rfl rfl vc
      · replace vc := vc.2 q_22
        refine pz_aload_n 0 F rfl dX2_readLine_112 rfl ?_
        refine pz_iconst (v := 1) F dX2_readLine_113 rfl ?_
        refine pz_callV (nA := 1) (ci := 2) (C := RX2) (T := TX2) (N := 6) (As := [.int 1]) (rest := []) (wr := [(ho, .inl (g.2.1 3, 12, .inl f_4)), (hd, .inl (g.2.1 1, 12, .inl dr2_12)), (ht, .inr (6, [.ref hb, .int ts])), (hb, .inl (g.2.1 0, 400, .inl byt))]) F (ctX2_blame _ g h0 1 hr hi hd ho ff2_13 fp2_14 ht en tk2_19 (nI (tk_s (pu_cs byt e) e (tk_e (pu_cs byt e) e j_5))) (nI (tk_e (pu_cs byt e) e (tk_e (pu_cs byt e) e j_5))) nu2_20) 1 rfl rfl pw_358 pw_360 pv_7 pw_3 pw_361 (by decide +kernel) (by decide) (by decide) rfl rfl (Nat.le_of_ble_eq_true rfl) [1, 3] [0, 2, 4, 5] rfl rfl rfl rfl (by decide) dX2_readLine_114 (fun r0 w0 hp0 => ?_)
        obtain ⟨r_27, _, rfl, rfl, hq_28⟩ := hp0
        replace vc := vc r_27  hq_28
        refine pz_eq (st' := [.int r_27]) (ws' := [(ho, .inl (g.2.1 3, 12, .inl f_4)), (hd, .inl (g.2.1 1, 12, .inl dr2_12)), (ht, .inr (6, [.ref hb, .int ts])), (hb, .inl (g.2.1 0, 400, .inl byt)), (h0, .inr (2, [.ref hr, .ref hi, .ref hd, .ref ho, .int 1, .int (nI (tk_s (pu_cs byt e) e (tk_e (pu_cs byt e) e j_5)))])), (hr, .inr (4, [.ref ht, .int en, .int tk2_19, .int (nI (tk_s (pu_cs byt e) e (tk_e (pu_cs byt e) e j_5))), .int (nI (tk_e (pu_cs byt e) e (tk_e (pu_cs byt e) e j_5))), .int nu2_20]))]) rfl rfl ?_
        obtain ⟨h_29, vc⟩ := vc
        exact pz_ireturn (w1 := [(h0, .inr (2, [.ref hr, .ref hi, .ref hd, .ref ho, .int 1, .int (nI (tk_s (pu_cs byt e) e (tk_e (pu_cs byt e) e j_5)))])), (hr, .inr (4, [.ref ht, .int en, .int tk2_19, .int (nI (tk_s (pu_cs byt e) e (tk_e (pu_cs byt e) e j_5))), .int (nI (tk_e (pu_cs byt e) e (tk_e (pu_cs byt e) e j_5))), .int nu2_20])), (ht, .inr (6, [.ref hb, .int ts])), (hb, .inl (g.2.1 0, 400, .inl byt)), (hd, .inl (g.2.1 1, 12, .inl dr2_12)), (ho, .inl (g.2.1 3, 12, .inl f_4))]) F Rt (by decide) (by decide) dX2_readLine_117 [4, 5, 2, 3, 1, 0] rfl rfl h_29 vc
    · replace vc := vc.2 q_17
      refine pz_iconst (v := 0) F dX2_readLine_92 rfl ?_
      exact pz_ireturn (w1 := [(h0, .inr (2, [.ref hr, .ref hi, .ref hd, .ref ho, .int ff2_13, .int fp2_14])), (hr, .inr (4, [.ref ht, .int en, .int tk2_7, .int (nI (tk_s (pu_cs byt e) e j_5)), .int (nI (tk_e (pu_cs byt e) e j_5)), .int nu2_8])), (ht, .inr (6, [.ref hb, .int ts])), (hb, .inl (g.2.1 0, 400, .inl byt)), (hd, .inl (g.2.1 1, 12, .inl dr2_12)), (ho, .inl (g.2.1 3, 12, .inl f_4))]) F Rt (by decide) (by decide) dX2_readLine_93 [1, 2, 3, 4, 5, 0] rfl rfl rfl vc
  · replace vc := vc.2 q_2
    refine pz_aload_n 0 F rfl dX2_readLine_63 rfl ?_
    refine pz_iconst (v := 3) F dX2_readLine_64 rfl ?_
    refine pz_callV (nA := 1) (ci := 2) (C := RX2) (T := TX2) (N := 6) (As := [.int 3]) (rest := []) (wr := [(ht, .inr (6, [.ref hb, .int ts])), (hb, .inl (g.2.1 0, 400, .inl byt)), (hd, .inl (g.2.1 1, 12, .inl dr)), (ho, .inl (g.2.1 3, 12, .inl to))]) F (ctX2_blame _ g h0 3 hr hi hd ho ff1 fp1 ht en tk1 sa1 bh1 nu1) 0 rfl rfl pw_358 pw_360 pv_7 pw_3 pw_361 (by decide +kernel) (by decide) (by decide) rfl rfl (Nat.le_of_ble_eq_true rfl) [0, 1] [2, 3, 4, 5] rfl rfl rfl rfl (by decide) dX2_readLine_65 (fun r0 w0 hp0 => ?_)
    obtain ⟨r_30, _, rfl, rfl, hq_31⟩ := hp0
    replace vc := vc r_30  hq_31
    refine pz_eq (st' := [.int r_30]) (ws' := [(ht, .inr (6, [.ref hb, .int ts])), (hb, .inl (g.2.1 0, 400, .inl byt)), (hd, .inl (g.2.1 1, 12, .inl dr)), (ho, .inl (g.2.1 3, 12, .inl to)), (h0, .inr (2, [.ref hr, .ref hi, .ref hd, .ref ho, .int 3, .int sa1])), (hr, .inr (4, [.ref ht, .int en, .int tk1, .int sa1, .int bh1, .int nu1]))]) rfl rfl ?_
    obtain ⟨h_32, vc⟩ := vc
    exact pz_ireturn (w1 := [(h0, .inr (2, [.ref hr, .ref hi, .ref hd, .ref ho, .int 3, .int sa1])), (hr, .inr (4, [.ref ht, .int en, .int tk1, .int sa1, .int bh1, .int nu1])), (ht, .inr (6, [.ref hb, .int ts])), (hb, .inl (g.2.1 0, 400, .inl byt)), (hd, .inl (g.2.1 1, 12, .inl dr)), (ho, .inl (g.2.1 3, 12, .inl to))]) F Rt (by decide) (by decide) dX2_readLine_68 [4, 5, 0, 1, 2, 3] rfl rfl h_32 vc
set_option maxHeartbeats 4000000 in
set_option maxRecDepth 100000 in
theorem ctX2_readLine (l : Launch) (g : pz_G) (h0 : Nat) (hr : Nat) (hi : Nat) (hd : Nat) (ho : Nat) (ff : Int32) (fp : Int32) (ht : Nat) (en : Int32) (tk : Int32) (sa : Int32) (bh : Int32) (nu : Int32) (hb : Nat) (ts : Int32) (byt : Nat → Int32) (dr : Nat → Int32) (to : Nat → Int32) (j : Nat) (e : Nat) (hpre : j ≤ e ∧ e ≤ 400 ∧ en = nI e ∧ tk = tk_k (pu_cs byt e) e j ∧ sa = nI (tk_s (pu_cs byt e) e j) ∧ bh = nI (tk_e (pu_cs byt e) e j) ∧ (tk = 2 → nu = tk_n (pu_cs byt e) e j)) : pz_Ct l g yX2_readLine cX2_readLine 3 (some .boolean) rmX2_readLine [.ref h0] [(h0, .inr (2, [.ref hr, .ref hi, .ref hd, .ref ho, .int ff, .int fp])), (hr, .inr (4, [.ref ht, .int en, .int tk, .int sa, .int bh, .int nu])), (ht, .inr (6, [.ref hb, .int ts])), (hb, .inl (g.2.1 0, 400, .inl byt)), (hd, .inl (g.2.1 1, 12, .inl dr)), (ho, .inl (g.2.1 3, 12, .inl to))] (pz_pi (fun (r : Int32) (u : Int32 × Int32 × Int32 × Int32 × Int32 × Int32 × (Nat → Int32) × (Nat → Int32)) => (r = 1 ∧ (pl_line (pu_cs byt e) e to j).1 = 0 ∧ u.1 = ff ∧ u.2.1 = fp ∧ u.2.2.2.2.2.2.1 = upd dr (pl_line (pu_cs byt e) e to j).2.2.2.1 (pl_line (pu_cs byt e) e to j).2.2.2.2 ∧ u.2.2.2.2.2.2.2 = upd to (pl_line (pu_cs byt e) e to j).2.2.2.1 1 ∧ u.2.2.1 = tk_k (pu_cs byt e) e (pl_line (pu_cs byt e) e to j).2.2.1 ∧ u.2.2.2.1 = nI (tk_s (pu_cs byt e) e (pl_line (pu_cs byt e) e to j).2.2.1) ∧ u.2.2.2.2.1 = nI (tk_e (pu_cs byt e) e (pl_line (pu_cs byt e) e to j).2.2.1) ∧ (u.2.2.1 = 2 → u.2.2.2.2.2.1 = tk_n (pu_cs byt e) e (pl_line (pu_cs byt e) e to j).2.2.1)) ∨ (r = 0 ∧ ¬ (pl_line (pu_cs byt e) e to j).1 = 0 ∧ u.1 = (pl_line (pu_cs byt e) e to j).1 ∧ u.2.1 = nI (pl_line (pu_cs byt e) e to j).2.1)) (fun (u : Int32 × Int32 × Int32 × Int32 × Int32 × Int32 × (Nat → Int32) × (Nat → Int32)) => [(h0, .inr (2, [.ref hr, .ref hi, .ref hd, .ref ho, .int u.1, .int u.2.1])), (hr, .inr (4, [.ref ht, .int en, .int u.2.2.1, .int u.2.2.2.1, .int u.2.2.2.2.1, .int u.2.2.2.2.2.1])), (ht, .inr (6, [.ref hb, .int ts])), (hb, .inl (g.2.1 0, 400, .inl byt)), (hd, .inl (g.2.1 1, 12, .inl u.2.2.2.2.2.2.1)), (ho, .inl (g.2.1 3, 12, .inl u.2.2.2.2.2.2.2))])) := by
  refine pz_ofAt (by decide +kernel) (Nat.le_of_ble_eq_true rfl) (fun B F Rt hme => ?_)
  obtain ⟨hj, he, h5, h1, h3, h4, hnu⟩ := hpre
  subst h5; subst h3; subst h4
  have he0 := tk_e_in (c := pu_cs byt e) hj
  have h54 : ∀ (w : Nat) (sl tk1 sa1 bh1 nu1 ff1 fp1 : Int32), (∃ s jn p, w < 9 ∧ s < 12 ∧ sl = nI s ∧ jn ≤ e ∧ bh1 = nI jn ∧ sa1 = nI p ∧ ff1 = ff ∧ fp1 = fp ∧ pl_line (pu_cs byt e) e to j = if to s = 0 then pl_end (pu_cs byt e) e jn w s else (3, p, 0, 0, 0)) → paX2_readLine_54 B g h0 hr hi hd ho ff fp ht (nI e) tk (nI (tk_s (pu_cs byt e) e j)) (nI (tk_e (pu_cs byt e) e j)) nu hb ts byt dr to j e w sl tk1 sa1 bh1 nu1 ff1 fp1 := by
    rintro w sl tk1 sa1 bh1 nu1 ff1 fp1 ⟨s, jn, p, hw, hs, rfl, hjn, rfl, rfl, rfl, rfl, hL⟩
    refine sgX2_readLine_54 F Rt h0 hr hi hd ho ff1 fp1 ht (nI e) tk (nI (tk_s (pu_cs byt e) e j)) (nI (tk_e (pu_cs byt e) e j)) nu hb ts byt dr to j e w (nI s) tk1 (nI p) (nI jn) nu1 ff1 fp1 ?_
    rw [nI_clamp (n := s) (by omega)]
    have hin : vp_in (nI s) 12 := vp_in_nI hs (by omega)
    refine ⟨hin, fun q => ⟨hin, ?_⟩, fun q => ?_⟩
    · rintro f rfl
      rw [if_pos q] at hL
      refine ⟨jn, ⟨hjn, he, rfl, rfl⟩, fun tk2 nu2 h2 => ⟨jn, ⟨hw, hin, hjn, he, h2.1, fun q2 => by rw [h2.2, if_pos q2], rfl, rfl, rfl⟩, fun r dr2 ff2 fp2 hr => ⟨fun q2 => ?_, fun q2 => ?_⟩⟩⟩
      · rcases hr with ⟨a1, a2, a3, a4, a5⟩ | ⟨a1, a2⟩
        · have he1 := tk_e_in (c := pu_cs byt e) hjn
          refine ⟨⟨he1.2, he, rfl, rfl⟩, fun tk3 nu3 h3 => ⟨fun q3 => ?_, fun q3 => ?_⟩⟩
          · have hk : tk_k (pu_cs byt e) e (tk_e (pu_cs byt e) e jn) = 3 := by rw [← h3.1]; exact q3
            have he2 := tk_e_in (c := pu_cs byt e) he1.2
            have hE : pl_end (pu_cs byt e) e jn w s = (0, 0, tk_e (pu_cs byt e) e (tk_e (pu_cs byt e) e jn), s, (pl_say (pu_cs byt e) e jn w).2) := by
              unfold pl_end
              rw [if_pos a2, if_pos hk]
            refine ⟨⟨he2.2, he, rfl, rfl⟩, fun tk4 nu4 h4 => ?_⟩
            refine ⟨_, (_, _, _, _, _, _, _, _), rfl, rfl, Or.inl ?_⟩
            rw [hL, hE]
            exact ⟨rfl, rfl, a4, a5, a3, rfl, h4.1, rfl, rfl, fun q4 => by
              have q5 : tk4 = 2 := q4
              show nu4 = _
              rw [h4.2, if_pos q5]⟩
          · have hk : ¬ tk_k (pu_cs byt e) e (tk_e (pu_cs byt e) e jn) = 3 := by rw [← h3.1]; exact q3
            have hE : pl_end (pu_cs byt e) e jn w s = (1, tk_s (pu_cs byt e) e (tk_e (pu_cs byt e) e jn), 0, 0, 0) := by
              unfold pl_end
              rw [if_pos a2, if_neg hk]
            intro r2 hr2
            refine ⟨by rw [hr2]; rfl, _, (_, _, _, _, _, _, _, _), rfl, rfl, Or.inr ?_⟩
            rw [hL, hE]
            exact ⟨hr2, pu_n1, rfl, rfl⟩
        · exact absurd a1 q2
      · rcases hr with ⟨a1, a2, a3, a4, a5⟩ | ⟨a1, a2, a3, a4⟩
        · rw [q2] at a1; exact absurd a1 (by decide)
        · have hE : pl_end (pu_cs byt e) e jn w s = ((pl_say (pu_cs byt e) e jn w).1, tk_s (pu_cs byt e) e jn, 0, 0, 0) := by
            unfold pl_end
            rw [if_neg a2]
          refine ⟨_, (_, _, _, _, _, _, _, _), rfl, rfl, Or.inr ?_⟩
          rw [hL, hE]
          exact ⟨rfl, a2, a3, a4⟩
    · rw [if_neg q] at hL
      intro r hr
      refine ⟨by rw [hr]; rfl, _, (_, _, _, _, _, _, _, _), rfl, rfl, Or.inr ?_⟩
      rw [hL]
      exact ⟨hr, pu_n3, rfl, rfl⟩
  refine sgX2_readLine_0 F Rt h0 hr hi hd ho ff fp ht (nI e) tk (nI (tk_s (pu_cs byt e) e j)) (nI (tk_e (pu_cs byt e) e j)) nu hb ts byt dr to j e _ h54 ?_
  refine ⟨j, ⟨hj, he, h1, rfl, rfl, rfl⟩, fun r hr => ⟨fun q => ?_, fun w q => ?_⟩⟩
  · have hL : pl_line (pu_cs byt e) e to j = (1, tk_s (pu_cs byt e) e j, 0, 0, 0) := by
      unfold pl_line
      rw [← hr, q]
    intro r2 hr2
    refine ⟨by rw [hr2]; rfl, _, (_, _, _, _, _, _, _, _), rfl, rfl, Or.inr ?_⟩
    rw [hL]
    exact ⟨hr2, pu_n1, rfl, rfl⟩
  · have hw : w < 9 := tk_l_lt (by rw [← hr]; exact q)
    have hL : pl_line (pu_cs byt e) e to j = if w = 8 then
      (if tk_k (pu_cs byt e) e (tk_e (pu_cs byt e) e j) = 2 then
        (if tk_n (pu_cs byt e) e (tk_e (pu_cs byt e) e j) ≤ 3 then
          (if to (8 + (tk_n (pu_cs byt e) e (tk_e (pu_cs byt e) e j)).toNatClampNeg) = 0 then pl_end (pu_cs byt e) e (tk_e (pu_cs byt e) e (tk_e (pu_cs byt e) e j)) 8 (8 + (tk_n (pu_cs byt e) e (tk_e (pu_cs byt e) e j)).toNatClampNeg) else (3, tk_s (pu_cs byt e) e (tk_e (pu_cs byt e) e j), 0, 0, 0))
        else (2, tk_s (pu_cs byt e) e (tk_e (pu_cs byt e) e j), 0, 0, 0))
      else (1, tk_s (pu_cs byt e) e (tk_e (pu_cs byt e) e j), 0, 0, 0))
    else if to w = 0 then pl_end (pu_cs byt e) e (tk_e (pu_cs byt e) e j) w w else (3, tk_s (pu_cs byt e) e j, 0, 0, 0) := by
      unfold pl_line
      rw [← hr, q]
    refine ⟨hw, ?_⟩
    rintro x rfl
    refine ⟨hw, fun q2 => ?_, fun q2 => ?_⟩
    · rw [pz_slN hw]
      exact ⟨w, tk_e (pu_cs byt e) e j, tk_s (pu_cs byt e) e j, hw, by omega, rfl, he0.2, rfl, rfl, rfl, rfl, by rw [hL, if_neg q2]⟩
    · rw [if_pos q2] at hL
      refine ⟨tk_e (pu_cs byt e) e j, ⟨he0.2, he, rfl, rfl⟩, fun tk2 nu2 h2 => ?_⟩
      have he1 := tk_e_in (c := pu_cs byt e) he0.2
      intro r2 ff2 fp2 h3
      refine ⟨fun q3 => ?_, fun q3 => ?_⟩
      · rcases h3 with ⟨a1, a2, a3, a4, a5⟩ | ⟨a1, a2, a3, a4⟩ | ⟨a1, a3, a4⟩
        · have hn : nu2 = tk_n (pu_cs byt e) e (tk_e (pu_cs byt e) e j) := by rw [h2.2, if_pos a1]
          obtain ⟨v, hv, hv2⟩ : ∃ v, v < 4 ∧ nu2 = nI v := by
            obtain ⟨v, hv, hv2⟩ := tk_n_in (c := pu_cs byt e) he0.2 (by rw [← h2.1]; exact a1)
            rw [hn, hv2] at a2
            exact ⟨v, by have := pu_ge (n := v) (j := 3) (by omega) a2; omega, by rw [hn, hv2]⟩
          rintro x rfl
          rw [pz_slN hw, q2, hv2, nI_add]
          rw [if_pos (by rw [← h2.1]; exact a1), if_pos (by rw [← hn]; exact a2), ← hn, hv2, nI_clamp (by omega)] at hL
          exact ⟨8 + v, tk_e (pu_cs byt e) e (tk_e (pu_cs byt e) e j), tk_s (pu_cs byt e) e (tk_e (pu_cs byt e) e j), by omega, by omega, rfl, he1.2, rfl, rfl, a4, a5, hL⟩
        · exact absurd a3 q3
        · exact absurd a3 q3
      · rcases h3 with ⟨a1, a2, a3, a4, a5⟩ | ⟨a1, a2, a3, a4, a5⟩ | ⟨a1, a3, a4, a5⟩
        · rw [q3] at a3; exact absurd a3 (by decide)
        · have hn : nu2 = tk_n (pu_cs byt e) e (tk_e (pu_cs byt e) e j) := by rw [h2.2, if_pos a1]
          rw [if_pos (by rw [← h2.1]; exact a1), if_neg (by rw [← hn]; exact a2)] at hL
          refine ⟨_, (_, _, _, _, _, _, _, _), rfl, rfl, Or.inr ?_⟩
          rw [hL]
          exact ⟨rfl, pu_n2, a4, a5⟩
        · rw [if_neg (by rw [← h2.1]; exact a1)] at hL
          refine ⟨_, (_, _, _, _, _, _, _, _), rfl, rfl, Or.inr ?_⟩
          rw [hL]
          exact ⟨rfl, pu_n1, a4, a5⟩
