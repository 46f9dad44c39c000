
abbrev rmX9_cut_T : Room := { frames := 2, cells := 0, slots := 0, locals := 47 }
abbrev paX9_cut_T_29 (B : pz_B) (g : pz_G) (h0 : Nat) (yt : Nat) (rT : Int32) (rH : Int32) (yw : Nat) (yp : Nat) (yg : Nat) (yu : Nat) (ysl : Nat) (yin : Nat) (yse : Nat) (ysp : Nat) (ypa : Nat) (rA : Int32) (yb : Nat) (ybd : Nat) (ybc : Nat) (yr : Nat) (rF : Int32) (rP : Int32) (ywd : Nat) (rS : Int32) (rN : Int32) (rO : Int32) (rW : Int32) (rL : Int32) (rD : Int32) (yd : Nat) (rI : Int32) (rX : Int32) (rY : Int32) (rZ : Int32) (rU : Int32) (yro : Nat) (yc : Nat) (ybe : Nat) (yco : Nat) (rC : Int64) (rV : Int64) (qk : Nat → Int32) (qr : Nat → Int32) (qa : Nat → Int32) (qD : Nat → Int32) (qu : Nat → Int32) (qe : Nat → Int32) (qi : Nat → Int32) (qw : Nat → Int32) (qs : Nat → Int32) (G : Nat) (K : Nat) (M : Nat) (N : Nat) (b : Nat) (i : Int32) (d1 : Nat → Int32) : Prop := pz_At B 0 0 29 [(0, .ref h0), (1, .int (nI b)), (2, .int i)] [] [(h0, .inr (8, [.ref yt, .int rT, .int 0, .int (nI G), .ref yw, .int (nI K), .ref yp, .ref yg, .int (nI M), .ref yu, .int (nI N), .ref ysl, .ref yin, .ref yse, .ref ysp, .ref ypa, .int rA, .ref yb, .ref ybd, .ref ybc, .ref yr, .int rF, .int rP, .ref ywd, .int rS, .int rN, .int rO, .int rW, .int rL, .int rD, .ref yd, .int rI, .int rX, .int rY, .int rZ, .int rU, .ref yro, .ref yc, .ref ybe, .ref yco, .long rC, .long rV])), (ysp, .inl (g.2.1 3, 10, .inl qk)), (yr, .inl (g.2.1 1, 24, .inl qr)), (ypa, .inl (g.2.1 1, 80, .inl qa)), (yd, .inl (g.2.1 1, 8, .inl d1)), (yu, .inl (g.2.1 1, 8, .inl qu)), (yse, .inl (g.2.1 1, 10, .inl qe)), (yin, .inl (g.2.1 1, 10, .inl qi)), (yw, .inl (g.2.1 1, 4, .inl qw)), (ysl, .inl (g.2.1 1, 10, .inl qs))]
abbrev paX9_cut_T_71 (B : pz_B) (g : pz_G) (h0 : Nat) (yt : Nat) (rT : Int32) (rH : Int32) (yw : Nat) (yp : Nat) (yg : Nat) (yu : Nat) (ysl : Nat) (yin : Nat) (yse : Nat) (ysp : Nat) (ypa : Nat) (rA : Int32) (yb : Nat) (ybd : Nat) (ybc : Nat) (yr : Nat) (rF : Int32) (rP : Int32) (ywd : Nat) (rS : Int32) (rN : Int32) (rO : Int32) (rW : Int32) (rL : Int32) (rD : Int32) (yd : Nat) (rI : Int32) (rX : Int32) (rY : Int32) (rZ : Int32) (rU : Int32) (yro : Nat) (yc : Nat) (ybe : Nat) (yco : Nat) (rC : Int64) (rV : Int64) (qk : Nat → Int32) (qr : Nat → Int32) (qa : Nat → Int32) (qD : Nat → Int32) (qu : Nat → Int32) (qe : Nat → Int32) (qi : Nat → Int32) (qw : Nat → Int32) (qs : Nat → Int32) (G : Nat) (K : Nat) (M : Nat) (N : Nat) (b : Nat) (i : Int32) (d1 : Nat → Int32) (p1 : Nat → Int32) : Prop := pz_At B 0 0 71 [(0, .ref h0), (1, .int (nI b)), (2, .int i)] [] [(h0, .inr (8, [.ref yt, .int rT, .int 0, .int (nI G), .ref yw, .int (nI K), .ref yp, .ref yg, .int (nI M), .ref yu, .int (nI N), .ref ysl, .ref yin, .ref yse, .ref ysp, .ref ypa, .int rA, .ref yb, .ref ybd, .ref ybc, .ref yr, .int rF, .int rP, .ref ywd, .int rS, .int rN, .int rO, .int rW, .int rL, .int rD, .ref yd, .int rI, .int rX, .int rY, .int rZ, .int rU, .ref yro, .ref yc, .ref ybe, .ref yco, .long rC, .long rV])), (ysp, .inl (g.2.1 3, 10, .inl qk)), (yr, .inl (g.2.1 1, 24, .inl qr)), (ypa, .inl (g.2.1 1, 80, .inl qa)), (yd, .inl (g.2.1 1, 8, .inl d1)), (yu, .inl (g.2.1 1, 8, .inl p1)), (yse, .inl (g.2.1 1, 10, .inl qe)), (yin, .inl (g.2.1 1, 10, .inl qi)), (yw, .inl (g.2.1 1, 4, .inl qw)), (ysl, .inl (g.2.1 1, 10, .inl qs))]
set_option maxHeartbeats 4000000 in
set_option maxRecDepth 100000 in
theorem sgX9_cut_T_0 {B : pz_B} {g : pz_G} {wc : va_W} {Post : Option Value → va_W → Prop} (F : pz_F B cX9_cut 3 (some .int) yX9_cut.cls g rmX9_cut_T) (Rt : pz_Rt B g wc Post rmX9_cut_T) (h0 : Nat) (yt : Nat) (rT : Int32) (rH : Int32) (yw : Nat) (yp : Nat) (yg : Nat) (yu : Nat) (ysl : Nat) (yin : Nat) (yse : Nat) (ysp : Nat) (ypa : Nat) (rA : Int32) (yb : Nat) (ybd : Nat) (ybc : Nat) (yr : Nat) (rF : Int32) (rP : Int32) (ywd : Nat) (rS : Int32) (rN : Int32) (rO : Int32) (rW : Int32) (rL : Int32) (rD : Int32) (yd : Nat) (rI : Int32) (rX : Int32) (rY : Int32) (rZ : Int32) (rU : Int32) (yro : Nat) (yc : Nat) (ybe : Nat) (yco : Nat) (rC : Int64) (rV : Int64) (qk : Nat → Int32) (qr : Nat → Int32) (qa : Nat → Int32) (qD : Nat → Int32) (qu : Nat → Int32) (qe : Nat → Int32) (qi : Nat → Int32) (qw : Nat → Int32) (qs : Nat → Int32) (G : Nat) (K : Nat) (M : Nat) (N : Nat) (b : Nat) (T29 : Int32 → (Nat → Int32) → Prop) (hT29 : ∀ (i : Int32) (d1 : Nat → Int32), T29 i d1 → paX9_cut_T_29 B g h0 yt rT rH yw yp yg yu ysl yin yse ysp ypa rA yb ybd ybc yr rF rP ywd rS rN rO rW rL rD yd rI rX rY rZ rU yro yc ybe yco rC rV qk qr qa qD qu qe qi qw qs G K M N b i d1)  (vc : (N ≤ 10) ∧ ∀ r_2 : Int32, ∀ _ : ((wh_ok (nI b) N qk ∧ r_2 = 1) ∨ (¬ wh_ok (nI b) N qk ∧ r_2 = 0)), ((¬ r_2 = 0 → vp_in 6 24 ∧ (b < 10 ∧ ∀ v, v < 8 → ¬ qa (8 * b + v) < 0) ∧ ∀ d2_7 : Nat → Int32, ∀ _ : (∀ a, a < 8 → d2_7 a = dv_f (sl8 qa b) 8 (qr (6 : Int32).toNatClampNeg) a), T29 0 d2_7) ∧ (r_2 = 0 → Post (some (.int (-1))) [(h0, .inr (8, [.ref yt, .int rT, .int 0, .int (nI G), .ref yw, .int (nI K), .ref yp, .ref yg, .int (nI M), .ref yu, .int (nI N), .ref ysl, .ref yin, .ref yse, .ref ysp, .ref ypa, .int rA, .ref yb, .ref ybd, .ref ybc, .ref yr, .int rF, .int rP, .ref ywd, .int rS, .int rN, .int rO, .int rW, .int rL, .int rD, .ref yd, .int rI, .int rX, .int rY, .int rZ, .int rU, .ref yro, .ref yc, .ref ybe, .ref yco, .long rC, .long rV])), (ysp, .inl (g.2.1 3, 10, .inl qk)), (yr, .inl (g.2.1 1, 24, .inl qr)), (ypa, .inl (g.2.1 1, 80, .inl qa)), (yd, .inl (g.2.1 1, 8, .inl qD)), (yu, .inl (g.2.1 1, 8, .inl qu)), (yse, .inl (g.2.1 1, 10, .inl qe)), (yin, .inl (g.2.1 1, 10, .inl qi)), (yw, .inl (g.2.1 1, 4, .inl qw)), (ysl, .inl (g.2.1 1, 10, .inl qs))]))) : pz_At B 0 0 0 [(0, .ref h0), (1, .int (nI b))] [] [(h0, .inr (8, [.ref yt, .int rT, .int rH, .int (nI G), .ref yw, .int (nI K), .ref yp, .ref yg, .int (nI M), .ref yu, .int (nI N), .ref ysl, .ref yin, .ref yse, .ref ysp, .ref ypa, .int rA, .ref yb, .ref ybd, .ref ybc, .ref yr, .int rF, .int rP, .ref ywd, .int rS, .int rN, .int rO, .int rW, .int rL, .int rD, .ref yd, .int rI, .int rX, .int rY, .int rZ, .int rU, .ref yro, .ref yc, .ref ybe, .ref yco, .long rC, .long rV])), (ysp, .inl (g.2.1 3, 10, .inl qk)), (yr, .inl (g.2.1 1, 24, .inl qr)), (ypa, .inl (g.2.1 1, 80, .inl qa)), (yd, .inl (g.2.1 1, 8, .inl qD)), (yu, .inl (g.2.1 1, 8, .inl qu)), (yse, .inl (g.2.1 1, 10, .inl qe)), (yin, .inl (g.2.1 1, 10, .inl qi)), (yw, .inl (g.2.1 1, 4, .inl qw)), (ysl, .inl (g.2.1 1, 10, .inl qs))] := by
  refine pz_aload_n 0 F rfl dX9_cut_0 rfl ?_
  refine pz_iconst (v := 0) F dX9_cut_1 rfl ?_
  refine pz_put (ws' := [(h0, .inr (8, [.ref yt, .int rT, .int 0, .int (nI G), .ref yw, .int (nI K), .ref yp, .ref yg, .int (nI M), .ref yu, .int (nI N), .ref ysl, .ref yin, .ref yse, .ref ysp, .ref ypa, .int rA, .ref yb, .ref ybd, .ref ybc, .ref yr, .int rF, .int rP, .ref ywd, .int rS, .int rN, .int rO, .int rW, .int rL, .int rD, .ref yd, .int rI, .int rX, .int rY, .int rZ, .int rU, .ref yro, .ref yc, .ref ybe, .ref yco, .long rC, .long rV])), (ysp, .inl (g.2.1 3, 10, .inl qk)), (yr, .inl (g.2.1 1, 24, .inl qr)), (ypa, .inl (g.2.1 1, 80, .inl qa)), (yd, .inl (g.2.1 1, 8, .inl qD)), (yu, .inl (g.2.1 1, 8, .inl qu)), (yse, .inl (g.2.1 1, 10, .inl qe)), (yin, .inl (g.2.1 1, 10, .inl qi)), (yw, .inl (g.2.1 1, 4, .inl qw)), (ysl, .inl (g.2.1 1, 10, .inl qs))]) (ci := 8) (C := RX9) (T := TX9) (N := 42) (v := .int 0) (ty := .int) 0 F rfl rfl pz_inX9 2 (by decide) pw_810 tyX9_ok nmX9 rfl rfl rfl rfl (Nat.le_of_ble_eq_true rfl) dX9_cut_2 rfl ?_
  refine pz_aload_n 0 F rfl dX9_cut_5 rfl ?_
  refine pz_iload_n 1 F rfl dX9_cut_6 rfl ?_
  obtain ⟨h_1, vc⟩ := vc
  refine pz_callV (nA := 1) (ci := 8) (C := RX9) (T := TX9) (N := 42) (As := [.int (nI b)]) (rest := []) (wr := [(yr, .inl (g.2.1 1, 24, .inl qr)), (ypa, .inl (g.2.1 1, 80, .inl qa)), (yd, .inl (g.2.1 1, 8, .inl qD)), (yu, .inl (g.2.1 1, 8, .inl qu)), (yse, .inl (g.2.1 1, 10, .inl qe)), (yin, .inl (g.2.1 1, 10, .inl qi)), (yw, .inl (g.2.1 1, 4, .inl qw)), (ysl, .inl (g.2.1 1, 10, .inl qs))]) F (ctX9_isWhole _ g (nI b) h0 yt rT 0 yw yp yg yu ysl yin yse ysp ypa rA yb ybd ybc yr rF rP ywd rS rN rO rW rL rD yd rI rX rY rZ rU yro yc ybe yco rC rV qk G K M N h_1) 0 rfl rfl pw_1012 pw_1014 pv_36 pw_8 pw_1015 (by decide +kernel) (by decide) (by decide) rfl rfl (Nat.le_of_ble_eq_true rfl) [0, 1] [2, 3, 4, 5, 6, 7, 8, 9] rfl rfl rfl rfl (by decide) dX9_cut_7 (fun r0 w0 hp0 => ?_)
  obtain ⟨r_2, _, rfl, rfl, hq_3⟩ := hp0
  replace vc := vc r_2  hq_3
  refine pz_eq (st' := [.int r_2]) (ws' := [(yr, .inl (g.2.1 1, 24, .inl qr)), (ypa, .inl (g.2.1 1, 80, .inl qa)), (yd, .inl (g.2.1 1, 8, .inl qD)), (yu, .inl (g.2.1 1, 8, .inl qu)), (yse, .inl (g.2.1 1, 10, .inl qe)), (yin, .inl (g.2.1 1, 10, .inl qi)), (yw, .inl (g.2.1 1, 4, .inl qw)), (ysl, .inl (g.2.1 1, 10, .inl qs)), (h0, .inr (8, [.ref yt, .int rT, .int 0, .int (nI G), .ref yw, .int (nI K), .ref yp, .ref yg, .int (nI M), .ref yu, .int (nI N), .ref ysl, .ref yin, .ref yse, .ref ysp, .ref ypa, .int rA, .ref yb, .ref ybd, .ref ybc, .ref yr, .int rF, .int rP, .ref ywd, .int rS, .int rN, .int rO, .int rW, .int rL, .int rD, .ref yd, .int rI, .int rX, .int rY, .int rZ, .int rU, .ref yro, .ref yc, .ref ybe, .ref yco, .long rC, .long rV])), (ysp, .inl (g.2.1 3, 10, .inl qk))]) rfl rfl ?_
  refine pz_if_ne (tgt := 15) F dX9_cut_10 (by decide) (fun q_4 => ?_) (fun q_4 => ?_)
  · replace vc := vc.1 q_4
    refine pz_aload_n 0 F rfl dX9_cut_15 rfl ?_
    refine pz_iload_n 1 F rfl dX9_cut_16 rfl ?_
    refine pz_aload_n 0 F rfl dX9_cut_17 rfl ?_
    refine pz_get (ci := 8) (C := RX9) (T := TX9) (N := 42) (v := .ref yr) 8 F rfl rfl pz_inX9 20 (by decide) pw_828 rfl dX9_cut_18 ?_
    refine pz_bipush (v := 6) F dX9_cut_21 rfl ?_
    obtain ⟨h_5, vc⟩ := vc
    refine pz_iaload 0 F rfl h_5 dX9_cut_23 ?_
    obtain ⟨h_6, vc⟩ := vc
    refine pz_callV (nA := 2) (ci := 8) (C := RX9) (T := TX9) (N := 42) (As := [.int (nI b), .int (qr (6 : Int32).toNatClampNeg)]) (rest := []) (wr := [(yr, .inl (g.2.1 1, 24, .inl qr)), (yu, .inl (g.2.1 1, 8, .inl qu)), (yse, .inl (g.2.1 1, 10, .inl qe)), (yin, .inl (g.2.1 1, 10, .inl qi)), (yw, .inl (g.2.1 1, 4, .inl qw)), (ysl, .inl (g.2.1 1, 10, .inl qs)), (ysp, .inl (g.2.1 3, 10, .inl qk))]) F (ctX9_deal _ g (qr (6 : Int32).toNatClampNeg) h0 yt rT 0 yw yp yg yu ysl yin yse ysp ypa rA yb ybd ybc yr rF rP ywd rS rN rO rW rL rD yd rI rX rY rZ rU yro yc ybe yco rC rV qa qD G K M N b h_6) 8 rfl rfl pw_1048 pw_1050 pv_42 pw_8 pw_1051 (by decide +kernel) (by decide) (by decide) rfl rfl (Nat.le_of_ble_eq_true rfl) [8, 1, 2] [0, 3, 4, 5, 6, 7, 9] rfl rfl rfl rfl (by decide) dX9_cut_24 (fun r0 w0 hp0 => ?_)
    obtain ⟨d2_7, rfl, rfl, hq_8⟩ := hp0
    replace vc := vc d2_7 hq_8
    refine pz_eq (st' := []) (ws' := [(yr, .inl (g.2.1 1, 24, .inl qr)), (yu, .inl (g.2.1 1, 8, .inl qu)), (yse, .inl (g.2.1 1, 10, .inl qe)), (yin, .inl (g.2.1 1, 10, .inl qi)), (yw, .inl (g.2.1 1, 4, .inl qw)), (ysl, .inl (g.2.1 1, 10, .inl qs)), (ysp, .inl (g.2.1 3, 10, .inl qk)), (h0, .inr (8, [.ref yt, .int rT, .int 0, .int (nI G), .ref yw, .int (nI K), .ref yp, .ref yg, .int (nI M), .ref yu, .int (nI N), .ref ysl, .ref yin, .ref yse, .ref ysp, .ref ypa, .int rA, .ref yb, .ref ybd, .ref ybc, .ref yr, .int rF, .int rP, .ref ywd, .int rS, .int rN, .int rO, .int rW, .int rL, .int rD, .ref yd, .int rI, .int rX, .int rY, .int rZ, .int rU, .ref yro, .ref yc, .ref ybe, .ref yco, .long rC, .long rV])), (ypa, .inl (g.2.1 1, 80, .inl qa)), (yd, .inl (g.2.1 1, 8, .inl d2_7))]) rfl rfl ?_
    refine pz_iconst (v := 0) F dX9_cut_27 rfl ?_
    refine pz_istore_n (lv' := [(2, .int 0), (0, .ref h0), (1, .int (nI b))]) F dX9_cut_28 rfl (by decide) rfl ?_
    exact pz_sub [1, 2, 0] [7, 6, 0, 8, 9, 1, 2, 3, 4, 5] rfl rfl rfl (hT29 0 d2_7 vc)
  · replace vc := vc.2 q_4
    refine pz_iconst (v := (-1)) F dX9_cut_13 rfl ?_
    exact pz_ireturn (w1 := [(h0, .inr (8, [.ref yt, .int rT, .int 0, .int (nI G), .ref yw, .int (nI K), .ref yp, .ref yg, .int (nI M), .ref yu, .int (nI N), .ref ysl, .ref yin, .ref yse, .ref ysp, .ref ypa, .int rA, .ref yb, .ref ybd, .ref ybc, .ref yr, .int rF, .int rP, .ref ywd, .int rS, .int rN, .int rO, .int rW, .int rL, .int rD, .ref yd, .int rI, .int rX, .int rY, .int rZ, .int rU, .ref yro, .ref yc, .ref ybe, .ref yco, .long rC, .long rV])), (ysp, .inl (g.2.1 3, 10, .inl qk)), (yr, .inl (g.2.1 1, 24, .inl qr)), (ypa, .inl (g.2.1 1, 80, .inl qa)), (yd, .inl (g.2.1 1, 8, .inl qD)), (yu, .inl (g.2.1 1, 8, .inl qu)), (yse, .inl (g.2.1 1, 10, .inl qe)), (yin, .inl (g.2.1 1, 10, .inl qi)), (yw, .inl (g.2.1 1, 4, .inl qw)), (ysl, .inl (g.2.1 1, 10, .inl qs))]) F Rt (by decide) (by decide) dX9_cut_14 [8, 9, 0, 1, 2, 3, 4, 5, 6, 7] rfl rfl rfl vc
set_option maxHeartbeats 4000000 in
set_option maxRecDepth 100000 in
theorem sgX9_cut_T_29 {B : pz_B} {g : pz_G} {wc : va_W} {Post : Option Value → va_W → Prop} (F : pz_F B cX9_cut 3 (some .int) yX9_cut.cls g rmX9_cut_T) (Rt : pz_Rt B g wc Post rmX9_cut_T) (h0 : Nat) (yt : Nat) (rT : Int32) (rH : Int32) (yw : Nat) (yp : Nat) (yg : Nat) (yu : Nat) (ysl : Nat) (yin : Nat) (yse : Nat) (ysp : Nat) (ypa : Nat) (rA : Int32) (yb : Nat) (ybd : Nat) (ybc : Nat) (yr : Nat) (rF : Int32) (rP : Int32) (ywd : Nat) (rS : Int32) (rN : Int32) (rO : Int32) (rW : Int32) (rL : Int32) (rD : Int32) (yd : Nat) (rI : Int32) (rX : Int32) (rY : Int32) (rZ : Int32) (rU : Int32) (yro : Nat) (yc : Nat) (ybe : Nat) (yco : Nat) (rC : Int64) (rV : Int64) (qk : Nat → Int32) (qr : Nat → Int32) (qa : Nat → Int32) (qD : Nat → Int32) (qu : Nat → Int32) (qe : Nat → Int32) (qi : Nat → Int32) (qw : Nat → Int32) (qs : Nat → Int32) (G : Nat) (K : Nat) (M : Nat) (N : Nat) (b : Nat) (T29 : Int32 → (Nat → Int32) → Prop) (hT29 : ∀ (i : Int32) (d1 : Nat → Int32), T29 i d1 → paX9_cut_T_29 B g h0 yt rT rH yw yp yg yu ysl yin yse ysp ypa rA yb ybd ybc yr rF rP ywd rS rN rO rW rL rD yd rI rX rY rZ rU yro yc ybe yco rC rV qk qr qa qD qu qe qi qw qs G K M N b i d1) (T71 : Int32 → (Nat → Int32) → (Nat → Int32) → Prop) (hT71 : ∀ (i : Int32) (d1 : Nat → Int32) (p1 : Nat → Int32), T71 i d1 p1 → paX9_cut_T_71 B g h0 yt rT rH yw yp yg yu ysl yin yse ysp ypa rA yb ybd ybc yr rF rP ywd rS rN rO rW rL rD yd rI rX rY rZ rU yro yc ybe yco rC rV qk qr qa qD qu qe qi qw qs G K M N b i d1 p1) (i : Int32) (d1 : Nat → Int32) (vc : (((nI M) ≤ i → T71 0 d1 qu) ∧ (¬ (nI M) ≤ i → vp_in i 8 ∧ (((d1 i.toNatClampNeg) ≤ 0 → ∀ x_4 : Int32, x_4 = i + 1 → T29 x_4 d1) ∧ (¬ (d1 i.toNatClampNeg) ≤ 0 → vp_in i 8 ∧ vp_in i 8 ∧ (((d1 i.toNatClampNeg) ≤ (qu i.toNatClampNeg) → ∀ x_8 : Int32, x_8 = i + 1 → T29 x_8 d1) ∧ (¬ (d1 i.toNatClampNeg) ≤ (qu i.toNatClampNeg) → Post (some (.int (-1))) [(h0, .inr (8, [.ref yt, .int rT, .int 0, .int (nI G), .ref yw, .int (nI K), .ref yp, .ref yg, .int (nI M), .ref yu, .int (nI N), .ref ysl, .ref yin, .ref yse, .ref ysp, .ref ypa, .int rA, .ref yb, .ref ybd, .ref ybc, .ref yr, .int rF, .int rP, .ref ywd, .int rS, .int rN, .int rO, .int rW, .int rL, .int rD, .ref yd, .int rI, .int rX, .int rY, .int rZ, .int rU, .ref yro, .ref yc, .ref ybe, .ref yco, .long rC, .long rV])), (ysp, .inl (g.2.1 3, 10, .inl qk)), (yr, .inl (g.2.1 1, 24, .inl qr)), (ypa, .inl (g.2.1 1, 80, .inl qa)), (yd, .inl (g.2.1 1, 8, .inl d1)), (yu, .inl (g.2.1 1, 8, .inl qu)), (yse, .inl (g.2.1 1, 10, .inl qe)), (yin, .inl (g.2.1 1, 10, .inl qi)), (yw, .inl (g.2.1 1, 4, .inl qw)), (ysl, .inl (g.2.1 1, 10, .inl qs))]))))))) : pz_At B 0 0 29 [(0, .ref h0), (1, .int (nI b)), (2, .int i)] [] [(h0, .inr (8, [.ref yt, .int rT, .int 0, .int (nI G), .ref yw, .int (nI K), .ref yp, .ref yg, .int (nI M), .ref yu, .int (nI N), .ref ysl, .ref yin, .ref yse, .ref ysp, .ref ypa, .int rA, .ref yb, .ref ybd, .ref ybc, .ref yr, .int rF, .int rP, .ref ywd, .int rS, .int rN, .int rO, .int rW, .int rL, .int rD, .ref yd, .int rI, .int rX, .int rY, .int rZ, .int rU, .ref yro, .ref yc, .ref ybe, .ref yco, .long rC, .long rV])), (ysp, .inl (g.2.1 3, 10, .inl qk)), (yr, .inl (g.2.1 1, 24, .inl qr)), (ypa, .inl (g.2.1 1, 80, .inl qa)), (yd, .inl (g.2.1 1, 8, .inl d1)), (yu, .inl (g.2.1 1, 8, .inl qu)), (yse, .inl (g.2.1 1, 10, .inl qe)), (yin, .inl (g.2.1 1, 10, .inl qi)), (yw, .inl (g.2.1 1, 4, .inl qw)), (ysl, .inl (g.2.1 1, 10, .inl qs))] := by
  refine pz_iload_n 2 F rfl dX9_cut_29 rfl ?_
  refine pz_aload_n 0 F rfl dX9_cut_30 rfl ?_
  refine pz_get (ci := 8) (C := RX9) (T := TX9) (N := 42) (v := .int (nI M)) 0 F rfl rfl pz_inX9 8 (by decide) pw_816 rfl dX9_cut_31 ?_
  refine pz_icmp_ge (tgt := 69) F dX9_cut_34 (by decide) (fun q_1 => ?_) (fun q_1 => ?_)
  · replace vc := vc.1 q_1
    refine pz_iconst (v := 0) F dX9_cut_69 rfl ?_
    refine pz_istore_n (lv' := [(2, .int 0), (0, .ref h0), (1, .int (nI b))]) F dX9_cut_70 rfl (by decide) rfl ?_
    exact pz_sub [1, 2, 0] [0, 1, 2, 3, 4, 5, 6, 7, 8, 9] rfl rfl rfl (hT71 0 d1 qu vc)
  · replace vc := vc.2 q_1
    refine pz_aload_n 0 F rfl dX9_cut_37 rfl ?_
    refine pz_get (ci := 8) (C := RX9) (T := TX9) (N := 42) (v := .ref yd) 0 F rfl rfl pz_inX9 30 (by decide) pw_838 rfl dX9_cut_38 ?_
    refine pz_iload_n 2 F rfl dX9_cut_41 rfl ?_
    obtain ⟨h_2, vc⟩ := vc
    refine pz_iaload 4 F rfl h_2 dX9_cut_42 ?_
    refine pz_if_le (tgt := 63) F dX9_cut_43 (by decide) (fun q_3 => ?_) (fun q_3 => ?_)
    · replace vc := vc.1 q_3
      obtain ⟨x_4, ex_4⟩ : ∃ z : Int32, z = i + 1 := ⟨_, rfl⟩
      replace vc := vc x_4 ex_4
      refine pz_iinc (v := x_4) (lv' := [(2, .int x_4), (0, .ref h0), (1, .int (nI b))]) 2 F rfl dX9_cut_63 (by rw [ex_4]; rfl) (by decide) rfl ?_
      refine pz_goto (tgt := 29) F dX9_cut_66 (by decide) ?_
      exact pz_sub [1, 2, 0] [0, 1, 2, 3, 4, 5, 6, 7, 8, 9] rfl rfl rfl (hT29 x_4 d1 vc)
    · replace vc := vc.2 q_3
      refine pz_aload_n 0 F rfl dX9_cut_46 rfl ?_
      refine pz_get (ci := 8) (C := RX9) (T := TX9) (N := 42) (v := .ref yu) 0 F rfl rfl pz_inX9 9 (by decide) pw_817 rfl dX9_cut_47 ?_
      refine pz_iload_n 2 F rfl dX9_cut_50 rfl ?_
      obtain ⟨h_5, vc⟩ := vc
      refine pz_iaload 5 F rfl h_5 dX9_cut_51 ?_
      refine pz_aload_n 0 F rfl dX9_cut_52 rfl ?_
      refine pz_get (ci := 8) (C := RX9) (T := TX9) (N := 42) (v := .ref yd) 0 F rfl rfl pz_inX9 30 (by decide) pw_838 rfl dX9_cut_53 ?_
      refine pz_iload_n 2 F rfl dX9_cut_56 rfl ?_
      obtain ⟨h_6, vc⟩ := vc
      refine pz_iaload 4 F rfl h_6 dX9_cut_57 ?_
      refine pz_icmp_ge (tgt := 63) F dX9_cut_58 (by decide) (fun q_7 => ?_) (fun q_7 => ?_)
      · replace vc := vc.1 q_7
        obtain ⟨x_8, ex_8⟩ : ∃ z : Int32, z = i + 1 := ⟨_, rfl⟩
        replace vc := vc x_8 ex_8
        refine pz_iinc (v := x_8) (lv' := [(2, .int x_8), (0, .ref h0), (1, .int (nI b))]) 2 F rfl dX9_cut_63 (by rw [ex_8]; rfl) (by decide) rfl ?_
        refine pz_goto (tgt := 29) F dX9_cut_66 (by decide) ?_
        exact pz_sub [1, 2, 0] [0, 1, 2, 3, 4, 5, 6, 7, 8, 9] rfl rfl rfl (hT29 x_8 d1 vc)
      · replace vc := vc.2 q_7
        refine pz_iconst (v := (-1)) F dX9_cut_61 rfl ?_
        exact pz_ireturn (w1 := [(h0, .inr (8, [.ref yt, .int rT, .int 0, .int (nI G), .ref yw, .int (nI K), .ref yp, .ref yg, .int (nI M), .ref yu, .int (nI N), .ref ysl, .ref yin, .ref yse, .ref ysp, .ref ypa, .int rA, .ref yb, .ref ybd, .ref ybc, .ref yr, .int rF, .int rP, .ref ywd, .int rS, .int rN, .int rO, .int rW, .int rL, .int rD, .ref yd, .int rI, .int rX, .int rY, .int rZ, .int rU, .ref yro, .ref yc, .ref ybe, .ref yco, .long rC, .long rV])), (ysp, .inl (g.2.1 3, 10, .inl qk)), (yr, .inl (g.2.1 1, 24, .inl qr)), (ypa, .inl (g.2.1 1, 80, .inl qa)), (yd, .inl (g.2.1 1, 8, .inl d1)), (yu, .inl (g.2.1 1, 8, .inl qu)), (yse, .inl (g.2.1 1, 10, .inl qe)), (yin, .inl (g.2.1 1, 10, .inl qi)), (yw, .inl (g.2.1 1, 4, .inl qw)), (ysl, .inl (g.2.1 1, 10, .inl qs))]) F Rt (by decide) (by decide) dX9_cut_62 [0, 1, 2, 3, 4, 5, 6, 7, 8, 9] rfl rfl rfl vc
theorem lpX9_cut_T_29 {B : pz_B} {g : pz_G} {wc : va_W} {Post : Option Value → va_W → Prop} (F : pz_F B cX9_cut 3 (some .int) yX9_cut.cls g rmX9_cut_T) (Rt : pz_Rt B g wc Post rmX9_cut_T) (h0 : Nat) (yt : Nat) (rT : Int32) (rH : Int32) (yw : Nat) (yp : Nat) (yg : Nat) (yu : Nat) (ysl : Nat) (yin : Nat) (yse : Nat) (ysp : Nat) (ypa : Nat) (rA : Int32) (yb : Nat) (ybd : Nat) (ybc : Nat) (yr : Nat) (rF : Int32) (rP : Int32) (ywd : Nat) (rS : Int32) (rN : Int32) (rO : Int32) (rW : Int32) (rL : Int32) (rD : Int32) (yd : Nat) (rI : Int32) (rX : Int32) (rY : Int32) (rZ : Int32) (rU : Int32) (yro : Nat) (yc : Nat) (ybe : Nat) (yco : Nat) (rC : Int64) (rV : Int64) (qk : Nat → Int32) (qr : Nat → Int32) (qa : Nat → Int32) (qD : Nat → Int32) (qu : Nat → Int32) (qe : Nat → Int32) (qi : Nat → Int32) (qw : Nat → Int32) (qs : Nat → Int32) (G : Nat) (K : Nat) (M : Nat) (N : Nat) (b : Nat) (T71 : Int32 → (Nat → Int32) → (Nat → Int32) → Prop) (hT71 : ∀ (i : Int32) (d1 : Nat → Int32) (p1 : Nat → Int32), T71 i d1 p1 → paX9_cut_T_71 B g h0 yt rT rH yw yp yg yu ysl yin yse ysp ypa rA yb ybd ybc yr rF rP ywd rS rN rO rW rL rD yd rI rX rY rZ rU yro yc ybe yco rC rV qk qr qa qD qu qe qi qw qs G K M N b i d1 p1) (Inv : Nat → Int32 → (Nat → Int32) → Prop) (step : ∀ (mz : Nat) (i : Int32) (d1 : Nat → Int32), Inv mz i d1 → ∀ TT : Int32 → (Nat → Int32) → Prop, TT = (fun i d1 => ∃ mz', mz' < mz ∧ Inv mz' i d1) → (((nI M) ≤ i → T71 0 d1 qu) ∧ (¬ (nI M) ≤ i → vp_in i 8 ∧ (((d1 i.toNatClampNeg) ≤ 0 → ∀ x_4 : Int32, x_4 = i + 1 → TT x_4 d1) ∧ (¬ (d1 i.toNatClampNeg) ≤ 0 → vp_in i 8 ∧ vp_in i 8 ∧ (((d1 i.toNatClampNeg) ≤ (qu i.toNatClampNeg) → ∀ x_8 : Int32, x_8 = i + 1 → TT x_8 d1) ∧ (¬ (d1 i.toNatClampNeg) ≤ (qu i.toNatClampNeg) → Post (some (.int (-1))) [(h0, .inr (8, [.ref yt, .int rT, .int 0, .int (nI G), .ref yw, .int (nI K), .ref yp, .ref yg, .int (nI M), .ref yu, .int (nI N), .ref ysl, .ref yin, .ref yse, .ref ysp, .ref ypa, .int rA, .ref yb, .ref ybd, .ref ybc, .ref yr, .int rF, .int rP, .ref ywd, .int rS, .int rN, .int rO, .int rW, .int rL, .int rD, .ref yd, .int rI, .int rX, .int rY, .int rZ, .int rU, .ref yro, .ref yc, .ref ybe, .ref yco, .long rC, .long rV])), (ysp, .inl (g.2.1 3, 10, .inl qk)), (yr, .inl (g.2.1 1, 24, .inl qr)), (ypa, .inl (g.2.1 1, 80, .inl qa)), (yd, .inl (g.2.1 1, 8, .inl d1)), (yu, .inl (g.2.1 1, 8, .inl qu)), (yse, .inl (g.2.1 1, 10, .inl qe)), (yin, .inl (g.2.1 1, 10, .inl qi)), (yw, .inl (g.2.1 1, 4, .inl qw)), (ysl, .inl (g.2.1 1, 10, .inl qs))]))))))) : ∀ (mz : Nat) (i : Int32) (d1 : Nat → Int32), Inv mz i d1 → paX9_cut_T_29 B g h0 yt rT rH yw yp yg yu ysl yin yse ysp ypa rA yb ybd ybc yr rF rP ywd rS rN rO rW rL rD yd rI rX rY rZ rU yro yc ybe yco rC rV qk qr qa qD qu qe qi qw qs G K M N b i d1 := by
  intro mz
  induction mz using Nat.strongRecOn with
  | _ mz ih =>
    intro i d1 hI
    exact sgX9_cut_T_29 F Rt h0 yt rT rH yw yp yg yu ysl yin yse ysp ypa rA yb ybd ybc yr rF rP ywd rS rN rO rW rL rD yd rI rX rY rZ rU yro yc ybe yco rC rV qk qr qa qD qu qe qi qw qs G K M N b (fun i d1 => ∃ mz', mz' < mz ∧ Inv mz' i d1) (fun i d1 ⟨mz', h1, h2⟩ => ih mz' h1 i d1 h2) T71 hT71 i d1 (step mz i d1 hI _ rfl)
set_option maxHeartbeats 4000000 in
set_option maxRecDepth 100000 in
theorem sgX9_cut_T_71 {B : pz_B} {g : pz_G} {wc : va_W} {Post : Option Value → va_W → Prop} (F : pz_F B cX9_cut 3 (some .int) yX9_cut.cls g rmX9_cut_T) (Rt : pz_Rt B g wc Post rmX9_cut_T) (h0 : Nat) (yt : Nat) (rT : Int32) (rH : Int32) (yw : Nat) (yp : Nat) (yg : Nat) (yu : Nat) (ysl : Nat) (yin : Nat) (yse : Nat) (ysp : Nat) (ypa : Nat) (rA : Int32) (yb : Nat) (ybd : Nat) (ybc : Nat) (yr : Nat) (rF : Int32) (rP : Int32) (ywd : Nat) (rS : Int32) (rN : Int32) (rO : Int32) (rW : Int32) (rL : Int32) (rD : Int32) (yd : Nat) (rI : Int32) (rX : Int32) (rY : Int32) (rZ : Int32) (rU : Int32) (yro : Nat) (yc : Nat) (ybe : Nat) (yco : Nat) (rC : Int64) (rV : Int64) (qk : Nat → Int32) (qr : Nat → Int32) (qa : Nat → Int32) (qD : Nat → Int32) (qu : Nat → Int32) (qe : Nat → Int32) (qi : Nat → Int32) (qw : Nat → Int32) (qs : Nat → Int32) (G : Nat) (K : Nat) (M : Nat) (N : Nat) (b : Nat) (T71 : Int32 → (Nat → Int32) → (Nat → Int32) → Prop) (hT71 : ∀ (i : Int32) (d1 : Nat → Int32) (p1 : Nat → Int32), T71 i d1 p1 → paX9_cut_T_71 B g h0 yt rT rH yw yp yg yu ysl yin yse ysp ypa rA yb ybd ybc yr rF rP ywd rS rN rO rW rL rD yd rI rX rY rZ rU yro yc ybe yco rC rV qk qr qa qD qu qe qi qw qs G K M N b i d1 p1) (i : Int32) (d1 : Nat → Int32) (p1 : Nat → Int32) (vc : (((nI M) ≤ i → vp_in 6 24 ∧ ∀ x_3 : Int32, x_3 = (rA + (qr (6 : Int32).toNatClampNeg)) → vp_in (nI b) 10 ∧ (b < 10) ∧ ∀ r_6 : Int32, ∀ _ : (r_6 = pu_gi (qi b) (qe (nI b).toNatClampNeg)), vp_in r_6 4 ∧ (b < 10 ∧ M ≤ 8 ∧ ∀ v, v < 8 → ¬ qa (8 * b + v) < 0) ∧ ∀ d2_10 : Nat → Int32, ∀ u2_11 : Nat → Int32, ∀ _ : (∀ a, a < 8 → u2_11 a = if a < M then p1 a + dv_f (sl8 qa b) 8 (qw r_6.toNatClampNeg) a else p1 a), vp_in (nI b) 10 ∧ ∀ x_14 : Int32, x_14 = ((qe (nI b).toNatClampNeg) + 1) → vp_in (nI b) 10 ∧ ∀ f_16 : Nat → Int32, f_16 = upd qe (nI b).toNatClampNeg x_14 → vp_in (nI b) 10 ∧ vp_in (nI b) 10 ∧ ((¬ (f_16 (nI b).toNatClampNeg) = (qs (nI b).toNatClampNeg) → vp_in (nI b) 10 ∧ ∀ f_21 : Nat → Int32, f_21 = upd qk (nI b).toNatClampNeg (vp_nar .boolean 0) → Post (some (.int r_6)) [(h0, .inr (8, [.ref yt, .int rT, .int 0, .int (nI G), .ref yw, .int (nI K), .ref yp, .ref yg, .int (nI M), .ref yu, .int (nI N), .ref ysl, .ref yin, .ref yse, .ref ysp, .ref ypa, .int x_3, .ref yb, .ref ybd, .ref ybc, .ref yr, .int rF, .int rP, .ref ywd, .int rS, .int rN, .int rO, .int rW, .int rL, .int rD, .ref yd, .int rI, .int rX, .int rY, .int rZ, .int rU, .ref yro, .ref yc, .ref ybe, .ref yco, .long rC, .long rV])), (ysp, .inl (g.2.1 3, 10, .inl f_21)), (yr, .inl (g.2.1 1, 24, .inl qr)), (ypa, .inl (g.2.1 1, 80, .inl qa)), (yd, .inl (g.2.1 1, 8, .inl d2_10)), (yu, .inl (g.2.1 1, 8, .inl u2_11)), (yse, .inl (g.2.1 1, 10, .inl f_16)), (yin, .inl (g.2.1 1, 10, .inl qi)), (yw, .inl (g.2.1 1, 4, .inl qw)), (ysl, .inl (g.2.1 1, 10, .inl qs))]) ∧ ((f_16 (nI b).toNatClampNeg) = (qs (nI b).toNatClampNeg) → vp_in (nI b) 10 ∧ ∀ f_23 : Nat → Int32, f_23 = upd qk (nI b).toNatClampNeg (vp_nar .boolean 1) → Post (some (.int r_6)) [(h0, .inr (8, [.ref yt, .int rT, .int 0, .int (nI G), .ref yw, .int (nI K), .ref yp, .ref yg, .int (nI M), .ref yu, .int (nI N), .ref ysl, .ref yin, .ref yse, .ref ysp, .ref ypa, .int x_3, .ref yb, .ref ybd, .ref ybc, .ref yr, .int rF, .int rP, .ref ywd, .int rS, .int rN, .int rO, .int rW, .int rL, .int rD, .ref yd, .int rI, .int rX, .int rY, .int rZ, .int rU, .ref yro, .ref yc, .ref ybe, .ref yco, .long rC, .long rV])), (ysp, .inl (g.2.1 3, 10, .inl f_23)), (yr, .inl (g.2.1 1, 24, .inl qr)), (ypa, .inl (g.2.1 1, 80, .inl qa)), (yd, .inl (g.2.1 1, 8, .inl d2_10)), (yu, .inl (g.2.1 1, 8, .inl u2_11)), (yse, .inl (g.2.1 1, 10, .inl f_16)), (yin, .inl (g.2.1 1, 10, .inl qi)), (yw, .inl (g.2.1 1, 4, .inl qw)), (ysl, .inl (g.2.1 1, 10, .inl qs))]))) ∧ (¬ (nI M) ≤ i → vp_in i 8 ∧ vp_in i 8 ∧ ∀ x_26 : Int32, x_26 = ((p1 i.toNatClampNeg) - (d1 i.toNatClampNeg)) → vp_in i 8 ∧ ∀ f_28 : Nat → Int32, f_28 = upd p1 i.toNatClampNeg x_26 → ∀ x_29 : Int32, x_29 = i + 1 → T71 x_29 d1 f_28))) : pz_At B 0 0 71 [(0, .ref h0), (1, .int (nI b)), (2, .int i)] [] [(h0, .inr (8, [.ref yt, .int rT, .int 0, .int (nI G), .ref yw, .int (nI K), .ref yp, .ref yg, .int (nI M), .ref yu, .int (nI N), .ref ysl, .ref yin, .ref yse, .ref ysp, .ref ypa, .int rA, .ref yb, .ref ybd, .ref ybc, .ref yr, .int rF, .int rP, .ref ywd, .int rS, .int rN, .int rO, .int rW, .int rL, .int rD, .ref yd, .int rI, .int rX, .int rY, .int rZ, .int rU, .ref yro, .ref yc, .ref ybe, .ref yco, .long rC, .long rV])), (ysp, .inl (g.2.1 3, 10, .inl qk)), (yr, .inl (g.2.1 1, 24, .inl qr)), (ypa, .inl (g.2.1 1, 80, .inl qa)), (yd, .inl (g.2.1 1, 8, .inl d1)), (yu, .inl (g.2.1 1, 8, .inl p1)), (yse, .inl (g.2.1 1, 10, .inl qe)), (yin, .inl (g.2.1 1, 10, .inl qi)), (yw, .inl (g.2.1 1, 4, .inl qw)), (ysl, .inl (g.2.1 1, 10, .inl qs))] := by
  refine pz_iload_n 2 F rfl dX9_cut_71 rfl ?_
  refine pz_aload_n 0 F rfl dX9_cut_72 rfl ?_
  refine pz_get (ci := 8) (C := RX9) (T := TX9) (N := 42) (v := .int (nI M)) 0 F rfl rfl pz_inX9 8 (by decide) pw_816 rfl dX9_cut_73 ?_
  refine pz_icmp_ge (tgt := 100) F dX9_cut_76 (by decide) (fun q_1 => ?_) (fun q_1 => ?_)
  · replace vc := vc.1 q_1
    refine pz_aload_n 0 F rfl dX9_cut_100 rfl ?_
    refine pz_dup F dX9_cut_101 rfl ?_
    refine pz_get (ci := 8) (C := RX9) (T := TX9) (N := 42) (v := .int rA) 0 F rfl rfl pz_inX9 16 (by decide) pw_824 rfl dX9_cut_102 ?_
    refine pz_aload_n 0 F rfl dX9_cut_105 rfl ?_
    refine pz_get (ci := 8) (C := RX9) (T := TX9) (N := 42) (v := .ref yr) 0 F rfl rfl pz_inX9 20 (by decide) pw_828 rfl dX9_cut_106 ?_
    refine pz_bipush (v := 6) F dX9_cut_109 rfl ?_
    obtain ⟨h_2, vc⟩ := vc
    refine pz_iaload 2 F rfl h_2 dX9_cut_111 ?_
    refine pz_iadd F dX9_cut_112 ?_
    refine pz_topi (fun x_3 ex_3 => ?_)
    replace vc := vc x_3 ex_3
    refine pz_put (ws' := [(h0, .inr (8, [.ref yt, .int rT, .int 0, .int (nI G), .ref yw, .int (nI K), .ref yp, .ref yg, .int (nI M), .ref yu, .int (nI N), .ref ysl, .ref yin, .ref yse, .ref ysp, .ref ypa, .int x_3, .ref yb, .ref ybd, .ref ybc, .ref yr, .int rF, .int rP, .ref ywd, .int rS, .int rN, .int rO, .int rW, .int rL, .int rD, .ref yd, .int rI, .int rX, .int rY, .int rZ, .int rU, .ref yro, .ref yc, .ref ybe, .ref yco, .long rC, .long rV])), (ysp, .inl (g.2.1 3, 10, .inl qk)), (yr, .inl (g.2.1 1, 24, .inl qr)), (ypa, .inl (g.2.1 1, 80, .inl qa)), (yd, .inl (g.2.1 1, 8, .inl d1)), (yu, .inl (g.2.1 1, 8, .inl p1)), (yse, .inl (g.2.1 1, 10, .inl qe)), (yin, .inl (g.2.1 1, 10, .inl qi)), (yw, .inl (g.2.1 1, 4, .inl qw)), (ysl, .inl (g.2.1 1, 10, .inl qs))]) (ci := 8) (C := RX9) (T := TX9) (N := 42) (v := .int x_3) (ty := .int) 0 F rfl rfl pz_inX9 16 (by decide) pw_824 tyX9_ok nmX9 rfl rfl rfl rfl (Nat.le_of_ble_eq_true rfl) dX9_cut_113 rfl ?_
    refine pz_aload_n 0 F rfl dX9_cut_116 rfl ?_
    refine pz_iload_n 1 F rfl dX9_cut_117 rfl ?_
    refine pz_aload_n 0 F rfl dX9_cut_118 rfl ?_
    refine pz_get (ci := 8) (C := RX9) (T := TX9) (N := 42) (v := .ref yse) 0 F rfl rfl pz_inX9 13 (by decide) pw_821 rfl dX9_cut_119 ?_
    refine pz_iload_n 1 F rfl dX9_cut_122 rfl ?_
    obtain ⟨h_4, vc⟩ := vc
    refine pz_iaload 6 F rfl h_4 dX9_cut_123 ?_
    obtain ⟨h_5, vc⟩ := vc
    refine pz_callV (nA := 2) (ci := 8) (C := RX9) (T := TX9) (N := 42) (As := [.int (nI b), .int (qe (nI b).toNatClampNeg)]) (rest := []) (wr := [(ysp, .inl (g.2.1 3, 10, .inl qk)), (yr, .inl (g.2.1 1, 24, .inl qr)), (ypa, .inl (g.2.1 1, 80, .inl qa)), (yd, .inl (g.2.1 1, 8, .inl d1)), (yu, .inl (g.2.1 1, 8, .inl p1)), (yse, .inl (g.2.1 1, 10, .inl qe)), (yw, .inl (g.2.1 1, 4, .inl qw)), (ysl, .inl (g.2.1 1, 10, .inl qs))]) F (ctX9_gradeAt _ g (qe (nI b).toNatClampNeg) h0 yt rT 0 yw yp yg yu ysl yin yse ysp ypa x_3 yb ybd ybc yr rF rP ywd rS rN rO rW rL rD yd rI rX rY rZ rU yro yc ybe yco rC rV qi G K M N b h_5) 0 rfl rfl pw_1060 pw_1062 pv_43 pw_8 pw_1063 (by decide +kernel) (by decide) (by decide) rfl rfl (Nat.le_of_ble_eq_true rfl) [0, 7] [1, 2, 3, 4, 5, 6, 8, 9] rfl rfl rfl rfl (by decide) dX9_cut_124 (fun r0 w0 hp0 => ?_)
    obtain ⟨r_6, _, rfl, rfl, hq_7⟩ := hp0
    replace vc := vc r_6  hq_7
    refine pz_eq (st' := [.int r_6]) (ws' := [(ysp, .inl (g.2.1 3, 10, .inl qk)), (yr, .inl (g.2.1 1, 24, .inl qr)), (ypa, .inl (g.2.1 1, 80, .inl qa)), (yd, .inl (g.2.1 1, 8, .inl d1)), (yu, .inl (g.2.1 1, 8, .inl p1)), (yse, .inl (g.2.1 1, 10, .inl qe)), (yw, .inl (g.2.1 1, 4, .inl qw)), (ysl, .inl (g.2.1 1, 10, .inl qs)), (h0, .inr (8, [.ref yt, .int rT, .int 0, .int (nI G), .ref yw, .int (nI K), .ref yp, .ref yg, .int (nI M), .ref yu, .int (nI N), .ref ysl, .ref yin, .ref yse, .ref ysp, .ref ypa, .int x_3, .ref yb, .ref ybd, .ref ybc, .ref yr, .int rF, .int rP, .ref ywd, .int rS, .int rN, .int rO, .int rW, .int rL, .int rD, .ref yd, .int rI, .int rX, .int rY, .int rZ, .int rU, .ref yro, .ref yc, .ref ybe, .ref yco, .long rC, .long rV])), (yin, .inl (g.2.1 1, 10, .inl qi))]) rfl rfl ?_
    refine pz_istore_n (lv' := [(2, .int r_6), (0, .ref h0), (1, .int (nI b))]) F dX9_cut_127 rfl (by decide) rfl ?_
    refine pz_aload_n 1 F rfl dX9_cut_128 rfl ?_
    refine pz_iload_n 2 F rfl dX9_cut_129 rfl ?_
    refine pz_aload_n 1 F rfl dX9_cut_130 rfl ?_
    refine pz_get (ci := 8) (C := RX9) (T := TX9) (N := 42) (v := .ref yw) 8 F rfl rfl pz_inX9 4 (by decide) pw_812 rfl dX9_cut_131 ?_
    refine pz_iload_n 0 F rfl dX9_cut_134 rfl ?_
    obtain ⟨h_8, vc⟩ := vc
    refine pz_iaload 6 F rfl h_8 dX9_cut_135 ?_
    obtain ⟨h_9, vc⟩ := vc
    refine pz_callV (nA := 2) (ci := 8) (C := RX9) (T := TX9) (N := 42) (As := [.int (nI b), .int (qw r_6.toNatClampNeg)]) (rest := []) (wr := [(ysp, .inl (g.2.1 3, 10, .inl qk)), (yr, .inl (g.2.1 1, 24, .inl qr)), (yse, .inl (g.2.1 1, 10, .inl qe)), (yw, .inl (g.2.1 1, 4, .inl qw)), (ysl, .inl (g.2.1 1, 10, .inl qs)), (yin, .inl (g.2.1 1, 10, .inl qi))]) F (ctX9_pay _ g (qw r_6.toNatClampNeg) h0 yt rT 0 yw yp yg yu ysl yin yse ysp ypa x_3 yb ybd ybc yr rF rP ywd rS rN rO rW rL rD yd rI rX rY rZ rU yro yc ybe yco rC rV qa d1 p1 G K M N b h_9) 8 rfl rfl pw_1044 pw_1046 pv_41 pw_8 pw_1047 (by decide +kernel) (by decide) (by decide) rfl rfl (Nat.le_of_ble_eq_true rfl) [8, 2, 3, 4] [0, 1, 5, 6, 7, 9] rfl rfl rfl rfl (by decide) dX9_cut_136 (fun r0 w0 hp0 => ?_)
    obtain ⟨⟨d2_10, u2_11⟩, rfl, rfl, hq_12⟩ := hp0
    replace vc := vc d2_10 u2_11 hq_12
    refine pz_eq (st' := []) (ws' := [(ysp, .inl (g.2.1 3, 10, .inl qk)), (yr, .inl (g.2.1 1, 24, .inl qr)), (yse, .inl (g.2.1 1, 10, .inl qe)), (yw, .inl (g.2.1 1, 4, .inl qw)), (ysl, .inl (g.2.1 1, 10, .inl qs)), (yin, .inl (g.2.1 1, 10, .inl qi)), (h0, .inr (8, [.ref yt, .int rT, .int 0, .int (nI G), .ref yw, .int (nI K), .ref yp, .ref yg, .int (nI M), .ref yu, .int (nI N), .ref ysl, .ref yin, .ref yse, .ref ysp, .ref ypa, .int x_3, .ref yb, .ref ybd, .ref ybc, .ref yr, .int rF, .int rP, .ref ywd, .int rS, .int rN, .int rO, .int rW, .int rL, .int rD, .ref yd, .int rI, .int rX, .int rY, .int rZ, .int rU, .ref yro, .ref yc, .ref ybe, .ref yco, .long rC, .long rV])), (ypa, .inl (g.2.1 1, 80, .inl qa)), (yd, .inl (g.2.1 1, 8, .inl d2_10)), (yu, .inl (g.2.1 1, 8, .inl u2_11))]) rfl rfl ?_
    refine pz_aload_n 1 F rfl dX9_cut_139 rfl ?_
    refine pz_get (ci := 8) (C := RX9) (T := TX9) (N := 42) (v := .ref yse) 6 F rfl rfl pz_inX9 13 (by decide) pw_821 rfl dX9_cut_140 ?_
    refine pz_iload_n 2 F rfl dX9_cut_143 rfl ?_
    refine pz_dup2 F dX9_cut_144 rfl rfl ?_
    obtain ⟨h_13, vc⟩ := vc
    refine pz_iaload 2 F rfl h_13 dX9_cut_145 ?_
    refine pz_iconst (v := 1) F dX9_cut_146 rfl ?_
    refine pz_iadd F dX9_cut_147 ?_
    refine pz_topi (fun x_14 ex_14 => ?_)
    replace vc := vc x_14 ex_14
    obtain ⟨h_15, vc⟩ := vc
    obtain ⟨f_16, ef_16⟩ : ∃ z : Nat → Int32, z = upd qe (nI b).toNatClampNeg x_14 := ⟨_, rfl⟩
    replace vc := vc f_16 ef_16
    refine pz_iastore (ws' := [(ysp, .inl (g.2.1 3, 10, .inl qk)), (yr, .inl (g.2.1 1, 24, .inl qr)), (yse, .inl (g.2.1 1, 10, .inl f_16)), (yw, .inl (g.2.1 1, 4, .inl qw)), (ysl, .inl (g.2.1 1, 10, .inl qs)), (yin, .inl (g.2.1 1, 10, .inl qi)), (h0, .inr (8, [.ref yt, .int rT, .int 0, .int (nI G), .ref yw, .int (nI K), .ref yp, .ref yg, .int (nI M), .ref yu, .int (nI N), .ref ysl, .ref yin, .ref yse, .ref ysp, .ref ypa, .int x_3, .ref yb, .ref ybd, .ref ybc, .ref yr, .int rF, .int rP, .ref ywd, .int rS, .int rN, .int rO, .int rW, .int rL, .int rD, .ref yd, .int rI, .int rX, .int rY, .int rZ, .int rU, .ref yro, .ref yc, .ref ybe, .ref yco, .long rC, .long rV])), (ypa, .inl (g.2.1 1, 80, .inl qa)), (yd, .inl (g.2.1 1, 8, .inl d2_10)), (yu, .inl (g.2.1 1, 8, .inl u2_11))]) F 2 rfl h_15 dX9_cut_148 (by rw [ef_16]; rfl) ?_
    refine pz_aload_n 1 F rfl dX9_cut_149 rfl ?_
    refine pz_get (ci := 8) (C := RX9) (T := TX9) (N := 42) (v := .ref ysp) 6 F rfl rfl pz_inX9 14 (by decide) pw_822 rfl dX9_cut_150 ?_
    refine pz_iload_n 2 F rfl dX9_cut_153 rfl ?_
    refine pz_aload_n 1 F rfl dX9_cut_154 rfl ?_
    refine pz_get (ci := 8) (C := RX9) (T := TX9) (N := 42) (v := .ref yse) 6 F rfl rfl pz_inX9 13 (by decide) pw_821 rfl dX9_cut_155 ?_
    refine pz_iload_n 2 F rfl dX9_cut_158 rfl ?_
    obtain ⟨h_17, vc⟩ := vc
    refine pz_iaload 2 F rfl h_17 dX9_cut_159 ?_
    refine pz_aload_n 1 F rfl dX9_cut_160 rfl ?_
    refine pz_get (ci := 8) (C := RX9) (T := TX9) (N := 42) (v := .ref ysl) 6 F rfl rfl pz_inX9 11 (by decide) pw_819 rfl dX9_cut_161 ?_
    refine pz_iload_n 2 F rfl dX9_cut_164 rfl ?_
    obtain ⟨h_18, vc⟩ := vc
    refine pz_iaload 4 F rfl h_18 dX9_cut_165 ?_
    refine pz_icmp_ne (tgt := 173) F dX9_cut_166 (by decide) (fun q_19 => ?_) (fun q_19 => ?_)
    · replace vc := vc.1 q_19
      refine pz_iconst (v := 0) F dX9_cut_173 rfl ?_
      obtain ⟨h_20, vc⟩ := vc
      obtain ⟨f_21, ef_21⟩ : ∃ z : Nat → Int32, z = upd qk (nI b).toNatClampNeg (vp_nar .boolean 0) := ⟨_, rfl⟩
      replace vc := vc f_21 ef_21
      refine pz_zastore (ws' := [(ysp, .inl (g.2.1 3, 10, .inl f_21)), (yr, .inl (g.2.1 1, 24, .inl qr)), (yse, .inl (g.2.1 1, 10, .inl f_16)), (yw, .inl (g.2.1 1, 4, .inl qw)), (ysl, .inl (g.2.1 1, 10, .inl qs)), (yin, .inl (g.2.1 1, 10, .inl qi)), (h0, .inr (8, [.ref yt, .int rT, .int 0, .int (nI G), .ref yw, .int (nI K), .ref yp, .ref yg, .int (nI M), .ref yu, .int (nI N), .ref ysl, .ref yin, .ref yse, .ref ysp, .ref ypa, .int x_3, .ref yb, .ref ybd, .ref ybc, .ref yr, .int rF, .int rP, .ref ywd, .int rS, .int rN, .int rO, .int rW, .int rL, .int rD, .ref yd, .int rI, .int rX, .int rY, .int rZ, .int rU, .ref yro, .ref yc, .ref ybe, .ref yco, .long rC, .long rV])), (ypa, .inl (g.2.1 1, 80, .inl qa)), (yd, .inl (g.2.1 1, 8, .inl d2_10)), (yu, .inl (g.2.1 1, 8, .inl u2_11))]) F 0 rfl h_20 dX9_cut_174 (by rw [ef_21]; rfl) ?_
      refine pz_iload_n 0 F rfl dX9_cut_175 rfl ?_
      exact pz_ireturn (w1 := [(h0, .inr (8, [.ref yt, .int rT, .int 0, .int (nI G), .ref yw, .int (nI K), .ref yp, .ref yg, .int (nI M), .ref yu, .int (nI N), .ref ysl, .ref yin, .ref yse, .ref ysp, .ref ypa, .int x_3, .ref yb, .ref ybd, .ref ybc, .ref yr, .int rF, .int rP, .ref ywd, .int rS, .int rN, .int rO, .int rW, .int rL, .int rD, .ref yd, .int rI, .int rX, .int rY, .int rZ, .int rU, .ref yro, .ref yc, .ref ybe, .ref yco, .long rC, .long rV])), (ysp, .inl (g.2.1 3, 10, .inl f_21)), (yr, .inl (g.2.1 1, 24, .inl qr)), (ypa, .inl (g.2.1 1, 80, .inl qa)), (yd, .inl (g.2.1 1, 8, .inl d2_10)), (yu, .inl (g.2.1 1, 8, .inl u2_11)), (yse, .inl (g.2.1 1, 10, .inl f_16)), (yin, .inl (g.2.1 1, 10, .inl qi)), (yw, .inl (g.2.1 1, 4, .inl qw)), (ysl, .inl (g.2.1 1, 10, .inl qs))]) F Rt (by decide) (by decide) dX9_cut_176 [6, 0, 1, 7, 8, 9, 2, 5, 3, 4] rfl rfl rfl vc
    · replace vc := vc.2 q_19
      refine pz_iconst (v := 1) F dX9_cut_169 rfl ?_
      refine pz_goto (tgt := 174) F dX9_cut_170 (by decide) ?_
      obtain ⟨h_22, vc⟩ := vc
      obtain ⟨f_23, ef_23⟩ : ∃ z : Nat → Int32, z = upd qk (nI b).toNatClampNeg (vp_nar .boolean 1) := ⟨_, rfl⟩
      replace vc := vc f_23 ef_23
      refine pz_zastore (ws' := [(ysp, .inl (g.2.1 3, 10, .inl f_23)), (yr, .inl (g.2.1 1, 24, .inl qr)), (yse, .inl (g.2.1 1, 10, .inl f_16)), (yw, .inl (g.2.1 1, 4, .inl qw)), (ysl, .inl (g.2.1 1, 10, .inl qs)), (yin, .inl (g.2.1 1, 10, .inl qi)), (h0, .inr (8, [.ref yt, .int rT, .int 0, .int (nI G), .ref yw, .int (nI K), .ref yp, .ref yg, .int (nI M), .ref yu, .int (nI N), .ref ysl, .ref yin, .ref yse, .ref ysp, .ref ypa, .int x_3, .ref yb, .ref ybd, .ref ybc, .ref yr, .int rF, .int rP, .ref ywd, .int rS, .int rN, .int rO, .int rW, .int rL, .int rD, .ref yd, .int rI, .int rX, .int rY, .int rZ, .int rU, .ref yro, .ref yc, .ref ybe, .ref yco, .long rC, .long rV])), (ypa, .inl (g.2.1 1, 80, .inl qa)), (yd, .inl (g.2.1 1, 8, .inl d2_10)), (yu, .inl (g.2.1 1, 8, .inl u2_11))]) F 0 rfl h_22 dX9_cut_174 (by rw [ef_23]; rfl) ?_
      refine pz_iload_n 0 F rfl dX9_cut_175 rfl ?_
      exact pz_ireturn (w1 := [(h0, .inr (8, [.ref yt, .int rT, .int 0, .int (nI G), .ref yw, .int (nI K), .ref yp, .ref yg, .int (nI M), .ref yu, .int (nI N), .ref ysl, .ref yin, .ref yse, .ref ysp, .ref ypa, .int x_3, .ref yb, .ref ybd, .ref ybc, .ref yr, .int rF, .int rP, .ref ywd, .int rS, .int rN, .int rO, .int rW, .int rL, .int rD, .ref yd, .int rI, .int rX, .int rY, .int rZ, .int rU, .ref yro, .ref yc, .ref ybe, .ref yco, .long rC, .long rV])), (ysp, .inl (g.2.1 3, 10, .inl f_23)), (yr, .inl (g.2.1 1, 24, .inl qr)), (ypa, .inl (g.2.1 1, 80, .inl qa)), (yd, .inl (g.2.1 1, 8, .inl d2_10)), (yu, .inl (g.2.1 1, 8, .inl u2_11)), (yse, .inl (g.2.1 1, 10, .inl f_16)), (yin, .inl (g.2.1 1, 10, .inl qi)), (yw, .inl (g.2.1 1, 4, .inl qw)), (ysl, .inl (g.2.1 1, 10, .inl qs))]) F Rt (by decide) (by decide) dX9_cut_176 [6, 0, 1, 7, 8, 9, 2, 5, 3, 4] rfl rfl rfl vc
  · replace vc := vc.2 q_1
    refine pz_aload_n 0 F rfl dX9_cut_79 rfl ?_
    refine pz_get (ci := 8) (C := RX9) (T := TX9) (N := 42) (v := .ref yu) 0 F rfl rfl pz_inX9 9 (by decide) pw_817 rfl dX9_cut_80 ?_
    refine pz_iload_n 2 F rfl dX9_cut_83 rfl ?_
    refine pz_dup2 F dX9_cut_84 rfl rfl ?_
    obtain ⟨h_24, vc⟩ := vc
    refine pz_iaload 5 F rfl h_24 dX9_cut_85 ?_
    refine pz_aload_n 0 F rfl dX9_cut_86 rfl ?_
    refine pz_get (ci := 8) (C := RX9) (T := TX9) (N := 42) (v := .ref yd) 0 F rfl rfl pz_inX9 30 (by decide) pw_838 rfl dX9_cut_87 ?_
    refine pz_iload_n 2 F rfl dX9_cut_90 rfl ?_
    obtain ⟨h_25, vc⟩ := vc
    refine pz_iaload 4 F rfl h_25 dX9_cut_91 ?_
    refine pz_isub F dX9_cut_92 ?_
    refine pz_topi (fun x_26 ex_26 => ?_)
    replace vc := vc x_26 ex_26
    obtain ⟨h_27, vc⟩ := vc
    obtain ⟨f_28, ef_28⟩ : ∃ z : Nat → Int32, z = upd p1 i.toNatClampNeg x_26 := ⟨_, rfl⟩
    replace vc := vc f_28 ef_28
    refine pz_iastore (ws' := [(h0, .inr (8, [.ref yt, .int rT, .int 0, .int (nI G), .ref yw, .int (nI K), .ref yp, .ref yg, .int (nI M), .ref yu, .int (nI N), .ref ysl, .ref yin, .ref yse, .ref ysp, .ref ypa, .int rA, .ref yb, .ref ybd, .ref ybc, .ref yr, .int rF, .int rP, .ref ywd, .int rS, .int rN, .int rO, .int rW, .int rL, .int rD, .ref yd, .int rI, .int rX, .int rY, .int rZ, .int rU, .ref yro, .ref yc, .ref ybe, .ref yco, .long rC, .long rV])), (ysp, .inl (g.2.1 3, 10, .inl qk)), (yr, .inl (g.2.1 1, 24, .inl qr)), (ypa, .inl (g.2.1 1, 80, .inl qa)), (yd, .inl (g.2.1 1, 8, .inl d1)), (yu, .inl (g.2.1 1, 8, .inl f_28)), (yse, .inl (g.2.1 1, 10, .inl qe)), (yin, .inl (g.2.1 1, 10, .inl qi)), (yw, .inl (g.2.1 1, 4, .inl qw)), (ysl, .inl (g.2.1 1, 10, .inl qs))]) F 5 rfl h_27 dX9_cut_93 (by rw [ef_28]; rfl) ?_
    obtain ⟨x_29, ex_29⟩ : ∃ z : Int32, z = i + 1 := ⟨_, rfl⟩
    replace vc := vc x_29 ex_29
    refine pz_iinc (v := x_29) (lv' := [(2, .int x_29), (0, .ref h0), (1, .int (nI b))]) 2 F rfl dX9_cut_94 (by rw [ex_29]; rfl) (by decide) rfl ?_
    refine pz_goto (tgt := 71) F dX9_cut_97 (by decide) ?_
    exact pz_sub [1, 2, 0] [0, 1, 2, 3, 4, 5, 6, 7, 8, 9] rfl rfl rfl (hT71 x_29 d1 f_28 vc)
theorem lpX9_cut_T_71 {B : pz_B} {g : pz_G} {wc : va_W} {Post : Option Value → va_W → Prop} (F : pz_F B cX9_cut 3 (some .int) yX9_cut.cls g rmX9_cut_T) (Rt : pz_Rt B g wc Post rmX9_cut_T) (h0 : Nat) (yt : Nat) (rT : Int32) (rH : Int32) (yw : Nat) (yp : Nat) (yg : Nat) (yu : Nat) (ysl : Nat) (yin : Nat) (yse : Nat) (ysp : Nat) (ypa : Nat) (rA : Int32) (yb : Nat) (ybd : Nat) (ybc : Nat) (yr : Nat) (rF : Int32) (rP : Int32) (ywd : Nat) (rS : Int32) (rN : Int32) (rO : Int32) (rW : Int32) (rL : Int32) (rD : Int32) (yd : Nat) (rI : Int32) (rX : Int32) (rY : Int32) (rZ : Int32) (rU : Int32) (yro : Nat) (yc : Nat) (ybe : Nat) (yco : Nat) (rC : Int64) (rV : Int64) (qk : Nat → Int32) (qr : Nat → Int32) (qa : Nat → Int32) (qD : Nat → Int32) (qu : Nat → Int32) (qe : Nat → Int32) (qi : Nat → Int32) (qw : Nat → Int32) (qs : Nat → Int32) (G : Nat) (K : Nat) (M : Nat) (N : Nat) (b : Nat) (Inv : Nat → Int32 → (Nat → Int32) → (Nat → Int32) → Prop) (step : ∀ (mz : Nat) (i : Int32) (d1 : Nat → Int32) (p1 : Nat → Int32), Inv mz i d1 p1 → ∀ TT : Int32 → (Nat → Int32) → (Nat → Int32) → Prop, TT = (fun i d1 p1 => ∃ mz', mz' < mz ∧ Inv mz' i d1 p1) → (((nI M) ≤ i → vp_in 6 24 ∧ ∀ x_3 : Int32, x_3 = (rA + (qr (6 : Int32).toNatClampNeg)) → vp_in (nI b) 10 ∧ (b < 10) ∧ ∀ r_6 : Int32, ∀ _ : (r_6 = pu_gi (qi b) (qe (nI b).toNatClampNeg)), vp_in r_6 4 ∧ (b < 10 ∧ M ≤ 8 ∧ ∀ v, v < 8 → ¬ qa (8 * b + v) < 0) ∧ ∀ d2_10 : Nat → Int32, ∀ u2_11 : Nat → Int32, ∀ _ : (∀ a, a < 8 → u2_11 a = if a < M then p1 a + dv_f (sl8 qa b) 8 (qw r_6.toNatClampNeg) a else p1 a), vp_in (nI b) 10 ∧ ∀ x_14 : Int32, x_14 = ((qe (nI b).toNatClampNeg) + 1) → vp_in (nI b) 10 ∧ ∀ f_16 : Nat → Int32, f_16 = upd qe (nI b).toNatClampNeg x_14 → vp_in (nI b) 10 ∧ vp_in (nI b) 10 ∧ ((¬ (f_16 (nI b).toNatClampNeg) = (qs (nI b).toNatClampNeg) → vp_in (nI b) 10 ∧ ∀ f_21 : Nat → Int32, f_21 = upd qk (nI b).toNatClampNeg (vp_nar .boolean 0) → Post (some (.int r_6)) [(h0, .inr (8, [.ref yt, .int rT, .int 0, .int (nI G), .ref yw, .int (nI K), .ref yp, .ref yg, .int (nI M), .ref yu, .int (nI N), .ref ysl, .ref yin, .ref yse, .ref ysp, .ref ypa, .int x_3, .ref yb, .ref ybd, .ref ybc, .ref yr, .int rF, .int rP, .ref ywd, .int rS, .int rN, .int rO, .int rW, .int rL, .int rD, .ref yd, .int rI, .int rX, .int rY, .int rZ, .int rU, .ref yro, .ref yc, .ref ybe, .ref yco, .long rC, .long rV])), (ysp, .inl (g.2.1 3, 10, .inl f_21)), (yr, .inl (g.2.1 1, 24, .inl qr)), (ypa, .inl (g.2.1 1, 80, .inl qa)), (yd, .inl (g.2.1 1, 8, .inl d2_10)), (yu, .inl (g.2.1 1, 8, .inl u2_11)), (yse, .inl (g.2.1 1, 10, .inl f_16)), (yin, .inl (g.2.1 1, 10, .inl qi)), (yw, .inl (g.2.1 1, 4, .inl qw)), (ysl, .inl (g.2.1 1, 10, .inl qs))]) ∧ ((f_16 (nI b).toNatClampNeg) = (qs (nI b).toNatClampNeg) → vp_in (nI b) 10 ∧ ∀ f_23 : Nat → Int32, f_23 = upd qk (nI b).toNatClampNeg (vp_nar .boolean 1) → Post (some (.int r_6)) [(h0, .inr (8, [.ref yt, .int rT, .int 0, .int (nI G), .ref yw, .int (nI K), .ref yp, .ref yg, .int (nI M), .ref yu, .int (nI N), .ref ysl, .ref yin, .ref yse, .ref ysp, .ref ypa, .int x_3, .ref yb, .ref ybd, .ref ybc, .ref yr, .int rF, .int rP, .ref ywd, .int rS, .int rN, .int rO, .int rW, .int rL, .int rD, .ref yd, .int rI, .int rX, .int rY, .int rZ, .int rU, .ref yro, .ref yc, .ref ybe, .ref yco, .long rC, .long rV])), (ysp, .inl (g.2.1 3, 10, .inl f_23)), (yr, .inl (g.2.1 1, 24, .inl qr)), (ypa, .inl (g.2.1 1, 80, .inl qa)), (yd, .inl (g.2.1 1, 8, .inl d2_10)), (yu, .inl (g.2.1 1, 8, .inl u2_11)), (yse, .inl (g.2.1 1, 10, .inl f_16)), (yin, .inl (g.2.1 1, 10, .inl qi)), (yw, .inl (g.2.1 1, 4, .inl qw)), (ysl, .inl (g.2.1 1, 10, .inl qs))]))) ∧ (¬ (nI M) ≤ i → vp_in i 8 ∧ vp_in i 8 ∧ ∀ x_26 : Int32, x_26 = ((p1 i.toNatClampNeg) - (d1 i.toNatClampNeg)) → vp_in i 8 ∧ ∀ f_28 : Nat → Int32, f_28 = upd p1 i.toNatClampNeg x_26 → ∀ x_29 : Int32, x_29 = i + 1 → TT x_29 d1 f_28))) : ∀ (mz : Nat) (i : Int32) (d1 : Nat → Int32) (p1 : Nat → Int32), Inv mz i d1 p1 → paX9_cut_T_71 B g h0 yt rT rH yw yp yg yu ysl yin yse ysp ypa rA yb ybd ybc yr rF rP ywd rS rN rO rW rL rD yd rI rX rY rZ rU yro yc ybe yco rC rV qk qr qa qD qu qe qi qw qs G K M N b i d1 p1 := by
  intro mz
  induction mz using Nat.strongRecOn with
  | _ mz ih =>
    intro i d1 p1 hI
    exact sgX9_cut_T_71 F Rt h0 yt rT rH yw yp yg yu ysl yin yse ysp ypa rA yb ybd ybc yr rF rP ywd rS rN rO rW rL rD yd rI rX rY rZ rU yro yc ybe yco rC rV qk qr qa qD qu qe qi qw qs G K M N b (fun i d1 p1 => ∃ mz', mz' < mz ∧ Inv mz' i d1 p1) (fun i d1 p1 ⟨mz', h1, h2⟩ => ih mz' h1 i d1 p1 h2) i d1 p1 (step mz i d1 p1 hI _ rfl)
set_option maxHeartbeats 4000000 in
set_option maxRecDepth 100000 in
theorem ctX9_cut_T (l : Launch) (g : pz_G) (h0 : Nat) (yt : Nat) (rT : Int32) (rH : Int32) (yw : Nat) (yp : Nat) (yg : Nat) (yu : Nat) (ysl : Nat) (yin : Nat) (yse : Nat) (ysp : Nat) (ypa : Nat) (rA : Int32) (yb : Nat) (ybd : Nat) (ybc : Nat) (yr : Nat) (rF : Int32) (rP : Int32) (ywd : Nat) (rS : Int32) (rN : Int32) (rO : Int32) (rW : Int32) (rL : Int32) (rD : Int32) (yd : Nat) (rI : Int32) (rX : Int32) (rY : Int32) (rZ : Int32) (rU : Int32) (yro : Nat) (yc : Nat) (ybe : Nat) (yco : Nat) (rC : Int64) (rV : Int64) (qk : Nat → Int32) (qr : Nat → Int32) (qa : Nat → Int32) (qD : Nat → Int32) (qu : Nat → Int32) (qe : Nat → Int32) (qi : Nat → Int32) (qw : Nat → Int32) (qs : Nat → Int32) (G : Nat) (K : Nat) (M : Nat) (N : Nat) (b : Nat) (hpre : b < N ∧ N ≤ 10 ∧ M ≤ 8 ∧ (∀ v, v < 8 → ¬ qa (8 * b + v) < 0) ∧ qk b = 0) : pz_Ct l g yX9_cut cX9_cut 3 (some .int) rmX9_cut_T [.ref h0, .int (nI b)] [(h0, .inr (8, [.ref yt, .int rT, .int rH, .int (nI G), .ref yw, .int (nI K), .ref yp, .ref yg, .int (nI M), .ref yu, .int (nI N), .ref ysl, .ref yin, .ref yse, .ref ysp, .ref ypa, .int rA, .ref yb, .ref ybd, .ref ybc, .ref yr, .int rF, .int rP, .ref ywd, .int rS, .int rN, .int rO, .int rW, .int rL, .int rD, .ref yd, .int rI, .int rX, .int rY, .int rZ, .int rU, .ref yro, .ref yc, .ref ybe, .ref yco, .long rC, .long rV])), (ysp, .inl (g.2.1 3, 10, .inl qk)), (yr, .inl (g.2.1 1, 24, .inl qr)), (ypa, .inl (g.2.1 1, 80, .inl qa)), (yd, .inl (g.2.1 1, 8, .inl qD)), (yu, .inl (g.2.1 1, 8, .inl qu)), (yse, .inl (g.2.1 1, 10, .inl qe)), (yin, .inl (g.2.1 1, 10, .inl qi)), (yw, .inl (g.2.1 1, 4, .inl qw)), (ysl, .inl (g.2.1 1, 10, .inl qs))] (pz_pi (fun (r : Int32) (u : Int32 × (Nat → Int32) × (Nat → Int32) × (Nat → Int32) × (Nat → Int32)) => ((∃ a, a < M ∧ 0 < dv_f (sl8 qa b) 8 (qr 6) a ∧ qu a < dv_f (sl8 qa b) 8 (qr 6) a) ∧ r = -1 ∧ u.1 = rA ∧ u.2.1 = qe ∧ u.2.2.1 = qk ∧ u.2.2.2.1 = qu) ∨ (¬ (∃ a, a < M ∧ 0 < dv_f (sl8 qa b) 8 (qr 6) a ∧ qu a < dv_f (sl8 qa b) 8 (qr 6) a) ∧ r = (pu_gi (qi b) (qe b)) ∧ u.1 = rA + qr 6 ∧ u.2.1 = upd qe b (qe b + 1) ∧ u.2.2.1 = upd qk b (if qe b + 1 = qs b then 1 else 0) ∧ ∀ a, a < 8 → u.2.2.2.1 a = if a < M then qu a - dv_f (sl8 qa b) 8 (qr 6) a + dv_f (sl8 qa b) 8 (qw (pu_gi (qi b) (qe b)).toNatClampNeg) a else qu a)) (fun (u : Int32 × (Nat → Int32) × (Nat → Int32) × (Nat → Int32) × (Nat → Int32)) => [(h0, .inr (8, [.ref yt, .int rT, .int 0, .int (nI G), .ref yw, .int (nI K), .ref yp, .ref yg, .int (nI M), .ref yu, .int (nI N), .ref ysl, .ref yin, .ref yse, .ref ysp, .ref ypa, .int u.1, .ref yb, .ref ybd, .ref ybc, .ref yr, .int rF, .int rP, .ref ywd, .int rS, .int rN, .int rO, .int rW, .int rL, .int rD, .ref yd, .int rI, .int rX, .int rY, .int rZ, .int rU, .ref yro, .ref yc, .ref ybe, .ref yco, .long rC, .long rV])), (ysp, .inl (g.2.1 3, 10, .inl u.2.2.1)), (yr, .inl (g.2.1 1, 24, .inl qr)), (ypa, .inl (g.2.1 1, 80, .inl qa)), (yd, .inl (g.2.1 1, 8, .inl u.2.2.2.2)), (yu, .inl (g.2.1 1, 8, .inl u.2.2.2.1)), (yse, .inl (g.2.1 1, 10, .inl u.2.1)), (yin, .inl (g.2.1 1, 10, .inl qi)), (yw, .inl (g.2.1 1, 4, .inl qw)), (ysl, .inl (g.2.1 1, 10, .inl qs))])) := by
  refine pz_ofAt (by decide +kernel) (Nat.le_of_ble_eq_true rfl) (fun B F Rt hme => ?_)
  obtain ⟨hb, hN, hM, hnn, hk⟩ := hpre
  have hin : vp_in (nI b) 10 := vp_in_nI (by omega) (by omega)
  have hwh : wh_ok (nI b) N qk := ⟨⟨nI_pos (by omega), nI_lt hb (by omega)⟩, by rw [nI_clamp (by omega)]; exact hk⟩
  have e6 : (6 : Int32).toNatClampNeg = 6 := by decide
  obtain ⟨gj, hgj, eg⟩ := pu_gi4 (qi b) (qe b)
  have h71 : ¬ (∃ a, a < M ∧ 0 < dv_f (sl8 qa b) 8 (qr 6) a ∧ qu a < dv_f (sl8 qa b) 8 (qr 6) a) → ∀ (mz : Nat) (i : Int32) (d1 p1 : Nat → Int32), (∃ j, j + mz = M ∧ i = nI j ∧ (∀ a, a < 8 → d1 a = dv_f (sl8 qa b) 8 (qr 6) a) ∧ (∀ a, a < 8 → p1 a = if a < j then qu a - dv_f (sl8 qa b) 8 (qr 6) a else qu a)) → paX9_cut_T_71 B g h0 yt rT rH yw yp yg yu ysl yin yse ysp ypa rA yb ybd ybc yr rF rP ywd rS rN rO rW rL rD yd rI rX rY rZ rU yro yc ybe yco rC rV qk qr qa qD qu qe qi qw qs G K M N b i d1 p1 := fun hno => lpX9_cut_T_71 F Rt h0 yt rT rH yw yp yg yu ysl yin yse ysp ypa rA yb ybd ybc yr rF rP ywd rS rN rO rW rL rD yd rI rX rY rZ rU yro yc ybe yco rC rV qk qr qa qD qu qe qi qw qs G K M N b (fun mz i d1 p1 => ∃ j, j + mz = M ∧ i = nI j ∧ (∀ a, a < 8 → d1 a = dv_f (sl8 qa b) 8 (qr 6) a) ∧ (∀ a, a < 8 → p1 a = if a < j then qu a - dv_f (sl8 qa b) 8 (qr 6) a else qu a)) (by
    rintro m i d1 p1 ⟨j, hj, rfl, hd, hp1⟩ TT rfl
    refine ⟨fun q => ?_, fun q => ?_⟩
    · have h1 := pu_ge (by omega) q
      have ej : j = M := by omega
      subst ej
      rw [e6, nI_clamp (by omega)]
      refine ⟨vp_in_nI (n := 6) (N := 24) (by omega) (by omega), ?_⟩
      rintro x1 rfl
      refine ⟨hin, by omega, ?_⟩
      rintro r1 rfl
      refine ⟨by rw [eg]; exact vp_in_nI hgj (by omega), ⟨by omega, hM, hnn⟩, fun d2 u2 h2 => ⟨hin, ?_⟩⟩
      rintro x2 rfl
      refine ⟨hin, ?_⟩
      rintro f rfl
      rw [pk_us]
      have hu : ∀ a, a < 8 → u2 a = if a < j then qu a - dv_f (sl8 qa b) 8 (qr 6) a + dv_f (sl8 qa b) 8 (qw (pu_gi (qi b) (qe b)).toNatClampNeg) a else qu a := by
        intro a ha
        rw [h2 a ha, hp1 a ha]
        by_cases q : a < j
        · rw [if_pos q, if_pos q, if_pos q]
        · rw [if_neg q, if_neg q, if_neg q]
      refine ⟨hin, hin, fun q2 => ⟨hin, ?_⟩, fun q2 => ⟨hin, ?_⟩⟩
      · rintro f2 rfl
        exact ⟨_, (_, _, _, _, _), rfl, rfl, Or.inr ⟨hno, rfl, rfl, rfl, by rw [if_neg q2]; rfl, hu⟩⟩
      · rintro f2 rfl
        exact ⟨_, (_, _, _, _, _), rfl, rfl, Or.inr ⟨hno, rfl, rfl, rfl, by rw [if_pos q2]; rfl, hu⟩⟩
    · have h1 := pu_lt (by omega) (by omega) q
      have hij : vp_in (nI j) 8 := vp_in_nI (by omega) (by omega)
      refine ⟨hij, hij, ?_⟩
      rintro x rfl
      refine ⟨hij, ?_⟩
      rintro f rfl y rfl
      rw [nI_clamp (by omega)]
      refine ⟨m - 1, by omega, j + 1, by omega, nI_1 j, hd, fun a ha => ?_⟩
      by_cases hj2 : a = j
      · rw [hj2, pk_us, if_pos (by omega), hp1 j (by omega), if_neg (by omega), hd j (by omega)]
      · rw [pk_un hj2, hp1 a ha]
        by_cases h2 : a < j
        · rw [if_pos h2, if_pos (by omega)]
        · rw [if_neg h2, if_neg (by omega)])
  have h29 := lpX9_cut_T_29 F Rt h0 yt rT rH yw yp yg yu ysl yin yse ysp ypa rA yb ybd ybc yr rF rP ywd rS rN rO rW rL rD yd rI rX rY rZ rU yro yc ybe yco rC rV qk qr qa qD qu qe qi qw qs G K M N b (fun i d1 p1 => ¬ (∃ a, a < M ∧ 0 < dv_f (sl8 qa b) 8 (qr 6) a ∧ qu a < dv_f (sl8 qa b) 8 (qr 6) a) ∧ (∃ j, j + M = M ∧ i = nI j ∧ (∀ a, a < 8 → d1 a = dv_f (sl8 qa b) 8 (qr 6) a) ∧ (∀ a, a < 8 → p1 a = if a < j then qu a - dv_f (sl8 qa b) 8 (qr 6) a else qu a))) (fun i d1 p1 h => h71 h.1 M i d1 p1 h.2) (fun mz i d1 => ∃ j, j + mz = M ∧ i = nI j ∧ (∀ a, a < 8 → d1 a = dv_f (sl8 qa b) 8 (qr 6) a) ∧ ∀ a, a < j → ¬ (0 < dv_f (sl8 qa b) 8 (qr 6) a ∧ qu a < dv_f (sl8 qa b) 8 (qr 6) a)) (by
    rintro m i d1 ⟨j, hj, rfl, hd, hp1⟩ TT rfl
    refine ⟨fun q => ?_, fun q => ?_⟩
    · have h1 := pu_ge (by omega) q
      refine ⟨?_, 0, by omega, nI_0.symm, hd, fun a ha => by rw [if_neg (by omega)]⟩
      rintro ⟨a, k1, k2, k3⟩
      exact hp1 a (by omega) ⟨k2, k3⟩
    · have h1 := pu_lt (by omega) (by omega) q
      have hij : vp_in (nI j) 8 := vp_in_nI (by omega) (by omega)
      have hgo : ¬ (0 < dv_f (sl8 qa b) 8 (qr 6) j ∧ qu j < dv_f (sl8 qa b) 8 (qr 6) j) → ∀ y : Int32, y = nI j + 1 → ∃ mz', mz' < m ∧ ∃ j, j + mz' = M ∧ y = nI j ∧ (∀ a, a < 8 → d1 a = dv_f (sl8 qa b) 8 (qr 6) a) ∧ ∀ a, a < j → ¬ (0 < dv_f (sl8 qa b) 8 (qr 6) a ∧ qu a < dv_f (sl8 qa b) 8 (qr 6) a) := by
        rintro hn y rfl
        refine ⟨m - 1, by omega, j + 1, by omega, nI_1 j, hd, fun a ha => ?_⟩
        by_cases e : a = j
        · rw [e]; exact hn
        · exact hp1 a (by omega)
      rw [nI_clamp (by omega), hd j (by omega)]
      refine ⟨hij, fun q2 => hgo (fun h => absurd h.1 (Int32.not_lt.mpr q2)), fun q2 => ⟨hij, hij, fun q3 => hgo (fun h => absurd h.2 (Int32.not_lt.mpr q3)), fun q3 => ?_⟩⟩
      exact ⟨_, (_, _, _, _, _), rfl, rfl, Or.inl ⟨⟨j, h1, Int32.not_le.mp q2, Int32.not_le.mp q3⟩, rfl, rfl, rfl, rfl, rfl⟩⟩)
  refine sgX9_cut_T_0 F Rt h0 yt rT rH yw yp yg yu ysl yin yse ysp ypa rA yb ybd ybc yr rF rP ywd rS rN rO rW rL rD yd rI rX rY rZ rU yro yc ybe yco rC rV qk qr qa qD qu qe qi qw qs G K M N b _ (fun i d1 h => h29 M i d1 h) ?_
  refine ⟨hN, fun r h => ?_⟩
  rcases h with ⟨_, rfl⟩ | ⟨h, _⟩
  · refine ⟨fun _ => ⟨vp_in_nI (n := 6) (N := 24) (by omega) (by omega), ⟨by omega, hnn⟩, fun d2 h2 => ⟨0, by omega, nI_0.symm, h2, fun a ha => absurd ha (by omega)⟩⟩, fun q => absurd q (by decide)⟩
  · exact absurd hwh h
abbrev rmX9_share : Room := { frames := 2, cells := 0, slots := 0, locals := 42 }
set_option maxHeartbeats 4000000 in
set_option maxRecDepth 100000 in
theorem sgX9_share_0 {B : pz_B} {g : pz_G} {wc : va_W} {Post : Option Value → va_W → Prop} (F : pz_F B cX9_share 5 (some .boolean) yX9_share.cls g rmX9_share) (Rt : pz_Rt B g wc Post rmX9_share) (x : Int32) (fr : Int32) (to_ : Int32) (p : Int32) (h0 : Nat) (yt : Nat) (rT : Int32) (rH : Int32) (yw : Nat) (yp : Nat) (yg : Nat) (yu : Nat) (ysl : Nat) (yin : Nat) (yse : Nat) (ysp : Nat) (ypa : Nat) (rA : Int32) (yb : Nat) (ybd : Nat) (ybc : Nat) (yr : Nat) (rF : Int32) (rP : Int32) (ywd : Nat) (rS : Int32) (rN : Int32) (rO : Int32) (rW : Int32) (rL : Int32) (rD : Int32) (yd : Nat) (rI : Int32) (rX : Int32) (rY : Int32) (rZ : Int32) (rU : Int32) (yro : Nat) (yc : Nat) (ybe : Nat) (yco : Nat) (rC : Int64) (rV : Int64) (qk : Nat → Int32) (qa : Nat → Int32) (G : Nat) (K : Nat) (M : Nat) (N : Nat)  (vc : (N ≤ 10) ∧ ∀ r_2 : Int32, ∀ _ : ((wh_ok x N qk ∧ r_2 = 1) ∨ (¬ wh_ok x N qk ∧ r_2 = 0)), ((r_2 = 0 → Post (some (.int 0)) [(h0, .inr (8, [.ref yt, .int rT, .int 0, .int (nI G), .ref yw, .int (nI K), .ref yp, .ref yg, .int (nI M), .ref yu, .int (nI N), .ref ysl, .ref yin, .ref yse, .ref ysp, .ref ypa, .int rA, .ref yb, .ref ybd, .ref ybc, .ref yr, .int rF, .int rP, .ref ywd, .int rS, .int rN, .int rO, .int rW, .int rL, .int rD, .ref yd, .int rI, .int rX, .int rY, .int rZ, .int rU, .ref yro, .ref yc, .ref ybe, .ref yco, .long rC, .long rV])), (ysp, .inl (g.2.1 3, 10, .inl qk)), (ypa, .inl (g.2.1 1, 80, .inl qa))]) ∧ (¬ r_2 = 0 → ∀ r_5 : Int32, ∀ _ : (r_5 = if fr < 0 then 0 else if (nI M) ≤ fr then 0 else 1), ((r_5 = 0 → Post (some (.int 0)) [(h0, .inr (8, [.ref yt, .int rT, .int 0, .int (nI G), .ref yw, .int (nI K), .ref yp, .ref yg, .int (nI M), .ref yu, .int (nI N), .ref ysl, .ref yin, .ref yse, .ref ysp, .ref ypa, .int rA, .ref yb, .ref ybd, .ref ybc, .ref yr, .int rF, .int rP, .ref ywd, .int rS, .int rN, .int rO, .int rW, .int rL, .int rD, .ref yd, .int rI, .int rX, .int rY, .int rZ, .int rU, .ref yro, .ref yc, .ref ybe, .ref yco, .long rC, .long rV])), (ysp, .inl (g.2.1 3, 10, .inl qk)), (ypa, .inl (g.2.1 1, 80, .inl qa))]) ∧ (¬ r_5 = 0 → ∀ r_8 : Int32, ∀ _ : (r_8 = if to_ < 0 then 0 else if (nI M) ≤ to_ then 0 else 1), ((r_8 = 0 → Post (some (.int 0)) [(h0, .inr (8, [.ref yt, .int rT, .int 0, .int (nI G), .ref yw, .int (nI K), .ref yp, .ref yg, .int (nI M), .ref yu, .int (nI N), .ref ysl, .ref yin, .ref yse, .ref ysp, .ref ypa, .int rA, .ref yb, .ref ybd, .ref ybc, .ref yr, .int rF, .int rP, .ref ywd, .int rS, .int rN, .int rO, .int rW, .int rL, .int rD, .ref yd, .int rI, .int rX, .int rY, .int rZ, .int rU, .ref yro, .ref yc, .ref ybe, .ref yco, .long rC, .long rV])), (ysp, .inl (g.2.1 3, 10, .inl qk)), (ypa, .inl (g.2.1 1, 80, .inl qa))]) ∧ (¬ r_8 = 0 → ((fr = to_ → Post (some (.int 0)) [(h0, .inr (8, [.ref yt, .int rT, .int 0, .int (nI G), .ref yw, .int (nI K), .ref yp, .ref yg, .int (nI M), .ref yu, .int (nI N), .ref ysl, .ref yin, .ref yse, .ref ysp, .ref ypa, .int rA, .ref yb, .ref ybd, .ref ybc, .ref yr, .int rF, .int rP, .ref ywd, .int rS, .int rN, .int rO, .int rW, .int rL, .int rD, .ref yd, .int rI, .int rX, .int rY, .int rZ, .int rU, .ref yro, .ref yc, .ref ybe, .ref yco, .long rC, .long rV])), (ysp, .inl (g.2.1 3, 10, .inl qk)), (ypa, .inl (g.2.1 1, 80, .inl qa))]) ∧ (¬ fr = to_ → ((p < 1 → Post (some (.int 0)) [(h0, .inr (8, [.ref yt, .int rT, .int 0, .int (nI G), .ref yw, .int (nI K), .ref yp, .ref yg, .int (nI M), .ref yu, .int (nI N), .ref ysl, .ref yin, .ref yse, .ref ysp, .ref ypa, .int rA, .ref yb, .ref ybd, .ref ybc, .ref yr, .int rF, .int rP, .ref ywd, .int rS, .int rN, .int rO, .int rW, .int rL, .int rD, .ref yd, .int rI, .int rX, .int rY, .int rZ, .int rU, .ref yro, .ref yc, .ref ybe, .ref yco, .long rC, .long rV])), (ysp, .inl (g.2.1 3, 10, .inl qk)), (ypa, .inl (g.2.1 1, 80, .inl qa))]) ∧ (¬ p < 1 → vp_in ((8 * x) + fr) 80 ∧ ((p ≤ (qa ((8 * x) + fr).toNatClampNeg) → vp_in ((8 * x) + fr) 80 ∧ ∀ x_16 : Int32, x_16 = ((qa ((8 * x) + fr).toNatClampNeg) - p) → vp_in ((8 * x) + fr) 80 ∧ ∀ f_18 : Nat → Int32, f_18 = upd qa ((8 * x) + fr).toNatClampNeg x_16 → vp_in ((8 * x) + to_) 80 ∧ ∀ x_20 : Int32, x_20 = ((f_18 ((8 * x) + to_).toNatClampNeg) + p) → vp_in ((8 * x) + to_) 80 ∧ ∀ f_22 : Nat → Int32, f_22 = upd f_18 ((8 * x) + to_).toNatClampNeg x_20 → Post (some (.int 1)) [(h0, .inr (8, [.ref yt, .int rT, .int 0, .int (nI G), .ref yw, .int (nI K), .ref yp, .ref yg, .int (nI M), .ref yu, .int (nI N), .ref ysl, .ref yin, .ref yse, .ref ysp, .ref ypa, .int rA, .ref yb, .ref ybd, .ref ybc, .ref yr, .int rF, .int rP, .ref ywd, .int rS, .int rN, .int rO, .int rW, .int rL, .int rD, .ref yd, .int rI, .int rX, .int rY, .int rZ, .int rU, .ref yro, .ref yc, .ref ybe, .ref yco, .long rC, .long rV])), (ysp, .inl (g.2.1 3, 10, .inl qk)), (ypa, .inl (g.2.1 1, 80, .inl f_22))]) ∧ (¬ p ≤ (qa ((8 * x) + fr).toNatClampNeg) → Post (some (.int 0)) [(h0, .inr (8, [.ref yt, .int rT, .int 0, .int (nI G), .ref yw, .int (nI K), .ref yp, .ref yg, .int (nI M), .ref yu, .int (nI N), .ref ysl, .ref yin, .ref yse, .ref ysp, .ref ypa, .int rA, .ref yb, .ref ybd, .ref ybc, .ref yr, .int rF, .int rP, .ref ywd, .int rS, .int rN, .int rO, .int rW, .int rL, .int rD, .ref yd, .int rI, .int rX, .int rY, .int rZ, .int rU, .ref yro, .ref yc, .ref ybe, .ref yco, .long rC, .long rV])), (ysp, .inl (g.2.1 3, 10, .inl qk)), (ypa, .inl (g.2.1 1, 80, .inl qa))]))))))))))))) : pz_At B 0 0 0 [(0, .ref h0), (1, .int x), (2, .int fr), (3, .int to_), (4, .int p)] [] [(h0, .inr (8, [.ref yt, .int rT, .int rH, .int (nI G), .ref yw, .int (nI K), .ref yp, .ref yg, .int (nI M), .ref yu, .int (nI N), .ref ysl, .ref yin, .ref yse, .ref ysp, .ref ypa, .int rA, .ref yb, .ref ybd, .ref ybc, .ref yr, .int rF, .int rP, .ref ywd, .int rS, .int rN, .int rO, .int rW, .int rL, .int rD, .ref yd, .int rI, .int rX, .int rY, .int rZ, .int rU, .ref yro, .ref yc, .ref ybe, .ref yco, .long rC, .long rV])), (ysp, .inl (g.2.1 3, 10, .inl qk)), (ypa, .inl (g.2.1 1, 80, .inl qa))] := by
  refine pz_aload_n 0 F rfl dX9_share_0 rfl ?_
  refine pz_iconst (v := 0) F dX9_share_1 rfl ?_
  refine pz_put (ws' := [(h0, .inr (8, [.ref yt, .int rT, .int 0, .int (nI G), .ref yw, .int (nI K), .ref yp, .ref yg, .int (nI M), .ref yu, .int (nI N), .ref ysl, .ref yin, .ref yse, .ref ysp, .ref ypa, .int rA, .ref yb, .ref ybd, .ref ybc, .ref yr, .int rF, .int rP, .ref ywd, .int rS, .int rN, .int rO, .int rW, .int rL, .int rD, .ref yd, .int rI, .int rX, .int rY, .int rZ, .int rU, .ref yro, .ref yc, .ref ybe, .ref yco, .long rC, .long rV])), (ysp, .inl (g.2.1 3, 10, .inl qk)), (ypa, .inl (g.2.1 1, 80, .inl qa))]) (ci := 8) (C := RX9) (T := TX9) (N := 42) (v := .int 0) (ty := .int) 0 F rfl rfl pz_inX9 2 (by decide) pw_810 tyX9_ok nmX9 rfl rfl rfl rfl (Nat.le_of_ble_eq_true rfl) dX9_share_2 rfl ?_
  refine pz_aload_n 0 F rfl dX9_share_5 rfl ?_
  refine pz_iload_n 1 F rfl dX9_share_6 rfl ?_
  obtain ⟨h_1, vc⟩ := vc
  refine pz_callV (nA := 1) (ci := 8) (C := RX9) (T := TX9) (N := 42) (As := [.int x]) (rest := []) (wr := [(ypa, .inl (g.2.1 1, 80, .inl qa))]) F (ctX9_isWhole _ g x h0 yt rT 0 yw yp yg yu ysl yin yse ysp ypa rA yb ybd ybc yr rF rP ywd rS rN rO rW rL rD yd rI rX rY rZ rU yro yc ybe yco rC rV qk G K M N h_1) 0 rfl rfl pw_1012 pw_1014 pv_36 pw_8 pw_1015 (by decide +kernel) (by decide) (by decide) rfl rfl (Nat.le_of_ble_eq_true rfl) [0, 1] [2] rfl rfl rfl rfl (by decide) dX9_share_7 (fun r0 w0 hp0 => ?_)
  obtain ⟨r_2, _, rfl, rfl, hq_3⟩ := hp0
  replace vc := vc r_2  hq_3
  refine pz_eq (st' := [.int r_2]) (ws' := [(ypa, .inl (g.2.1 1, 80, .inl qa)), (h0, .inr (8, [.ref yt, .int rT, .int 0, .int (nI G), .ref yw, .int (nI K), .ref yp, .ref yg, .int (nI M), .ref yu, .int (nI N), .ref ysl, .ref yin, .ref yse, .ref ysp, .ref ypa, .int rA, .ref yb, .ref ybd, .ref ybc, .ref yr, .int rF, .int rP, .ref ywd, .int rS, .int rN, .int rO, .int rW, .int rL, .int rD, .ref yd, .int rI, .int rX, .int rY, .int rZ, .int rU, .ref yro, .ref yc, .ref ybe, .ref yco, .long rC, .long rV])), (ysp, .inl (g.2.1 3, 10, .inl qk))]) rfl rfl ?_
  refine pz_if_eq (tgt := 56) F dX9_share_10 (by decide) (fun q_4 => ?_) (fun q_4 => ?_)
  · replace vc := vc.1 q_4
    refine pz_iconst (v := 0) F dX9_share_56 rfl ?_
    exact pz_ireturn (w1 := [(h0, .inr (8, [.ref yt, .int rT, .int 0, .int (nI G), .ref yw, .int (nI K), .ref yp, .ref yg, .int (nI M), .ref yu, .int (nI N), .ref ysl, .ref yin, .ref yse, .ref ysp, .ref ypa, .int rA, .ref yb, .ref ybd, .ref ybc, .ref yr, .int rF, .int rP, .ref ywd, .int rS, .int rN, .int rO, .int rW, .int rL, .int rD, .ref yd, .int rI, .int rX, .int rY, .int rZ, .int rU, .ref yro, .ref yc, .ref ybe, .ref yco, .long rC, .long rV])), (ysp, .inl (g.2.1 3, 10, .inl qk)), (ypa, .inl (g.2.1 1, 80, .inl qa))]) F Rt (by decide) (by decide) dX9_share_57 [1, 2, 0] rfl rfl rfl vc
  · replace vc := vc.2 q_4
    refine pz_aload_n 0 F rfl dX9_share_13 rfl ?_
    refine pz_iload_n 2 F rfl dX9_share_14 rfl ?_
    refine pz_callV (nA := 1) (ci := 8) (C := RX9) (T := TX9) (N := 42) (As := [.int fr]) (rest := []) (wr := [(ypa, .inl (g.2.1 1, 80, .inl qa)), (ysp, .inl (g.2.1 3, 10, .inl qk))]) F (ctX9_isMan _ g fr h0 yt rT 0 yw yp yg yu ysl yin yse ysp ypa rA yb ybd ybc yr rF rP ywd rS rN rO rW rL rD yd rI rX rY rZ rU yro yc ybe yco rC rV G K M N) 1 rfl rfl pw_1004 pw_1006 pv_35 pw_8 pw_1007 (by decide +kernel) (by decide) (by decide) rfl rfl (Nat.le_of_ble_eq_true rfl) [1] [0, 2] rfl rfl rfl rfl (by decide) dX9_share_15 (fun r0 w0 hp0 => ?_)
    obtain ⟨r_5, _, rfl, rfl, hq_6⟩ := hp0
    replace vc := vc r_5  hq_6
    refine pz_eq (st' := [.int r_5]) (ws' := [(ypa, .inl (g.2.1 1, 80, .inl qa)), (ysp, .inl (g.2.1 3, 10, .inl qk)), (h0, .inr (8, [.ref yt, .int rT, .int 0, .int (nI G), .ref yw, .int (nI K), .ref yp, .ref yg, .int (nI M), .ref yu, .int (nI N), .ref ysl, .ref yin, .ref yse, .ref ysp, .ref ypa, .int rA, .ref yb, .ref ybd, .ref ybc, .ref yr, .int rF, .int rP, .ref ywd, .int rS, .int rN, .int rO, .int rW, .int rL, .int rD, .ref yd, .int rI, .int rX, .int rY, .int rZ, .int rU, .ref yro, .ref yc, .ref ybe, .ref yco, .long rC, .long rV]))]) rfl rfl ?_
    refine pz_if_eq (tgt := 56) F dX9_share_18 (by decide) (fun q_7 => ?_) (fun q_7 => ?_)
    · replace vc := vc.1 q_7
      refine pz_iconst (v := 0) F dX9_share_56 rfl ?_
      exact pz_ireturn (w1 := [(h0, .inr (8, [.ref yt, .int rT, .int 0, .int (nI G), .ref yw, .int (nI K), .ref yp, .ref yg, .int (nI M), .ref yu, .int (nI N), .ref ysl, .ref yin, .ref yse, .ref ysp, .ref ypa, .int rA, .ref yb, .ref ybd, .ref ybc, .ref yr, .int rF, .int rP, .ref ywd, .int rS, .int rN, .int rO, .int rW, .int rL, .int rD, .ref yd, .int rI, .int rX, .int rY, .int rZ, .int rU, .ref yro, .ref yc, .ref ybe, .ref yco, .long rC, .long rV])), (ysp, .inl (g.2.1 3, 10, .inl qk)), (ypa, .inl (g.2.1 1, 80, .inl qa))]) F Rt (by decide) (by decide) dX9_share_57 [2, 1, 0] rfl rfl rfl vc
    · replace vc := vc.2 q_7
      refine pz_aload_n 0 F rfl dX9_share_21 rfl ?_
      refine pz_iload_n 3 F rfl dX9_share_22 rfl ?_
      refine pz_callV (nA := 1) (ci := 8) (C := RX9) (T := TX9) (N := 42) (As := [.int to_]) (rest := []) (wr := [(ypa, .inl (g.2.1 1, 80, .inl qa)), (ysp, .inl (g.2.1 3, 10, .inl qk))]) F (ctX9_isMan _ g to_ h0 yt rT 0 yw yp yg yu ysl yin yse ysp ypa rA yb ybd ybc yr rF rP ywd rS rN rO rW rL rD yd rI rX rY rZ rU yro yc ybe yco rC rV G K M N) 2 rfl rfl pw_1004 pw_1006 pv_35 pw_8 pw_1007 (by decide +kernel) (by decide) (by decide) rfl rfl (Nat.le_of_ble_eq_true rfl) [2] [0, 1] rfl rfl rfl rfl (by decide) dX9_share_23 (fun r0 w0 hp0 => ?_)
      obtain ⟨r_8, _, rfl, rfl, hq_9⟩ := hp0
      replace vc := vc r_8  hq_9
      refine pz_eq (st' := [.int r_8]) (ws' := [(ypa, .inl (g.2.1 1, 80, .inl qa)), (ysp, .inl (g.2.1 3, 10, .inl qk)), (h0, .inr (8, [.ref yt, .int rT, .int 0, .int (nI G), .ref yw, .int (nI K), .ref yp, .ref yg, .int (nI M), .ref yu, .int (nI N), .ref ysl, .ref yin, .ref yse, .ref ysp, .ref ypa, .int rA, .ref yb, .ref ybd, .ref ybc, .ref yr, .int rF, .int rP, .ref ywd, .int rS, .int rN, .int rO, .int rW, .int rL, .int rD, .ref yd, .int rI, .int rX, .int rY, .int rZ, .int rU, .ref yro, .ref yc, .ref ybe, .ref yco, .long rC, .long rV]))]) rfl rfl ?_
      refine pz_if_eq (tgt := 56) F dX9_share_26 (by decide) (fun q_10 => ?_) (fun q_10 => ?_)
      · replace vc := vc.1 q_10
        refine pz_iconst (v := 0) F dX9_share_56 rfl ?_
        exact pz_ireturn (w1 := [(h0, .inr (8, [.ref yt, .int rT, .int 0, .int (nI G), .ref yw, .int (nI K), .ref yp, .ref yg, .int (nI M), .ref yu, .int (nI N), .ref ysl, .ref yin, .ref yse, .ref ysp, .ref ypa, .int rA, .ref yb, .ref ybd, .ref ybc, .ref yr, .int rF, .int rP, .ref ywd, .int rS, .int rN, .int rO, .int rW, .int rL, .int rD, .ref yd, .int rI, .int rX, .int rY, .int rZ, .int rU, .ref yro, .ref yc, .ref ybe, .ref yco, .long rC, .long rV])), (ysp, .inl (g.2.1 3, 10, .inl qk)), (ypa, .inl (g.2.1 1, 80, .inl qa))]) F Rt (by decide) (by decide) dX9_share_57 [2, 1, 0] rfl rfl rfl vc
      · replace vc := vc.2 q_10
        refine pz_iload_n 2 F rfl dX9_share_29 rfl ?_
        refine pz_iload_n 3 F rfl dX9_share_30 rfl ?_
        refine pz_icmp_eq (tgt := 56) F dX9_share_31 (by decide) (fun q_11 => ?_) (fun q_11 => ?_)
        · replace vc := vc.1 q_11
          refine pz_iconst (v := 0) F dX9_share_56 rfl ?_
          exact pz_ireturn (w1 := [(h0, .inr (8, [.ref yt, .int rT, .int 0, .int (nI G), .ref yw, .int (nI K), .ref yp, .ref yg, .int (nI M), .ref yu, .int (nI N), .ref ysl, .ref yin, .ref yse, .ref ysp, .ref ypa, .int rA, .ref yb, .ref ybd, .ref ybc, .ref yr, .int rF, .int rP, .ref ywd, .int rS, .int rN, .int rO, .int rW, .int rL, .int rD, .ref yd, .int rI, .int rX, .int rY, .int rZ, .int rU, .ref yro, .ref yc, .ref ybe, .ref yco, .long rC, .long rV])), (ysp, .inl (g.2.1 3, 10, .inl qk)), (ypa, .inl (g.2.1 1, 80, .inl qa))]) F Rt (by decide) (by decide) dX9_share_57 [2, 1, 0] rfl rfl rfl vc
        · replace vc := vc.2 q_11
          refine pz_iload 4 F rfl dX9_share_34 ?_
          refine pz_iconst (v := 1) F dX9_share_36 rfl ?_
          refine pz_icmp_lt (tgt := 56) F dX9_share_37 (by decide) (fun q_12 => ?_) (fun q_12 => ?_)
          · replace vc := vc.1 q_12
            refine pz_iconst (v := 0) F dX9_share_56 rfl ?_
            exact pz_ireturn (w1 := [(h0, .inr (8, [.ref yt, .int rT, .int 0, .int (nI G), .ref yw, .int (nI K), .ref yp, .ref yg, .int (nI M), .ref yu, .int (nI N), .ref ysl, .ref yin, .ref yse, .ref ysp, .ref ypa, .int rA, .ref yb, .ref ybd, .ref ybc, .ref yr, .int rF, .int rP, .ref ywd, .int rS, .int rN, .int rO, .int rW, .int rL, .int rD, .ref yd, .int rI, .int rX, .int rY, .int rZ, .int rU, .ref yro, .ref yc, .ref ybe, .ref yco, .long rC, .long rV])), (ysp, .inl (g.2.1 3, 10, .inl qk)), (ypa, .inl (g.2.1 1, 80, .inl qa))]) F Rt (by decide) (by decide) dX9_share_57 [2, 1, 0] rfl rfl rfl vc
          · replace vc := vc.2 q_12
            refine pz_iload 4 F rfl dX9_share_40 ?_
            refine pz_aload_n 0 F rfl dX9_share_42 rfl ?_
            refine pz_get (ci := 8) (C := RX9) (T := TX9) (N := 42) (v := .ref ypa) 2 F rfl rfl pz_inX9 15 (by decide) pw_823 rfl dX9_share_43 ?_
            refine pz_bipush (v := 8) F dX9_share_46 rfl ?_
            refine pz_iload_n 1 F rfl dX9_share_48 rfl ?_
            refine pz_imul F dX9_share_49 ?_
            refine pz_iload_n 2 F rfl dX9_share_50 rfl ?_
            refine pz_iadd F dX9_share_51 ?_
            obtain ⟨h_13, vc⟩ := vc
            refine pz_iaload 0 F rfl h_13 dX9_share_52 ?_
            refine pz_icmp_le (tgt := 58) F dX9_share_53 (by decide) (fun q_14 => ?_) (fun q_14 => ?_)
            · replace vc := vc.1 q_14
              refine pz_aload_n 0 F rfl dX9_share_58 rfl ?_
              refine pz_get (ci := 8) (C := RX9) (T := TX9) (N := 42) (v := .ref ypa) 2 F rfl rfl pz_inX9 15 (by decide) pw_823 rfl dX9_share_59 ?_
              refine pz_bipush (v := 8) F dX9_share_62 rfl ?_
              refine pz_iload_n 1 F rfl dX9_share_64 rfl ?_
              refine pz_imul F dX9_share_65 ?_
              refine pz_iload_n 2 F rfl dX9_share_66 rfl ?_
              refine pz_iadd F dX9_share_67 ?_
              refine pz_dup2 F dX9_share_68 rfl rfl ?_
              obtain ⟨h_15, vc⟩ := vc
              refine pz_iaload 0 F rfl h_15 dX9_share_69 ?_
              refine pz_iload 4 F rfl dX9_share_70 ?_
              refine pz_isub F dX9_share_72 ?_
              refine pz_topi (fun x_16 ex_16 => ?_)
              replace vc := vc x_16 ex_16
              obtain ⟨h_17, vc⟩ := vc
              obtain ⟨f_18, ef_18⟩ : ∃ z : Nat → Int32, z = upd qa ((8 * x) + fr).toNatClampNeg x_16 := ⟨_, rfl⟩
              replace vc := vc f_18 ef_18
              refine pz_iastore (ws' := [(ypa, .inl (g.2.1 1, 80, .inl f_18)), (ysp, .inl (g.2.1 3, 10, .inl qk)), (h0, .inr (8, [.ref yt, .int rT, .int 0, .int (nI G), .ref yw, .int (nI K), .ref yp, .ref yg, .int (nI M), .ref yu, .int (nI N), .ref ysl, .ref yin, .ref yse, .ref ysp, .ref ypa, .int rA, .ref yb, .ref ybd, .ref ybc, .ref yr, .int rF, .int rP, .ref ywd, .int rS, .int rN, .int rO, .int rW, .int rL, .int rD, .ref yd, .int rI, .int rX, .int rY, .int rZ, .int rU, .ref yro, .ref yc, .ref ybe, .ref yco, .long rC, .long rV]))]) F 0 rfl h_17 dX9_share_73 (by rw [ef_18]; rfl) ?_
              refine pz_aload_n 0 F rfl dX9_share_74 rfl ?_
              refine pz_get (ci := 8) (C := RX9) (T := TX9) (N := 42) (v := .ref ypa) 2 F rfl rfl pz_inX9 15 (by decide) pw_823 rfl dX9_share_75 ?_
              refine pz_bipush (v := 8) F dX9_share_78 rfl ?_
              refine pz_iload_n 1 F rfl dX9_share_80 rfl ?_
              refine pz_imul F dX9_share_81 ?_
              refine pz_iload_n 3 F rfl dX9_share_82 rfl ?_
              refine pz_iadd F dX9_share_83 ?_
              refine pz_dup2 F dX9_share_84 rfl rfl ?_
              obtain ⟨h_19, vc⟩ := vc
              refine pz_iaload 0 F rfl h_19 dX9_share_85 ?_
              refine pz_iload 4 F rfl dX9_share_86 ?_
              refine pz_iadd F dX9_share_88 ?_
              refine pz_topi (fun x_20 ex_20 => ?_)
              replace vc := vc x_20 ex_20
              obtain ⟨h_21, vc⟩ := vc
              obtain ⟨f_22, ef_22⟩ : ∃ z : Nat → Int32, z = upd f_18 ((8 * x) + to_).toNatClampNeg x_20 := ⟨_, rfl⟩
              replace vc := vc f_22 ef_22
              refine pz_iastore (ws' := [(ypa, .inl (g.2.1 1, 80, .inl f_22)), (ysp, .inl (g.2.1 3, 10, .inl qk)), (h0, .inr (8, [.ref yt, .int rT, .int 0, .int (nI G), .ref yw, .int (nI K), .ref yp, .ref yg, .int (nI M), .ref yu, .int (nI N), .ref ysl, .ref yin, .ref yse, .ref ysp, .ref ypa, .int rA, .ref yb, .ref ybd, .ref ybc, .ref yr, .int rF, .int rP, .ref ywd, .int rS, .int rN, .int rO, .int rW, .int rL, .int rD, .ref yd, .int rI, .int rX, .int rY, .int rZ, .int rU, .ref yro, .ref yc, .ref ybe, .ref yco, .long rC, .long rV]))]) F 0 rfl h_21 dX9_share_89 (by rw [ef_22]; rfl) ?_
              refine pz_iconst (v := 1) F dX9_share_90 rfl ?_
              exact pz_ireturn (w1 := [(h0, .inr (8, [.ref yt, .int rT, .int 0, .int (nI G), .ref yw, .int (nI K), .ref yp, .ref yg, .int (nI M), .ref yu, .int (nI N), .ref ysl, .ref yin, .ref yse, .ref ysp, .ref ypa, .int rA, .ref yb, .ref ybd, .ref ybc, .ref yr, .int rF, .int rP, .ref ywd, .int rS, .int rN, .int rO, .int rW, .int rL, .int rD, .ref yd, .int rI, .int rX, .int rY, .int rZ, .int rU, .ref yro, .ref yc, .ref ybe, .ref yco, .long rC, .long rV])), (ysp, .inl (g.2.1 3, 10, .inl qk)), (ypa, .inl (g.2.1 1, 80, .inl f_22))]) F Rt (by decide) (by decide) dX9_share_91 [2, 1, 0] rfl rfl rfl vc
            · replace vc := vc.2 q_14
              refine pz_iconst (v := 0) F dX9_share_56 rfl ?_
              exact pz_ireturn (w1 := [(h0, .inr (8, [.ref yt, .int rT, .int 0, .int (nI G), .ref yw, .int (nI K), .ref yp, .ref yg, .int (nI M), .ref yu, .int (nI N), .ref ysl, .ref yin, .ref yse, .ref ysp, .ref ypa, .int rA, .ref yb, .ref ybd, .ref ybc, .ref yr, .int rF, .int rP, .ref ywd, .int rS, .int rN, .int rO, .int rW, .int rL, .int rD, .ref yd, .int rI, .int rX, .int rY, .int rZ, .int rU, .ref yro, .ref yc, .ref ybe, .ref yco, .long rC, .long rV])), (ysp, .inl (g.2.1 3, 10, .inl qk)), (ypa, .inl (g.2.1 1, 80, .inl qa))]) F Rt (by decide) (by decide) dX9_share_57 [2, 1, 0] rfl rfl rfl vc
set_option maxHeartbeats 4000000 in
set_option maxRecDepth 100000 in
theorem ctX9_share (l : Launch) (g : pz_G) (x : Int32) (fr : Int32) (to_ : Int32) (p : Int32) (h0 : Nat) (yt : Nat) (rT : Int32) (rH : Int32) (yw : Nat) (yp : Nat) (yg : Nat) (yu : Nat) (ysl : Nat) (yin : Nat) (yse : Nat) (ysp : Nat) (ypa : Nat) (rA : Int32) (yb : Nat) (ybd : Nat) (ybc : Nat) (yr : Nat) (rF : Int32) (rP : Int32) (ywd : Nat) (rS : Int32) (rN : Int32) (rO : Int32) (rW : Int32) (rL : Int32) (rD : Int32) (yd : Nat) (rI : Int32) (rX : Int32) (rY : Int32) (rZ : Int32) (rU : Int32) (yro : Nat) (yc : Nat) (ybe : Nat) (yco : Nat) (rC : Int64) (rV : Int64) (qk : Nat → Int32) (qa : Nat → Int32) (G : Nat) (K : Nat) (M : Nat) (N : Nat) (hpre : N ≤ 10 ∧ M ≤ 8) : pz_Ct l g yX9_share cX9_share 5 (some .boolean) rmX9_share [.ref h0, .int x, .int fr, .int to_, .int p] [(h0, .inr (8, [.ref yt, .int rT, .int rH, .int (nI G), .ref yw, .int (nI K), .ref yp, .ref yg, .int (nI M), .ref yu, .int (nI N), .ref ysl, .ref yin, .ref yse, .ref ysp, .ref ypa, .int rA, .ref yb, .ref ybd, .ref ybc, .ref yr, .int rF, .int rP, .ref ywd, .int rS, .int rN, .int rO, .int rW, .int rL, .int rD, .ref yd, .int rI, .int rX, .int rY, .int rZ, .int rU, .ref yro, .ref yc, .ref ybe, .ref yco, .long rC, .long rV])), (ysp, .inl (g.2.1 3, 10, .inl qk)), (ypa, .inl (g.2.1 1, 80, .inl qa))] (pz_pi (fun (r : Int32) (u : (Nat → Int32)) => ((wh_ok x N qk ∧ sh_ok M (sl8 qa x.toNatClampNeg) fr to_ p) ∧ r = 1 ∧ u = upd (upd qa (8 * x.toNatClampNeg + fr.toNatClampNeg) (qa (8 * x.toNatClampNeg + fr.toNatClampNeg) - p)) (8 * x.toNatClampNeg + to_.toNatClampNeg) ((upd qa (8 * x.toNatClampNeg + fr.toNatClampNeg) (qa (8 * x.toNatClampNeg + fr.toNatClampNeg) - p)) (8 * x.toNatClampNeg + to_.toNatClampNeg) + p)) ∨ (¬ (wh_ok x N qk ∧ sh_ok M (sl8 qa x.toNatClampNeg) fr to_ p) ∧ r = 0 ∧ u = qa)) (fun (u : (Nat → Int32)) => [(h0, .inr (8, [.ref yt, .int rT, .int 0, .int (nI G), .ref yw, .int (nI K), .ref yp, .ref yg, .int (nI M), .ref yu, .int (nI N), .ref ysl, .ref yin, .ref yse, .ref ysp, .ref ypa, .int rA, .ref yb, .ref ybd, .ref ybc, .ref yr, .int rF, .int rP, .ref ywd, .int rS, .int rN, .int rO, .int rW, .int rL, .int rD, .ref yd, .int rI, .int rX, .int rY, .int rZ, .int rU, .ref yro, .ref yc, .ref ybe, .ref yco, .long rC, .long rV])), (ysp, .inl (g.2.1 3, 10, .inl qk)), (ypa, .inl (g.2.1 1, 80, .inl u))])) := by
  refine pz_ofAt (by decide +kernel) (Nat.le_of_ble_eq_true rfl) (fun B F Rt hme => ?_)
  obtain ⟨hN, hM⟩ := hpre
  refine sgX9_share_0 F Rt x fr to_ p h0 yt rT rH yw yp yg yu ysl yin yse ysp ypa rA yb ybd ybc yr rF rP ywd rS rN rO rW rL rD yd rI rX rY rZ rU yro yc ybe yco rC rV qk qa G K M N ?_
  clear F Rt hme
  refine ⟨hN, fun r0 h0' => ?_⟩
  rcases h0' with ⟨hw, rfl⟩ | ⟨hw, rfl⟩
  · refine ⟨fun q => absurd q (by decide), fun _ r1 h1 => ?_⟩
    rcases hs_of h1 with ⟨i1, rfl⟩ | ⟨i1, rfl⟩
    · refine ⟨fun q => absurd q (by decide), fun _ r2 h2 => ?_⟩
      rcases hs_of h2 with ⟨i2, rfl⟩ | ⟨i2, rfl⟩
      · obtain ⟨c1, e1⟩ := hs_cl (by omega) hw.1
        obtain ⟨c2, e2⟩ := hs_cl (by omega) i1
        obtain ⟨c3, e3⟩ := hs_cl (by omega) i2
        have k1 : 8 * x + fr = nI (8 * x.toNatClampNeg + fr.toNatClampNeg) := by rw [← pu_8, ← e1, ← e2]
        have k2 : 8 * x + to_ = nI (8 * x.toNatClampNeg + to_.toNatClampNeg) := by rw [← pu_8, ← e1, ← e3]
        rw [k1, k2, nI_clamp (by omega), nI_clamp (by omega)]
        have hin1 : vp_in (nI (8 * x.toNatClampNeg + fr.toNatClampNeg)) 80 := vp_in_nI (by omega) (by omega)
        have hin2 : vp_in (nI (8 * x.toNatClampNeg + to_.toNatClampNeg)) 80 := vp_in_nI (by omega) (by omega)
        refine ⟨fun q => absurd q (by decide), fun _ => ⟨fun q3 => ⟨_, _, rfl, rfl, Or.inr ⟨fun h => h.2.2.2.1 q3, rfl, rfl⟩⟩, fun q3 => ⟨fun q4 => ⟨_, _, rfl, rfl, Or.inr ⟨fun h => h.2.2.2.2.1 q4, rfl, rfl⟩⟩, fun q4 => ⟨hin1, fun q5 => ⟨hin1, ?_⟩, fun q5 => ⟨_, _, rfl, rfl, Or.inr ⟨fun h => q5 h.2.2.2.2.2, rfl, rfl⟩⟩⟩⟩⟩⟩
        rintro x1 rfl
        refine ⟨hin1, ?_⟩
        rintro f1 rfl
        refine ⟨hin2, ?_⟩
        rintro x2 rfl
        refine ⟨hin2, ?_⟩
        rintro f2 rfl
        exact ⟨_, _, rfl, rfl, Or.inl ⟨⟨hw, i1, i2, q3, q4, q5⟩, rfl, rfl⟩⟩
      · exact ⟨fun q => ⟨_, _, rfl, rfl, Or.inr ⟨fun h => i2 h.2.2.1, rfl, rfl⟩⟩, fun q => absurd rfl q⟩
    · exact ⟨fun q => ⟨_, _, rfl, rfl, Or.inr ⟨fun h => i1 h.2.1, rfl, rfl⟩⟩, fun q => absurd rfl q⟩
  · exact ⟨fun q => ⟨_, _, rfl, rfl, Or.inr ⟨fun h => hw h.1, rfl, rfl⟩⟩, fun q => absurd rfl q⟩
abbrev rmX9_bid : Room := { frames := 2, cells := 0, slots := 0, locals := 42 }
abbrev paX9_bid_51 (B : pz_B) (g : pz_G) (m : Int32) (x : Int32) (c : Int32) (h0 : Nat) (yt : Nat) (rT : Int32) (rH : Int32) (yw : Nat) (yp : Nat) (yg : Nat) (yu : Nat) (ysl : Nat) (yin : Nat) (yse : Nat) (ysp : Nat) (ypa : Nat) (rA : Int32) (yb : Nat) (ybd : Nat) (ybc : Nat) (yr : Nat) (rF : Int32) (rP : Int32) (ywd : Nat) (rS : Int32) (rN : Int32) (rO : Int32) (rW : Int32) (rL : Int32) (rD : Int32) (yd : Nat) (rI : Int32) (rX : Int32) (rY : Int32) (rZ : Int32) (rU : Int32) (yro : Nat) (yc : Nat) (ybe : Nat) (yco : Nat) (rC : Int64) (rV : Int64) (qk : Nat → Int32) (qa : Nat → Int32) (qb : Nat → Int32) (qd : Nat → Int32) (qc : Nat → Int32) (G : Nat) (K : Nat) (M : Nat) (N : Nat) (b : Nat) (Bc : Nat) (i : Int32) : Prop := pz_At B 0 0 51 [(0, .ref h0), (1, .int m), (2, .int x), (3, .int c), (4, .int i)] [] [(h0, .inr (8, [.ref yt, .int rT, .int 0, .int (nI G), .ref yw, .int (nI K), .ref yp, .ref yg, .int (nI M), .ref yu, .int (nI N), .ref ysl, .ref yin, .ref yse, .ref ysp, .ref ypa, .int rA, .ref yb, .ref ybd, .ref ybc, .ref yr, .int rF, .int rP, .ref ywd, .int rS, .int rN, .int rO, .int rW, .int rL, .int rD, .ref yd, .int rI, .int rX, .int rY, .int rZ, .int rU, .ref yro, .ref yc, .ref ybe, .ref yco, .long rC, .long rV])), (ysp, .inl (g.2.1 3, 10, .inl qk)), (ypa, .inl (g.2.1 1, 80, .inl qa)), (yb, .inl (g.2.1 1, 10, .inl qb)), (ybd, .inl (g.2.1 1, 80, .inl qd)), (ybc, .inl (g.2.1 1, 80, .inl qc))]
set_option maxHeartbeats 4000000 in
set_option maxRecDepth 100000 in
theorem sgX9_bid_0 {B : pz_B} {g : pz_G} {wc : va_W} {Post : Option Value → va_W → Prop} (F : pz_F B cX9_bid 5 (some .int) yX9_bid.cls g rmX9_bid) (Rt : pz_Rt B g wc Post rmX9_bid) (m : Int32) (x : Int32) (c : Int32) (h0 : Nat) (yt : Nat) (rT : Int32) (rH : Int32) (yw : Nat) (yp : Nat) (yg : Nat) (yu : Nat) (ysl : Nat) (yin : Nat) (yse : Nat) (ysp : Nat) (ypa : Nat) (rA : Int32) (yb : Nat) (ybd : Nat) (ybc : Nat) (yr : Nat) (rF : Int32) (rP : Int32) (ywd : Nat) (rS : Int32) (rN : Int32) (rO : Int32) (rW : Int32) (rL : Int32) (rD : Int32) (yd : Nat) (rI : Int32) (rX : Int32) (rY : Int32) (rZ : Int32) (rU : Int32) (yro : Nat) (yc : Nat) (ybe : Nat) (yco : Nat) (rC : Int64) (rV : Int64) (qk : Nat → Int32) (qa : Nat → Int32) (qb : Nat → Int32) (qd : Nat → Int32) (qc : Nat → Int32) (G : Nat) (K : Nat) (M : Nat) (N : Nat) (b : Nat) (Bc : Nat) (T51 : Int32 → Prop) (hT51 : ∀ (i : Int32), T51 i → paX9_bid_51 B g m x c h0 yt rT rH yw yp yg yu ysl yin yse ysp ypa rA yb ybd ybc yr rF rP ywd rS rN rO rW rL rD yd rI rX rY rZ rU yro yc ybe yco rC rV qk qa qb qd qc G K M N b Bc i)  (vc : ∀ r_1 : Int32, ∀ _ : (r_1 = if m < 0 then 0 else if (nI M) ≤ m then 0 else 1), ((r_1 = 0 → Post (some (.int (-1))) [(h0, .inr (8, [.ref yt, .int rT, .int 0, .int (nI G), .ref yw, .int (nI K), .ref yp, .ref yg, .int (nI M), .ref yu, .int (nI N), .ref ysl, .ref yin, .ref yse, .ref ysp, .ref ypa, .int rA, .ref yb, .ref ybd, .ref ybc, .ref yr, .int rF, .int rP, .ref ywd, .int rS, .int rN, .int rO, .int rW, .int rL, .int rD, .ref yd, .int rI, .int rX, .int rY, .int rZ, .int rU, .ref yro, .ref yc, .ref ybe, .ref yco, .long rC, .long rV])), (ysp, .inl (g.2.1 3, 10, .inl qk)), (ypa, .inl (g.2.1 1, 80, .inl qa)), (yb, .inl (g.2.1 1, 10, .inl qb)), (ybd, .inl (g.2.1 1, 80, .inl qd)), (ybc, .inl (g.2.1 1, 80, .inl qc))]) ∧ (¬ r_1 = 0 → (N ≤ 10) ∧ ∀ r_5 : Int32, ∀ _ : ((wh_ok x N qk ∧ r_5 = 1) ∨ (¬ wh_ok x N qk ∧ r_5 = 0)), ((r_5 = 0 → Post (some (.int (-1))) [(h0, .inr (8, [.ref yt, .int rT, .int 0, .int (nI G), .ref yw, .int (nI K), .ref yp, .ref yg, .int (nI M), .ref yu, .int (nI N), .ref ysl, .ref yin, .ref yse, .ref ysp, .ref ypa, .int rA, .ref yb, .ref ybd, .ref ybc, .ref yr, .int rF, .int rP, .ref ywd, .int rS, .int rN, .int rO, .int rW, .int rL, .int rD, .ref yd, .int rI, .int rX, .int rY, .int rZ, .int rU, .ref yro, .ref yc, .ref ybe, .ref yco, .long rC, .long rV])), (ysp, .inl (g.2.1 3, 10, .inl qk)), (ypa, .inl (g.2.1 1, 80, .inl qa)), (yb, .inl (g.2.1 1, 10, .inl qb)), (ybd, .inl (g.2.1 1, 80, .inl qd)), (ybc, .inl (g.2.1 1, 80, .inl qc))]) ∧ (¬ r_5 = 0 → ((c < 1 → Post (some (.int (-1))) [(h0, .inr (8, [.ref yt, .int rT, .int 0, .int (nI G), .ref yw, .int (nI K), .ref yp, .ref yg, .int (nI M), .ref yu, .int (nI N), .ref ysl, .ref yin, .ref yse, .ref ysp, .ref ypa, .int rA, .ref yb, .ref ybd, .ref ybc, .ref yr, .int rF, .int rP, .ref ywd, .int rS, .int rN, .int rO, .int rW, .int rL, .int rD, .ref yd, .int rI, .int rX, .int rY, .int rZ, .int rU, .ref yro, .ref yc, .ref ybe, .ref yco, .long rC, .long rV])), (ysp, .inl (g.2.1 3, 10, .inl qk)), (ypa, .inl (g.2.1 1, 80, .inl qa)), (yb, .inl (g.2.1 1, 10, .inl qb)), (ybd, .inl (g.2.1 1, 80, .inl qd)), (ybc, .inl (g.2.1 1, 80, .inl qc))]) ∧ (¬ c < 1 → (((99999 : Int32) < c → Post (some (.int (-1))) [(h0, .inr (8, [.ref yt, .int rT, .int 0, .int (nI G), .ref yw, .int (nI K), .ref yp, .ref yg, .int (nI M), .ref yu, .int (nI N), .ref ysl, .ref yin, .ref yse, .ref ysp, .ref ypa, .int rA, .ref yb, .ref ybd, .ref ybc, .ref yr, .int rF, .int rP, .ref ywd, .int rS, .int rN, .int rO, .int rW, .int rL, .int rD, .ref yd, .int rI, .int rX, .int rY, .int rZ, .int rU, .ref yro, .ref yc, .ref ybe, .ref yco, .long rC, .long rV])), (ysp, .inl (g.2.1 3, 10, .inl qk)), (ypa, .inl (g.2.1 1, 80, .inl qa)), (yb, .inl (g.2.1 1, 10, .inl qb)), (ybd, .inl (g.2.1 1, 80, .inl qd)), (ybc, .inl (g.2.1 1, 80, .inl qc))]) ∧ (¬ (99999 : Int32) < c → vp_in ((8 * x) + m) 80 ∧ (((qa ((8 * x) + m).toNatClampNeg) ≤ 0 → T51 0) ∧ (¬ (qa ((8 * x) + m).toNatClampNeg) ≤ 0 → Post (some (.int (-1))) [(h0, .inr (8, [.ref yt, .int rT, .int 0, .int (nI G), .ref yw, .int (nI K), .ref yp, .ref yg, .int (nI M), .ref yu, .int (nI N), .ref ysl, .ref yin, .ref yse, .ref ysp, .ref ypa, .int rA, .ref yb, .ref ybd, .ref ybc, .ref yr, .int rF, .int rP, .ref ywd, .int rS, .int rN, .int rO, .int rW, .int rL, .int rD, .ref yd, .int rI, .int rX, .int rY, .int rZ, .int rU, .ref yro, .ref yc, .ref ybe, .ref yco, .long rC, .long rV])), (ysp, .inl (g.2.1 3, 10, .inl qk)), (ypa, .inl (g.2.1 1, 80, .inl qa)), (yb, .inl (g.2.1 1, 10, .inl qb)), (ybd, .inl (g.2.1 1, 80, .inl qd)), (ybc, .inl (g.2.1 1, 80, .inl qc))]))))))))))) : pz_At B 0 0 0 [(0, .ref h0), (1, .int m), (2, .int x), (3, .int c)] [] [(h0, .inr (8, [.ref yt, .int rT, .int rH, .int (nI G), .ref yw, .int (nI K), .ref yp, .ref yg, .int (nI M), .ref yu, .int (nI N), .ref ysl, .ref yin, .ref yse, .ref ysp, .ref ypa, .int rA, .ref yb, .ref ybd, .ref ybc, .ref yr, .int rF, .int rP, .ref ywd, .int rS, .int rN, .int rO, .int rW, .int rL, .int rD, .ref yd, .int rI, .int rX, .int rY, .int rZ, .int rU, .ref yro, .ref yc, .ref ybe, .ref yco, .long rC, .long rV])), (ysp, .inl (g.2.1 3, 10, .inl qk)), (ypa, .inl (g.2.1 1, 80, .inl qa)), (yb, .inl (g.2.1 1, 10, .inl qb)), (ybd, .inl (g.2.1 1, 80, .inl qd)), (ybc, .inl (g.2.1 1, 80, .inl qc))] := by
  refine pz_aload_n 0 F rfl dX9_bid_0 rfl ?_
  refine pz_iconst (v := 0) F dX9_bid_1 rfl ?_
  refine pz_put (ws' := [(h0, .inr (8, [.ref yt, .int rT, .int 0, .int (nI G), .ref yw, .int (nI K), .ref yp, .ref yg, .int (nI M), .ref yu, .int (nI N), .ref ysl, .ref yin, .ref yse, .ref ysp, .ref ypa, .int rA, .ref yb, .ref ybd, .ref ybc, .ref yr, .int rF, .int rP, .ref ywd, .int rS, .int rN, .int rO, .int rW, .int rL, .int rD, .ref yd, .int rI, .int rX, .int rY, .int rZ, .int rU, .ref yro, .ref yc, .ref ybe, .ref yco, .long rC, .long rV])), (ysp, .inl (g.2.1 3, 10, .inl qk)), (ypa, .inl (g.2.1 1, 80, .inl qa)), (yb, .inl (g.2.1 1, 10, .inl qb)), (ybd, .inl (g.2.1 1, 80, .inl qd)), (ybc, .inl (g.2.1 1, 80, .inl qc))]) (ci := 8) (C := RX9) (T := TX9) (N := 42) (v := .int 0) (ty := .int) 0 F rfl rfl pz_inX9 2 (by decide) pw_810 tyX9_ok nmX9 rfl rfl rfl rfl (Nat.le_of_ble_eq_true rfl) dX9_bid_2 rfl ?_
  refine pz_aload_n 0 F rfl dX9_bid_5 rfl ?_
  refine pz_iload_n 1 F rfl dX9_bid_6 rfl ?_
  refine pz_callV (nA := 1) (ci := 8) (C := RX9) (T := TX9) (N := 42) (As := [.int m]) (rest := []) (wr := [(ysp, .inl (g.2.1 3, 10, .inl qk)), (ypa, .inl (g.2.1 1, 80, .inl qa)), (yb, .inl (g.2.1 1, 10, .inl qb)), (ybd, .inl (g.2.1 1, 80, .inl qd)), (ybc, .inl (g.2.1 1, 80, .inl qc))]) F (ctX9_isMan _ g m h0 yt rT 0 yw yp yg yu ysl yin yse ysp ypa rA yb ybd ybc yr rF rP ywd rS rN rO rW rL rD yd rI rX rY rZ rU yro yc ybe yco rC rV G K M N) 0 rfl rfl pw_1004 pw_1006 pv_35 pw_8 pw_1007 (by decide +kernel) (by decide) (by decide) rfl rfl (Nat.le_of_ble_eq_true rfl) [0] [1, 2, 3, 4, 5] rfl rfl rfl rfl (by decide) dX9_bid_7 (fun r0 w0 hp0 => ?_)
  obtain ⟨r_1, _, rfl, rfl, hq_2⟩ := hp0
  replace vc := vc r_1  hq_2
  refine pz_eq (st' := [.int r_1]) (ws' := [(ysp, .inl (g.2.1 3, 10, .inl qk)), (ypa, .inl (g.2.1 1, 80, .inl qa)), (yb, .inl (g.2.1 1, 10, .inl qb)), (ybd, .inl (g.2.1 1, 80, .inl qd)), (ybc, .inl (g.2.1 1, 80, .inl qc)), (h0, .inr (8, [.ref yt, .int rT, .int 0, .int (nI G), .ref yw, .int (nI K), .ref yp, .ref yg, .int (nI M), .ref yu, .int (nI N), .ref ysl, .ref yin, .ref yse, .ref ysp, .ref ypa, .int rA, .ref yb, .ref ybd, .ref ybc, .ref yr, .int rF, .int rP, .ref ywd, .int rS, .int rN, .int rO, .int rW, .int rL, .int rD, .ref yd, .int rI, .int rX, .int rY, .int rZ, .int rU, .ref yro, .ref yc, .ref ybe, .ref yco, .long rC, .long rV]))]) rfl rfl ?_
  refine pz_if_eq (tgt := 46) F dX9_bid_10 (by decide) (fun q_3 => ?_) (fun q_3 => ?_)
  · replace vc := vc.1 q_3
    refine pz_iconst (v := (-1)) F dX9_bid_46 rfl ?_
    exact pz_ireturn (w1 := [(h0, .inr (8, [.ref yt, .int rT, .int 0, .int (nI G), .ref yw, .int (nI K), .ref yp, .ref yg, .int (nI M), .ref yu, .int (nI N), .ref ysl, .ref yin, .ref yse, .ref ysp, .ref ypa, .int rA, .ref yb, .ref ybd, .ref ybc, .ref yr, .int rF, .int rP, .ref ywd, .int rS, .int rN, .int rO, .int rW, .int rL, .int rD, .ref yd, .int rI, .int rX, .int rY, .int rZ, .int rU, .ref yro, .ref yc, .ref ybe, .ref yco, .long rC, .long rV])), (ysp, .inl (g.2.1 3, 10, .inl qk)), (ypa, .inl (g.2.1 1, 80, .inl qa)), (yb, .inl (g.2.1 1, 10, .inl qb)), (ybd, .inl (g.2.1 1, 80, .inl qd)), (ybc, .inl (g.2.1 1, 80, .inl qc))]) F Rt (by decide) (by decide) dX9_bid_47 [5, 0, 1, 2, 3, 4] rfl rfl rfl vc
  · replace vc := vc.2 q_3
    refine pz_aload_n 0 F rfl dX9_bid_13 rfl ?_
    refine pz_iload_n 2 F rfl dX9_bid_14 rfl ?_
    obtain ⟨h_4, vc⟩ := vc
    refine pz_callV (nA := 1) (ci := 8) (C := RX9) (T := TX9) (N := 42) (As := [.int x]) (rest := []) (wr := [(ypa, .inl (g.2.1 1, 80, .inl qa)), (yb, .inl (g.2.1 1, 10, .inl qb)), (ybd, .inl (g.2.1 1, 80, .inl qd)), (ybc, .inl (g.2.1 1, 80, .inl qc))]) F (ctX9_isWhole _ g x h0 yt rT 0 yw yp yg yu ysl yin yse ysp ypa rA yb ybd ybc yr rF rP ywd rS rN rO rW rL rD yd rI rX rY rZ rU yro yc ybe yco rC rV qk G K M N h_4) 5 rfl rfl pw_1012 pw_1014 pv_36 pw_8 pw_1015 (by decide +kernel) (by decide) (by decide) rfl rfl (Nat.le_of_ble_eq_true rfl) [5, 0] [1, 2, 3, 4] rfl rfl rfl rfl (by decide) dX9_bid_15 (fun r0 w0 hp0 => ?_)
    obtain ⟨r_5, _, rfl, rfl, hq_6⟩ := hp0
    replace vc := vc r_5  hq_6
    refine pz_eq (st' := [.int r_5]) (ws' := [(ypa, .inl (g.2.1 1, 80, .inl qa)), (yb, .inl (g.2.1 1, 10, .inl qb)), (ybd, .inl (g.2.1 1, 80, .inl qd)), (ybc, .inl (g.2.1 1, 80, .inl qc)), (h0, .inr (8, [.ref yt, .int rT, .int 0, .int (nI G), .ref yw, .int (nI K), .ref yp, .ref yg, .int (nI M), .ref yu, .int (nI N), .ref ysl, .ref yin, .ref yse, .ref ysp, .ref ypa, .int rA, .ref yb, .ref ybd, .ref ybc, .ref yr, .int rF, .int rP, .ref ywd, .int rS, .int rN, .int rO, .int rW, .int rL, .int rD, .ref yd, .int rI, .int rX, .int rY, .int rZ, .int rU, .ref yro, .ref yc, .ref ybe, .ref yco, .long rC, .long rV])), (ysp, .inl (g.2.1 3, 10, .inl qk))]) rfl rfl ?_
    refine pz_if_eq (tgt := 46) F dX9_bid_18 (by decide) (fun q_7 => ?_) (fun q_7 => ?_)
    · replace vc := vc.1 q_7
      refine pz_iconst (v := (-1)) F dX9_bid_46 rfl ?_
      exact pz_ireturn (w1 := [(h0, .inr (8, [.ref yt, .int rT, .int 0, .int (nI G), .ref yw, .int (nI K), .ref yp, .ref yg, .int (nI M), .ref yu, .int (nI N), .ref ysl, .ref yin, .ref yse, .ref ysp, .ref ypa, .int rA, .ref yb, .ref ybd, .ref ybc, .ref yr, .int rF, .int rP, .ref ywd, .int rS, .int rN, .int rO, .int rW, .int rL, .int rD, .ref yd, .int rI, .int rX, .int rY, .int rZ, .int rU, .ref yro, .ref yc, .ref ybe, .ref yco, .long rC, .long rV])), (ysp, .inl (g.2.1 3, 10, .inl qk)), (ypa, .inl (g.2.1 1, 80, .inl qa)), (yb, .inl (g.2.1 1, 10, .inl qb)), (ybd, .inl (g.2.1 1, 80, .inl qd)), (ybc, .inl (g.2.1 1, 80, .inl qc))]) F Rt (by decide) (by decide) dX9_bid_47 [4, 5, 0, 1, 2, 3] rfl rfl rfl vc
    · replace vc := vc.2 q_7
      refine pz_iload_n 3 F rfl dX9_bid_21 rfl ?_
      refine pz_iconst (v := 1) F dX9_bid_22 rfl ?_
      refine pz_icmp_lt (tgt := 46) F dX9_bid_23 (by decide) (fun q_8 => ?_) (fun q_8 => ?_)
      · replace vc := vc.1 q_8
        refine pz_iconst (v := (-1)) F dX9_bid_46 rfl ?_
        exact pz_ireturn (w1 := [(h0, .inr (8, [.ref yt, .int rT, .int 0, .int (nI G), .ref yw, .int (nI K), .ref yp, .ref yg, .int (nI M), .ref yu, .int (nI N), .ref ysl, .ref yin, .ref yse, .ref ysp, .ref ypa, .int rA, .ref yb, .ref ybd, .ref ybc, .ref yr, .int rF, .int rP, .ref ywd, .int rS, .int rN, .int rO, .int rW, .int rL, .int rD, .ref yd, .int rI, .int rX, .int rY, .int rZ, .int rU, .ref yro, .ref yc, .ref ybe, .ref yco, .long rC, .long rV])), (ysp, .inl (g.2.1 3, 10, .inl qk)), (ypa, .inl (g.2.1 1, 80, .inl qa)), (yb, .inl (g.2.1 1, 10, .inl qb)), (ybd, .inl (g.2.1 1, 80, .inl qd)), (ybc, .inl (g.2.1 1, 80, .inl qc))]) F Rt (by decide) (by decide) dX9_bid_47 [4, 5, 0, 1, 2, 3] rfl rfl rfl vc
      · replace vc := vc.2 q_8
        refine pz_iload_n 3 F rfl dX9_bid_26 rfl ?_
        refine pz_ldc (v := 99999) F pw_979 dX9_bid_27 ?_
        refine pz_icmp_gt (tgt := 46) F dX9_bid_29 (by decide) (fun q_9 => ?_) (fun q_9 => ?_)
        · replace vc := vc.1 q_9
          refine pz_iconst (v := (-1)) F dX9_bid_46 rfl ?_
          exact pz_ireturn (w1 := [(h0, .inr (8, [.ref yt, .int rT, .int 0, .int (nI G), .ref yw, .int (nI K), .ref yp, .ref yg, .int (nI M), .ref yu, .int (nI N), .ref ysl, .ref yin, .ref yse, .ref ysp, .ref ypa, .int rA, .ref yb, .ref ybd, .ref ybc, .ref yr, .int rF, .int rP, .ref ywd, .int rS, .int rN, .int rO, .int rW, .int rL, .int rD, .ref yd, .int rI, .int rX, .int rY, .int rZ, .int rU, .ref yro, .ref yc, .ref ybe, .ref yco, .long rC, .long rV])), (ysp, .inl (g.2.1 3, 10, .inl qk)), (ypa, .inl (g.2.1 1, 80, .inl qa)), (yb, .inl (g.2.1 1, 10, .inl qb)), (ybd, .inl (g.2.1 1, 80, .inl qd)), (ybc, .inl (g.2.1 1, 80, .inl qc))]) F Rt (by decide) (by decide) dX9_bid_47 [4, 5, 0, 1, 2, 3] rfl rfl rfl vc
        · replace vc := vc.2 q_9
          refine pz_aload_n 0 F rfl dX9_bid_32 rfl ?_
          refine pz_get (ci := 8) (C := RX9) (T := TX9) (N := 42) (v := .ref ypa) 4 F rfl rfl pz_inX9 15 (by decide) pw_823 rfl dX9_bid_33 ?_
          refine pz_bipush (v := 8) F dX9_bid_36 rfl ?_
          refine pz_iload_n 2 F rfl dX9_bid_38 rfl ?_
          refine pz_imul F dX9_bid_39 ?_
          refine pz_iload_n 1 F rfl dX9_bid_40 rfl ?_
          refine pz_iadd F dX9_bid_41 ?_
          obtain ⟨h_10, vc⟩ := vc
          refine pz_iaload 0 F rfl h_10 dX9_bid_42 ?_
          refine pz_if_le (tgt := 48) F dX9_bid_43 (by decide) (fun q_11 => ?_) (fun q_11 => ?_)
          · replace vc := vc.1 q_11
            refine pz_iconst (v := 0) F dX9_bid_48 rfl ?_
            refine pz_istore (lv' := [(4, .int 0), (0, .ref h0), (1, .int m), (2, .int x), (3, .int c)]) F dX9_bid_49 (by decide) rfl ?_
            exact pz_sub [1, 2, 3, 4, 0] [4, 5, 0, 1, 2, 3] rfl rfl rfl (hT51 0 vc)
          · replace vc := vc.2 q_11
            refine pz_iconst (v := (-1)) F dX9_bid_46 rfl ?_
            exact pz_ireturn (w1 := [(h0, .inr (8, [.ref yt, .int rT, .int 0, .int (nI G), .ref yw, .int (nI K), .ref yp, .ref yg, .int (nI M), .ref yu, .int (nI N), .ref ysl, .ref yin, .ref yse, .ref ysp, .ref ypa, .int rA, .ref yb, .ref ybd, .ref ybc, .ref yr, .int rF, .int rP, .ref ywd, .int rS, .int rN, .int rO, .int rW, .int rL, .int rD, .ref yd, .int rI, .int rX, .int rY, .int rZ, .int rU, .ref yro, .ref yc, .ref ybe, .ref yco, .long rC, .long rV])), (ysp, .inl (g.2.1 3, 10, .inl qk)), (ypa, .inl (g.2.1 1, 80, .inl qa)), (yb, .inl (g.2.1 1, 10, .inl qb)), (ybd, .inl (g.2.1 1, 80, .inl qd)), (ybc, .inl (g.2.1 1, 80, .inl qc))]) F Rt (by decide) (by decide) dX9_bid_47 [4, 5, 0, 1, 2, 3] rfl rfl rfl vc
set_option maxHeartbeats 4000000 in
set_option maxRecDepth 100000 in
theorem sgX9_bid_51 {B : pz_B} {g : pz_G} {wc : va_W} {Post : Option Value → va_W → Prop} (F : pz_F B cX9_bid 5 (some .int) yX9_bid.cls g rmX9_bid) (Rt : pz_Rt B g wc Post rmX9_bid) (m : Int32) (x : Int32) (c : Int32) (h0 : Nat) (yt : Nat) (rT : Int32) (rH : Int32) (yw : Nat) (yp : Nat) (yg : Nat) (yu : Nat) (ysl : Nat) (yin : Nat) (yse : Nat) (ysp : Nat) (ypa : Nat) (rA : Int32) (yb : Nat) (ybd : Nat) (ybc : Nat) (yr : Nat) (rF : Int32) (rP : Int32) (ywd : Nat) (rS : Int32) (rN : Int32) (rO : Int32) (rW : Int32) (rL : Int32) (rD : Int32) (yd : Nat) (rI : Int32) (rX : Int32) (rY : Int32) (rZ : Int32) (rU : Int32) (yro : Nat) (yc : Nat) (ybe : Nat) (yco : Nat) (rC : Int64) (rV : Int64) (qk : Nat → Int32) (qa : Nat → Int32) (qb : Nat → Int32) (qd : Nat → Int32) (qc : Nat → Int32) (G : Nat) (K : Nat) (M : Nat) (N : Nat) (b : Nat) (Bc : Nat) (T51 : Int32 → Prop) (hT51 : ∀ (i : Int32), T51 i → paX9_bid_51 B g m x c h0 yt rT rH yw yp yg yu ysl yin yse ysp ypa rA yb ybd ybc yr rF rP ywd rS rN rO rW rL rD yd rI rX rY rZ rU yro yc ybe yco rC rV qk qa qb qd qc G K M N b Bc i) (i : Int32) (vc : vp_in x 10 ∧ (((qb x.toNatClampNeg) ≤ i → vp_in x 10 ∧ vp_in ((8 * x) + (qb x.toNatClampNeg)) 80 ∧ ∀ f_5 : Nat → Int32, f_5 = upd qd ((8 * x) + (qb x.toNatClampNeg)).toNatClampNeg m → vp_in x 10 ∧ vp_in ((8 * x) + (qb x.toNatClampNeg)) 80 ∧ ∀ f_8 : Nat → Int32, f_8 = upd qc ((8 * x) + (qb x.toNatClampNeg)).toNatClampNeg c → vp_in x 10 ∧ ∀ x_10 : Int32, x_10 = ((qb x.toNatClampNeg) + 1) → vp_in x 10 ∧ ∀ f_12 : Nat → Int32, f_12 = upd qb x.toNatClampNeg x_10 → vp_in x 10 ∧ ∀ x_14 : Int32, x_14 = (f_12 x.toNatClampNeg) → Post (some (.int x_14)) [(h0, .inr (8, [.ref yt, .int rT, .int 0, .int (nI G), .ref yw, .int (nI K), .ref yp, .ref yg, .int (nI M), .ref yu, .int (nI N), .ref ysl, .ref yin, .ref yse, .ref ysp, .ref ypa, .int rA, .ref yb, .ref ybd, .ref ybc, .ref yr, .int rF, .int rP, .ref ywd, .int rS, .int rN, .int rO, .int rW, .int rL, .int rD, .ref yd, .int rI, .int rX, .int rY, .int rZ, .int rU, .ref yro, .ref yc, .ref ybe, .ref yco, .long rC, .long rV])), (ysp, .inl (g.2.1 3, 10, .inl qk)), (ypa, .inl (g.2.1 1, 80, .inl qa)), (yb, .inl (g.2.1 1, 10, .inl f_12)), (ybd, .inl (g.2.1 1, 80, .inl f_5)), (ybc, .inl (g.2.1 1, 80, .inl f_8))]) ∧ (¬ (qb x.toNatClampNeg) ≤ i → vp_in ((8 * x) + i) 80 ∧ (((qd ((8 * x) + i).toNatClampNeg) = m → vp_in ((8 * x) + i) 80 ∧ ∀ f_18 : Nat → Int32, f_18 = upd qc ((8 * x) + i).toNatClampNeg c → vp_in x 10 ∧ ∀ x_20 : Int32, x_20 = (qb x.toNatClampNeg) → Post (some (.int x_20)) [(h0, .inr (8, [.ref yt, .int rT, .int 0, .int (nI G), .ref yw, .int (nI K), .ref yp, .ref yg, .int (nI M), .ref yu, .int (nI N), .ref ysl, .ref yin, .ref yse, .ref ysp, .ref ypa, .int rA, .ref yb, .ref ybd, .ref ybc, .ref yr, .int rF, .int rP, .ref ywd, .int rS, .int rN, .int rO, .int rW, .int rL, .int rD, .ref yd, .int rI, .int rX, .int rY, .int rZ, .int rU, .ref yro, .ref yc, .ref ybe, .ref yco, .long rC, .long rV])), (ysp, .inl (g.2.1 3, 10, .inl qk)), (ypa, .inl (g.2.1 1, 80, .inl qa)), (yb, .inl (g.2.1 1, 10, .inl qb)), (ybd, .inl (g.2.1 1, 80, .inl qd)), (ybc, .inl (g.2.1 1, 80, .inl f_18))]) ∧ (¬ (qd ((8 * x) + i).toNatClampNeg) = m → ∀ x_21 : Int32, x_21 = i + 1 → T51 x_21))))) : pz_At B 0 0 51 [(0, .ref h0), (1, .int m), (2, .int x), (3, .int c), (4, .int i)] [] [(h0, .inr (8, [.ref yt, .int rT, .int 0, .int (nI G), .ref yw, .int (nI K), .ref yp, .ref yg, .int (nI M), .ref yu, .int (nI N), .ref ysl, .ref yin, .ref yse, .ref ysp, .ref ypa, .int rA, .ref yb, .ref ybd, .ref ybc, .ref yr, .int rF, .int rP, .ref ywd, .int rS, .int rN, .int rO, .int rW, .int rL, .int rD, .ref yd, .int rI, .int rX, .int rY, .int rZ, .int rU, .ref yro, .ref yc, .ref ybe, .ref yco, .long rC, .long rV])), (ysp, .inl (g.2.1 3, 10, .inl qk)), (ypa, .inl (g.2.1 1, 80, .inl qa)), (yb, .inl (g.2.1 1, 10, .inl qb)), (ybd, .inl (g.2.1 1, 80, .inl qd)), (ybc, .inl (g.2.1 1, 80, .inl qc))] := by
  refine pz_iload 4 F rfl dX9_bid_51 ?_
  refine pz_aload_n 0 F rfl dX9_bid_53 rfl ?_
  refine pz_get (ci := 8) (C := RX9) (T := TX9) (N := 42) (v := .ref yb) 0 F rfl rfl pz_inX9 17 (by decide) pw_825 rfl dX9_bid_54 ?_
  refine pz_iload_n 2 F rfl dX9_bid_57 rfl ?_
  obtain ⟨h_1, vc⟩ := vc
  refine pz_iaload 3 F rfl h_1 dX9_bid_58 ?_
  refine pz_icmp_ge (tgt := 107) F dX9_bid_59 (by decide) (fun q_2 => ?_) (fun q_2 => ?_)
  · replace vc := vc.1 q_2
    refine pz_aload_n 0 F rfl dX9_bid_107 rfl ?_
    refine pz_get (ci := 8) (C := RX9) (T := TX9) (N := 42) (v := .ref ybd) 0 F rfl rfl pz_inX9 18 (by decide) pw_826 rfl dX9_bid_108 ?_
    refine pz_bipush (v := 8) F dX9_bid_111 rfl ?_
    refine pz_iload_n 2 F rfl dX9_bid_113 rfl ?_
    refine pz_imul F dX9_bid_114 ?_
    refine pz_aload_n 0 F rfl dX9_bid_115 rfl ?_
    refine pz_get (ci := 8) (C := RX9) (T := TX9) (N := 42) (v := .ref yb) 0 F rfl rfl pz_inX9 17 (by decide) pw_825 rfl dX9_bid_116 ?_
    refine pz_iload_n 2 F rfl dX9_bid_119 rfl ?_
    obtain ⟨h_3, vc⟩ := vc
    refine pz_iaload 3 F rfl h_3 dX9_bid_120 ?_
    refine pz_iadd F dX9_bid_121 ?_
    refine pz_iload_n 1 F rfl dX9_bid_122 rfl ?_
    obtain ⟨h_4, vc⟩ := vc
    obtain ⟨f_5, ef_5⟩ : ∃ z : Nat → Int32, z = upd qd ((8 * x) + (qb x.toNatClampNeg)).toNatClampNeg m := ⟨_, rfl⟩
    replace vc := vc f_5 ef_5
    refine pz_iastore (ws' := [(h0, .inr (8, [.ref yt, .int rT, .int 0, .int (nI G), .ref yw, .int (nI K), .ref yp, .ref yg, .int (nI M), .ref yu, .int (nI N), .ref ysl, .ref yin, .ref yse, .ref ysp, .ref ypa, .int rA, .ref yb, .ref ybd, .ref ybc, .ref yr, .int rF, .int rP, .ref ywd, .int rS, .int rN, .int rO, .int rW, .int rL, .int rD, .ref yd, .int rI, .int rX, .int rY, .int rZ, .int rU, .ref yro, .ref yc, .ref ybe, .ref yco, .long rC, .long rV])), (ysp, .inl (g.2.1 3, 10, .inl qk)), (ypa, .inl (g.2.1 1, 80, .inl qa)), (yb, .inl (g.2.1 1, 10, .inl qb)), (ybd, .inl (g.2.1 1, 80, .inl f_5)), (ybc, .inl (g.2.1 1, 80, .inl qc))]) F 4 rfl h_4 dX9_bid_123 (by rw [ef_5]; rfl) ?_
    refine pz_aload_n 0 F rfl dX9_bid_124 rfl ?_
    refine pz_get (ci := 8) (C := RX9) (T := TX9) (N := 42) (v := .ref ybc) 0 F rfl rfl pz_inX9 19 (by decide) pw_827 rfl dX9_bid_125 ?_
    refine pz_bipush (v := 8) F dX9_bid_128 rfl ?_
    refine pz_iload_n 2 F rfl dX9_bid_130 rfl ?_
    refine pz_imul F dX9_bid_131 ?_
    refine pz_aload_n 0 F rfl dX9_bid_132 rfl ?_
    refine pz_get (ci := 8) (C := RX9) (T := TX9) (N := 42) (v := .ref yb) 0 F rfl rfl pz_inX9 17 (by decide) pw_825 rfl dX9_bid_133 ?_
    refine pz_iload_n 2 F rfl dX9_bid_136 rfl ?_
    obtain ⟨h_6, vc⟩ := vc
    refine pz_iaload 3 F rfl h_6 dX9_bid_137 ?_
    refine pz_iadd F dX9_bid_138 ?_
    refine pz_iload_n 3 F rfl dX9_bid_139 rfl ?_
    obtain ⟨h_7, vc⟩ := vc
    obtain ⟨f_8, ef_8⟩ : ∃ z : Nat → Int32, z = upd qc ((8 * x) + (qb x.toNatClampNeg)).toNatClampNeg c := ⟨_, rfl⟩
    replace vc := vc f_8 ef_8
    refine pz_iastore (ws' := [(h0, .inr (8, [.ref yt, .int rT, .int 0, .int (nI G), .ref yw, .int (nI K), .ref yp, .ref yg, .int (nI M), .ref yu, .int (nI N), .ref ysl, .ref yin, .ref yse, .ref ysp, .ref ypa, .int rA, .ref yb, .ref ybd, .ref ybc, .ref yr, .int rF, .int rP, .ref ywd, .int rS, .int rN, .int rO, .int rW, .int rL, .int rD, .ref yd, .int rI, .int rX, .int rY, .int rZ, .int rU, .ref yro, .ref yc, .ref ybe, .ref yco, .long rC, .long rV])), (ysp, .inl (g.2.1 3, 10, .inl qk)), (ypa, .inl (g.2.1 1, 80, .inl qa)), (yb, .inl (g.2.1 1, 10, .inl qb)), (ybd, .inl (g.2.1 1, 80, .inl f_5)), (ybc, .inl (g.2.1 1, 80, .inl f_8))]) F 5 rfl h_7 dX9_bid_140 (by rw [ef_8]; rfl) ?_
    refine pz_aload_n 0 F rfl dX9_bid_141 rfl ?_
    refine pz_get (ci := 8) (C := RX9) (T := TX9) (N := 42) (v := .ref yb) 0 F rfl rfl pz_inX9 17 (by decide) pw_825 rfl dX9_bid_142 ?_
    refine pz_iload_n 2 F rfl dX9_bid_145 rfl ?_
    refine pz_dup2 F dX9_bid_146 rfl rfl ?_
    obtain ⟨h_9, vc⟩ := vc
    refine pz_iaload 3 F rfl h_9 dX9_bid_147 ?_
    refine pz_iconst (v := 1) F dX9_bid_148 rfl ?_
    refine pz_iadd F dX9_bid_149 ?_
    refine pz_topi (fun x_10 ex_10 => ?_)
    replace vc := vc x_10 ex_10
    obtain ⟨h_11, vc⟩ := vc
    obtain ⟨f_12, ef_12⟩ : ∃ z : Nat → Int32, z = upd qb x.toNatClampNeg x_10 := ⟨_, rfl⟩
    replace vc := vc f_12 ef_12
    refine pz_iastore (ws' := [(h0, .inr (8, [.ref yt, .int rT, .int 0, .int (nI G), .ref yw, .int (nI K), .ref yp, .ref yg, .int (nI M), .ref yu, .int (nI N), .ref ysl, .ref yin, .ref yse, .ref ysp, .ref ypa, .int rA, .ref yb, .ref ybd, .ref ybc, .ref yr, .int rF, .int rP, .ref ywd, .int rS, .int rN, .int rO, .int rW, .int rL, .int rD, .ref yd, .int rI, .int rX, .int rY, .int rZ, .int rU, .ref yro, .ref yc, .ref ybe, .ref yco, .long rC, .long rV])), (ysp, .inl (g.2.1 3, 10, .inl qk)), (ypa, .inl (g.2.1 1, 80, .inl qa)), (yb, .inl (g.2.1 1, 10, .inl f_12)), (ybd, .inl (g.2.1 1, 80, .inl f_5)), (ybc, .inl (g.2.1 1, 80, .inl f_8))]) F 3 rfl h_11 dX9_bid_150 (by rw [ef_12]; rfl) ?_
    refine pz_aload_n 0 F rfl dX9_bid_151 rfl ?_
    refine pz_get (ci := 8) (C := RX9) (T := TX9) (N := 42) (v := .ref yb) 0 F rfl rfl pz_inX9 17 (by decide) pw_825 rfl dX9_bid_152 ?_
    refine pz_iload_n 2 F rfl dX9_bid_155 rfl ?_
    obtain ⟨h_13, vc⟩ := vc
    refine pz_iaload 3 F rfl h_13 dX9_bid_156 ?_
    refine pz_topi (fun x_14 ex_14 => ?_)
    replace vc := vc x_14 ex_14
    exact pz_ireturn (w1 := [(h0, .inr (8, [.ref yt, .int rT, .int 0, .int (nI G), .ref yw, .int (nI K), .ref yp, .ref yg, .int (nI M), .ref yu, .int (nI N), .ref ysl, .ref yin, .ref yse, .ref ysp, .ref ypa, .int rA, .ref yb, .ref ybd, .ref ybc, .ref yr, .int rF, .int rP, .ref ywd, .int rS, .int rN, .int rO, .int rW, .int rL, .int rD, .ref yd, .int rI, .int rX, .int rY, .int rZ, .int rU, .ref yro, .ref yc, .ref ybe, .ref yco, .long rC, .long rV])), (ysp, .inl (g.2.1 3, 10, .inl qk)), (ypa, .inl (g.2.1 1, 80, .inl qa)), (yb, .inl (g.2.1 1, 10, .inl f_12)), (ybd, .inl (g.2.1 1, 80, .inl f_5)), (ybc, .inl (g.2.1 1, 80, .inl f_8))]) F Rt (by decide) (by decide) dX9_bid_157 [0, 1, 2, 3, 4, 5] rfl rfl rfl vc
  · replace vc := vc.2 q_2
    refine pz_aload_n 0 F rfl dX9_bid_62 rfl ?_
    refine pz_get (ci := 8) (C := RX9) (T := TX9) (N := 42) (v := .ref ybd) 0 F rfl rfl pz_inX9 18 (by decide) pw_826 rfl dX9_bid_63 ?_
    refine pz_bipush (v := 8) F dX9_bid_66 rfl ?_
    refine pz_iload_n 2 F rfl dX9_bid_68 rfl ?_
    refine pz_imul F dX9_bid_69 ?_
    refine pz_iload 4 F rfl dX9_bid_70 ?_
    refine pz_iadd F dX9_bid_72 ?_
    obtain ⟨h_15, vc⟩ := vc
    refine pz_iaload 4 F rfl h_15 dX9_bid_73 ?_
    refine pz_iload_n 1 F rfl dX9_bid_74 rfl ?_
    refine pz_icmp_eq (tgt := 81) F dX9_bid_75 (by decide) (fun q_16 => ?_) (fun q_16 => ?_)
    · replace vc := vc.1 q_16
      refine pz_aload_n 0 F rfl dX9_bid_81 rfl ?_
      refine pz_get (ci := 8) (C := RX9) (T := TX9) (N := 42) (v := .ref ybc) 0 F rfl rfl pz_inX9 19 (by decide) pw_827 rfl dX9_bid_82 ?_
      refine pz_bipush (v := 8) F dX9_bid_85 rfl ?_
      refine pz_iload_n 2 F rfl dX9_bid_87 rfl ?_
      refine pz_imul F dX9_bid_88 ?_
      refine pz_iload 4 F rfl dX9_bid_89 ?_
      refine pz_iadd F dX9_bid_91 ?_
      refine pz_iload_n 3 F rfl dX9_bid_92 rfl ?_
      obtain ⟨h_17, vc⟩ := vc
      obtain ⟨f_18, ef_18⟩ : ∃ z : Nat → Int32, z = upd qc ((8 * x) + i).toNatClampNeg c := ⟨_, rfl⟩
      replace vc := vc f_18 ef_18
      refine pz_iastore (ws' := [(h0, .inr (8, [.ref yt, .int rT, .int 0, .int (nI G), .ref yw, .int (nI K), .ref yp, .ref yg, .int (nI M), .ref yu, .int (nI N), .ref ysl, .ref yin, .ref yse, .ref ysp, .ref ypa, .int rA, .ref yb, .ref ybd, .ref ybc, .ref yr, .int rF, .int rP, .ref ywd, .int rS, .int rN, .int rO, .int rW, .int rL, .int rD, .ref yd, .int rI, .int rX, .int rY, .int rZ, .int rU, .ref yro, .ref yc, .ref ybe, .ref yco, .long rC, .long rV])), (ysp, .inl (g.2.1 3, 10, .inl qk)), (ypa, .inl (g.2.1 1, 80, .inl qa)), (yb, .inl (g.2.1 1, 10, .inl qb)), (ybd, .inl (g.2.1 1, 80, .inl qd)), (ybc, .inl (g.2.1 1, 80, .inl f_18))]) F 5 rfl h_17 dX9_bid_93 (by rw [ef_18]; rfl) ?_
      refine pz_aload_n 0 F rfl dX9_bid_94 rfl ?_
      refine pz_get (ci := 8) (C := RX9) (T := TX9) (N := 42) (v := .ref yb) 0 F rfl rfl pz_inX9 17 (by decide) pw_825 rfl dX9_bid_95 ?_
      refine pz_iload_n 2 F rfl dX9_bid_98 rfl ?_
      obtain ⟨h_19, vc⟩ := vc
      refine pz_iaload 3 F rfl h_19 dX9_bid_99 ?_
      refine pz_topi (fun x_20 ex_20 => ?_)
      replace vc := vc x_20 ex_20
      exact pz_ireturn (w1 := [(h0, .inr (8, [.ref yt, .int rT, .int 0, .int (nI G), .ref yw, .int (nI K), .ref yp, .ref yg, .int (nI M), .ref yu, .int (nI N), .ref ysl, .ref yin, .ref yse, .ref ysp, .ref ypa, .int rA, .ref yb, .ref ybd, .ref ybc, .ref yr, .int rF, .int rP, .ref ywd, .int rS, .int rN, .int rO, .int rW, .int rL, .int rD, .ref yd, .int rI, .int rX, .int rY, .int rZ, .int rU, .ref yro, .ref yc, .ref ybe, .ref yco, .long rC, .long rV])), (ysp, .inl (g.2.1 3, 10, .inl qk)), (ypa, .inl (g.2.1 1, 80, .inl qa)), (yb, .inl (g.2.1 1, 10, .inl qb)), (ybd, .inl (g.2.1 1, 80, .inl qd)), (ybc, .inl (g.2.1 1, 80, .inl f_18))]) F Rt (by decide) (by decide) dX9_bid_100 [0, 1, 2, 3, 4, 5] rfl rfl rfl vc
    · replace vc := vc.2 q_16
      refine pz_goto (tgt := 101) F dX9_bid_78 (by decide) ?_
      obtain ⟨x_21, ex_21⟩ : ∃ z : Int32, z = i + 1 := ⟨_, rfl⟩
      replace vc := vc x_21 ex_21
      refine pz_iinc (v := x_21) (lv' := [(4, .int x_21), (0, .ref h0), (1, .int m), (2, .int x), (3, .int c)]) 4 F rfl dX9_bid_101 (by rw [ex_21]; rfl) (by decide) rfl ?_
      refine pz_goto (tgt := 51) F dX9_bid_104 (by decide) ?_
      exact pz_sub [1, 2, 3, 4, 0] [0, 1, 2, 3, 4, 5] rfl rfl rfl (hT51 x_21 vc)
theorem lpX9_bid_51 {B : pz_B} {g : pz_G} {wc : va_W} {Post : Option Value → va_W → Prop} (F : pz_F B cX9_bid 5 (some .int) yX9_bid.cls g rmX9_bid) (Rt : pz_Rt B g wc Post rmX9_bid) (m : Int32) (x : Int32) (c : Int32) (h0 : Nat) (yt : Nat) (rT : Int32) (rH : Int32) (yw : Nat) (yp : Nat) (yg : Nat) (yu : Nat) (ysl : Nat) (yin : Nat) (yse : Nat) (ysp : Nat) (ypa : Nat) (rA : Int32) (yb : Nat) (ybd : Nat) (ybc : Nat) (yr : Nat) (rF : Int32) (rP : Int32) (ywd : Nat) (rS : Int32) (rN : Int32) (rO : Int32) (rW : Int32) (rL : Int32) (rD : Int32) (yd : Nat) (rI : Int32) (rX : Int32) (rY : Int32) (rZ : Int32) (rU : Int32) (yro : Nat) (yc : Nat) (ybe : Nat) (yco : Nat) (rC : Int64) (rV : Int64) (qk : Nat → Int32) (qa : Nat → Int32) (qb : Nat → Int32) (qd : Nat → Int32) (qc : Nat → Int32) (G : Nat) (K : Nat) (M : Nat) (N : Nat) (b : Nat) (Bc : Nat) (Inv : Nat → Int32 → Prop) (step : ∀ (mz : Nat) (i : Int32), Inv mz i → ∀ TT : Int32 → Prop, TT = (fun i => ∃ mz', mz' < mz ∧ Inv mz' i) → vp_in x 10 ∧ (((qb x.toNatClampNeg) ≤ i → vp_in x 10 ∧ vp_in ((8 * x) + (qb x.toNatClampNeg)) 80 ∧ ∀ f_5 : Nat → Int32, f_5 = upd qd ((8 * x) + (qb x.toNatClampNeg)).toNatClampNeg m → vp_in x 10 ∧ vp_in ((8 * x) + (qb x.toNatClampNeg)) 80 ∧ ∀ f_8 : Nat → Int32, f_8 = upd qc ((8 * x) + (qb x.toNatClampNeg)).toNatClampNeg c → vp_in x 10 ∧ ∀ x_10 : Int32, x_10 = ((qb x.toNatClampNeg) + 1) → vp_in x 10 ∧ ∀ f_12 : Nat → Int32, f_12 = upd qb x.toNatClampNeg x_10 → vp_in x 10 ∧ ∀ x_14 : Int32, x_14 = (f_12 x.toNatClampNeg) → Post (some (.int x_14)) [(h0, .inr (8, [.ref yt, .int rT, .int 0, .int (nI G), .ref yw, .int (nI K), .ref yp, .ref yg, .int (nI M), .ref yu, .int (nI N), .ref ysl, .ref yin, .ref yse, .ref ysp, .ref ypa, .int rA, .ref yb, .ref ybd, .ref ybc, .ref yr, .int rF, .int rP, .ref ywd, .int rS, .int rN, .int rO, .int rW, .int rL, .int rD, .ref yd, .int rI, .int rX, .int rY, .int rZ, .int rU, .ref yro, .ref yc, .ref ybe, .ref yco, .long rC, .long rV])), (ysp, .inl (g.2.1 3, 10, .inl qk)), (ypa, .inl (g.2.1 1, 80, .inl qa)), (yb, .inl (g.2.1 1, 10, .inl f_12)), (ybd, .inl (g.2.1 1, 80, .inl f_5)), (ybc, .inl (g.2.1 1, 80, .inl f_8))]) ∧ (¬ (qb x.toNatClampNeg) ≤ i → vp_in ((8 * x) + i) 80 ∧ (((qd ((8 * x) + i).toNatClampNeg) = m → vp_in ((8 * x) + i) 80 ∧ ∀ f_18 : Nat → Int32, f_18 = upd qc ((8 * x) + i).toNatClampNeg c → vp_in x 10 ∧ ∀ x_20 : Int32, x_20 = (qb x.toNatClampNeg) → Post (some (.int x_20)) [(h0, .inr (8, [.ref yt, .int rT, .int 0, .int (nI G), .ref yw, .int (nI K), .ref yp, .ref yg, .int (nI M), .ref yu, .int (nI N), .ref ysl, .ref yin, .ref yse, .ref ysp, .ref ypa, .int rA, .ref yb, .ref ybd, .ref ybc, .ref yr, .int rF, .int rP, .ref ywd, .int rS, .int rN, .int rO, .int rW, .int rL, .int rD, .ref yd, .int rI, .int rX, .int rY, .int rZ, .int rU, .ref yro, .ref yc, .ref ybe, .ref yco, .long rC, .long rV])), (ysp, .inl (g.2.1 3, 10, .inl qk)), (ypa, .inl (g.2.1 1, 80, .inl qa)), (yb, .inl (g.2.1 1, 10, .inl qb)), (ybd, .inl (g.2.1 1, 80, .inl qd)), (ybc, .inl (g.2.1 1, 80, .inl f_18))]) ∧ (¬ (qd ((8 * x) + i).toNatClampNeg) = m → ∀ x_21 : Int32, x_21 = i + 1 → TT x_21))))) : ∀ (mz : Nat) (i : Int32), Inv mz i → paX9_bid_51 B g m x c h0 yt rT rH yw yp yg yu ysl yin yse ysp ypa rA yb ybd ybc yr rF rP ywd rS rN rO rW rL rD yd rI rX rY rZ rU yro yc ybe yco rC rV qk qa qb qd qc G K M N b Bc i := by
  intro mz
  induction mz using Nat.strongRecOn with
  | _ mz ih =>
    intro i hI
    exact sgX9_bid_51 F Rt m x c h0 yt rT rH yw yp yg yu ysl yin yse ysp ypa rA yb ybd ybc yr rF rP ywd rS rN rO rW rL rD yd rI rX rY rZ rU yro yc ybe yco rC rV qk qa qb qd qc G K M N b Bc (fun i => ∃ mz', mz' < mz ∧ Inv mz' i) (fun i ⟨mz', h1, h2⟩ => ih mz' h1 i h2) i (step mz i hI _ rfl)
set_option maxHeartbeats 4000000 in
set_option maxRecDepth 100000 in
theorem ctX9_bid (l : Launch) (g : pz_G) (m : Int32) (x : Int32) (c : Int32) (h0 : Nat) (yt : Nat) (rT : Int32) (rH : Int32) (yw : Nat) (yp : Nat) (yg : Nat) (yu : Nat) (ysl : Nat) (yin : Nat) (yse : Nat) (ysp : Nat) (ypa : Nat) (rA : Int32) (yb : Nat) (ybd : Nat) (ybc : Nat) (yr : Nat) (rF : Int32) (rP : Int32) (ywd : Nat) (rS : Int32) (rN : Int32) (rO : Int32) (rW : Int32) (rL : Int32) (rD : Int32) (yd : Nat) (rI : Int32) (rX : Int32) (rY : Int32) (rZ : Int32) (rU : Int32) (yro : Nat) (yc : Nat) (ybe : Nat) (yco : Nat) (rC : Int64) (rV : Int64) (qk : Nat → Int32) (qa : Nat → Int32) (qb : Nat → Int32) (qd : Nat → Int32) (qc : Nat → Int32) (G : Nat) (K : Nat) (M : Nat) (N : Nat) (b : Nat) (Bc : Nat) (hpre : N ≤ 10 ∧ M ≤ 8 ∧ (wh_ok x N qk → x = nI b ∧ b < N ∧ qb b = nI Bc ∧ Bc ≤ 8 ∧ ((∀ a, a < Bc → ¬ qd (8 * b + a) = m) → Bc < 8))) : pz_Ct l g yX9_bid cX9_bid 5 (some .int) rmX9_bid [.ref h0, .int m, .int x, .int c] [(h0, .inr (8, [.ref yt, .int rT, .int rH, .int (nI G), .ref yw, .int (nI K), .ref yp, .ref yg, .int (nI M), .ref yu, .int (nI N), .ref ysl, .ref yin, .ref yse, .ref ysp, .ref ypa, .int rA, .ref yb, .ref ybd, .ref ybc, .ref yr, .int rF, .int rP, .ref ywd, .int rS, .int rN, .int rO, .int rW, .int rL, .int rD, .ref yd, .int rI, .int rX, .int rY, .int rZ, .int rU, .ref yro, .ref yc, .ref ybe, .ref yco, .long rC, .long rV])), (ysp, .inl (g.2.1 3, 10, .inl qk)), (ypa, .inl (g.2.1 1, 80, .inl qa)), (yb, .inl (g.2.1 1, 10, .inl qb)), (ybd, .inl (g.2.1 1, 80, .inl qd)), (ybc, .inl (g.2.1 1, 80, .inl qc))] (pz_pi (fun (r : Int32) (u : (Nat → Int32) × (Nat → Int32) × (Nat → Int32)) => ((hs_in m M ∧ wh_ok x N qk ∧ ¬ c < 1 ∧ c ≤ 99999 ∧ qa (8 * b + m.toNatClampNeg) ≤ 0) ∧ ((∃ j, j < Bc ∧ qd (8 * b + j) = m ∧ (∀ a, a < j → ¬ qd (8 * b + a) = m) ∧ u.1 = qd ∧ u.2.1 = upd qc (8 * b + j) c ∧ u.2.2 = qb ∧ r = nI Bc) ∨ ((∀ a, a < Bc → ¬ qd (8 * b + a) = m) ∧ Bc < 8 ∧ u.1 = upd qd (8 * b + Bc) m ∧ u.2.1 = upd qc (8 * b + Bc) c ∧ u.2.2 = upd qb b (nI (Bc + 1)) ∧ r = nI (Bc + 1)))) ∨ (¬ (hs_in m M ∧ wh_ok x N qk ∧ ¬ c < 1 ∧ c ≤ 99999 ∧ qa (8 * b + m.toNatClampNeg) ≤ 0) ∧ r = -1 ∧ u.1 = qd ∧ u.2.1 = qc ∧ u.2.2 = qb)) (fun (u : (Nat → Int32) × (Nat → Int32) × (Nat → Int32)) => [(h0, .inr (8, [.ref yt, .int rT, .int 0, .int (nI G), .ref yw, .int (nI K), .ref yp, .ref yg, .int (nI M), .ref yu, .int (nI N), .ref ysl, .ref yin, .ref yse, .ref ysp, .ref ypa, .int rA, .ref yb, .ref ybd, .ref ybc, .ref yr, .int rF, .int rP, .ref ywd, .int rS, .int rN, .int rO, .int rW, .int rL, .int rD, .ref yd, .int rI, .int rX, .int rY, .int rZ, .int rU, .ref yro, .ref yc, .ref ybe, .ref yco, .long rC, .long rV])), (ysp, .inl (g.2.1 3, 10, .inl qk)), (ypa, .inl (g.2.1 1, 80, .inl qa)), (yb, .inl (g.2.1 1, 10, .inl u.2.2)), (ybd, .inl (g.2.1 1, 80, .inl u.1)), (ybc, .inl (g.2.1 1, 80, .inl u.2.1))])) := by
  refine pz_ofAt (by decide +kernel) (Nat.le_of_ble_eq_true rfl) (fun B F Rt hme => ?_)
  obtain ⟨hN, hM, hw0⟩ := hpre
  have h51 : (hs_in m M ∧ wh_ok x N qk ∧ ¬ c < 1 ∧ c ≤ 99999 ∧ qa (8 * b + m.toNatClampNeg) ≤ 0) → ∀ (mz : Nat) (i : Int32), (∃ j, j + mz = Bc ∧ i = nI j ∧ ∀ a, a < j → ¬ qd (8 * b + a) = m) → paX9_bid_51 B g m x c h0 yt rT rH yw yp yg yu ysl yin yse ysp ypa rA yb ybd ybc yr rF rP ywd rS rN rO rW rL rD yd rI rX rY rZ rU yro yc ybe yco rC rV qk qa qb qd qc G K M N b Bc i := fun hok => lpX9_bid_51 F Rt m x c h0 yt rT rH yw yp yg yu ysl yin yse ysp ypa rA yb ybd ybc yr rF rP ywd rS rN rO rW rL rD yd rI rX rY rZ rU yro yc ybe yco rC rV qk qa qb qd qc G K M N b Bc (fun mz i => ∃ j, j + mz = Bc ∧ i = nI j ∧ ∀ a, a < j → ¬ qd (8 * b + a) = m) (by
    obtain ⟨rfl, hb, hq, hB, hfree⟩ := hw0 hok.2.1
    rintro mz i ⟨j, hj, rfl, hd⟩ TT rfl
    have hbin : vp_in (nI b) 10 := vp_in_nI (by omega) (by omega)
    rw [nI_clamp (by omega), hq]
    refine ⟨hbin, fun q => ?_, fun q => ?_⟩
    · have h1 := pu_ge (by omega) q
      have ej : j = Bc := by omega
      subst ej
      have hB8 := hfree hd
      rw [pu_8, nI_clamp (by omega)]
      refine ⟨hbin, vp_in_nI (by omega) (by omega), ?_⟩
      rintro f1 rfl
      refine ⟨hbin, vp_in_nI (by omega) (by omega), ?_⟩
      rintro f2 rfl
      refine ⟨hbin, ?_⟩
      rintro x1 rfl
      refine ⟨hbin, ?_⟩
      rintro f3 rfl
      refine ⟨hbin, ?_⟩
      rintro x2 rfl
      exact ⟨_, (_, _, _), rfl, rfl, Or.inl ⟨hok, Or.inr ⟨hd, hB8, rfl, rfl, by show upd qb b (nI j + 1) = _; rw [nI_1], by rw [pk_us, nI_1]⟩⟩⟩
    · have h1 := pu_lt (by omega) (by omega) q
      rw [pu_8, nI_clamp (by omega)]
      refine ⟨vp_in_nI (by omega) (by omega), fun q2 => ⟨vp_in_nI (by omega) (by omega), ?_⟩, fun q2 => ?_⟩
      · rintro f rfl
        refine ⟨hbin, ?_⟩
        first | exact ⟨_, (_, _, _), rfl, rfl, Or.inl ⟨hok, Or.inl ⟨j, h1, q2, hd, rfl, rfl, rfl, rfl⟩⟩⟩ | (rintro x1 rfl; exact ⟨_, (_, _, _), rfl, rfl, Or.inl ⟨hok, Or.inl ⟨j, h1, q2, hd, rfl, rfl, rfl, rfl⟩⟩⟩)
      · rintro y rfl
        refine ⟨mz - 1, by omega, j + 1, by omega, nI_1 j, fun a ha => ?_⟩
        by_cases e : a = j
        · rw [e]; exact q2
        · exact hd a (by omega))
  refine sgX9_bid_0 F Rt m x c h0 yt rT rH yw yp yg yu ysl yin yse ysp ypa rA yb ybd ybc yr rF rP ywd rS rN rO rW rL rD yd rI rX rY rZ rU yro yc ybe yco rC rV qk qa qb qd qc G K M N b Bc (fun i => (hs_in m M ∧ wh_ok x N qk ∧ ¬ c < 1 ∧ c ≤ 99999 ∧ qa (8 * b + m.toNatClampNeg) ≤ 0) ∧ (∃ j, j + Bc = Bc ∧ i = nI j ∧ ∀ a, a < j → ¬ qd (8 * b + a) = m)) (fun i h => h51 h.1 Bc i h.2) ?_
  intro r1 h1
  rcases hs_of h1 with ⟨i1, rfl⟩ | ⟨i1, rfl⟩
  · refine ⟨fun q => absurd q (by decide), fun _ => ⟨hN, fun r2 h2 => ?_⟩⟩
    rcases h2 with ⟨hw, rfl⟩ | ⟨hw, rfl⟩
    · obtain ⟨rfl, hb, hq, hB, hfree⟩ := hw0 hw
      obtain ⟨c1, e1⟩ := hs_cl (by omega) i1
      have k1 : 8 * nI b + m = nI (8 * b + m.toNatClampNeg) := by rw [← pu_8, ← e1]
      rw [k1, nI_clamp (by omega)]
      refine ⟨fun q => absurd q (by decide), fun _ => ⟨fun q2 => ⟨_, (_, _, _), rfl, rfl, Or.inr ⟨fun h => h.2.2.1 q2, rfl, rfl, rfl, rfl⟩⟩, fun q2 => ⟨fun q3 => ⟨_, (_, _, _), rfl, rfl, Or.inr ⟨fun h => absurd h.2.2.2.1 (Int32.not_le.mpr q3), rfl, rfl, rfl, rfl⟩⟩, fun q3 => ⟨vp_in_nI (by omega) (by omega), fun q4 => ⟨⟨i1, hw, q2, Int32.not_lt.mp q3, q4⟩, 0, by omega, nI_0.symm, fun a ha => absurd ha (by omega)⟩, fun q4 => ⟨_, (_, _, _), rfl, rfl, Or.inr ⟨fun h => q4 h.2.2.2.2, rfl, rfl, rfl, rfl⟩⟩⟩⟩⟩⟩
    · exact ⟨fun q => ⟨_, (_, _, _), rfl, rfl, Or.inr ⟨fun h => hw h.2.1, rfl, rfl, rfl, rfl⟩⟩, fun q => absurd rfl q⟩
  · exact ⟨fun q => ⟨_, (_, _, _), rfl, rfl, Or.inr ⟨fun h => i1 h.1, rfl, rfl, rfl, rfl⟩⟩, fun q => absurd rfl q⟩
