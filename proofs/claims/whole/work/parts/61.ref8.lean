
abbrev rmX9_isAhead : Room := { frames := 0, cells := 0, slots := 0, locals := 0 }
set_option maxHeartbeats 4000000 in
set_option maxRecDepth 100000 in
theorem sgX9_isAhead_0 {B : pz_B} {g : pz_G} {wc : va_W} {Post : Option Value → va_W → Prop} (F : pz_F B cX9_isAhead 4 (some .boolean) yX9_isAhead.cls g rmX9_isAhead) (Rt : pz_Rt B g wc Post rmX9_isAhead) (x : Int32) (y : Int32) (h0 : Nat) (yt : Nat) (rT : Int32) (rH : Int32) (yw : Nat) (yp : Nat) (yg : Nat) (yu : Nat) (ysl : Nat) (yin : Nat) (yse : Nat) (ysp : Nat) (ypa : Nat) (rA : Int32) (yb : Nat) (ybd : Nat) (ybc : Nat) (yr : Nat) (rF : Int32) (rP : Int32) (ywd : Nat) (rS : Int32) (rN : Int32) (rO : Int32) (rW : Int32) (rL : Int32) (rD : Int32) (yd : Nat) (rI : Int32) (rX : Int32) (rY : Int32) (rZ : Int32) (rU : Int32) (yro : Nat) (yc : Nat) (ybe : Nat) (yco : Nat) (rC : Int64) (rV : Int64) (qc : Nat → Int32) (G : Nat) (K : Nat) (M : Nat) (N : Nat) (b : Nat) (k : Nat) (c : Nat)  (vc : vp_in ((8 * (nI b)) + x) 80 ∧ vp_in ((8 * (nI b)) + y) 80 ∧ (((qc ((8 * (nI b)) + y).toNatClampNeg) < (qc ((8 * (nI b)) + x).toNatClampNeg) → Post (some (.int 1)) [(h0, .inr (8, [.ref yt, .int rT, .int rH, .int (nI G), .ref yw, .int (nI K), .ref yp, .ref yg, .int (nI M), .ref yu, .int (nI N), .ref ysl, .ref yin, .ref yse, .ref ysp, .ref ypa, .int rA, .ref yb, .ref ybd, .ref ybc, .ref yr, .int rF, .int rP, .ref ywd, .int rS, .int rN, .int rO, .int rW, .int rL, .int rD, .ref yd, .int rI, .int rX, .int rY, .int rZ, .int rU, .ref yro, .ref yc, .ref ybe, .ref yco, .long rC, .long rV])), (ybc, .inl (g.2.1 1, 80, .inl qc))]) ∧ (¬ (qc ((8 * (nI b)) + y).toNatClampNeg) < (qc ((8 * (nI b)) + x).toNatClampNeg) → vp_in ((8 * (nI b)) + x) 80 ∧ vp_in ((8 * (nI b)) + y) 80 ∧ ((¬ (qc ((8 * (nI b)) + x).toNatClampNeg) = (qc ((8 * (nI b)) + y).toNatClampNeg) → Post (some (.int 0)) [(h0, .inr (8, [.ref yt, .int rT, .int rH, .int (nI G), .ref yw, .int (nI K), .ref yp, .ref yg, .int (nI M), .ref yu, .int (nI N), .ref ysl, .ref yin, .ref yse, .ref ysp, .ref ypa, .int rA, .ref yb, .ref ybd, .ref ybc, .ref yr, .int rF, .int rP, .ref ywd, .int rS, .int rN, .int rO, .int rW, .int rL, .int rD, .ref yd, .int rI, .int rX, .int rY, .int rZ, .int rU, .ref yro, .ref yc, .ref ybe, .ref yco, .long rC, .long rV])), (ybc, .inl (g.2.1 1, 80, .inl qc))]) ∧ ((qc ((8 * (nI b)) + x).toNatClampNeg) = (qc ((8 * (nI b)) + y).toNatClampNeg) → ((y ≤ x → Post (some (.int 0)) [(h0, .inr (8, [.ref yt, .int rT, .int rH, .int (nI G), .ref yw, .int (nI K), .ref yp, .ref yg, .int (nI M), .ref yu, .int (nI N), .ref ysl, .ref yin, .ref yse, .ref ysp, .ref ypa, .int rA, .ref yb, .ref ybd, .ref ybc, .ref yr, .int rF, .int rP, .ref ywd, .int rS, .int rN, .int rO, .int rW, .int rL, .int rD, .ref yd, .int rI, .int rX, .int rY, .int rZ, .int rU, .ref yro, .ref yc, .ref ybe, .ref yco, .long rC, .long rV])), (ybc, .inl (g.2.1 1, 80, .inl qc))]) ∧ (¬ y ≤ x → Post (some (.int 1)) [(h0, .inr (8, [.ref yt, .int rT, .int rH, .int (nI G), .ref yw, .int (nI K), .ref yp, .ref yg, .int (nI M), .ref yu, .int (nI N), .ref ysl, .ref yin, .ref yse, .ref ysp, .ref ypa, .int rA, .ref yb, .ref ybd, .ref ybc, .ref yr, .int rF, .int rP, .ref ywd, .int rS, .int rN, .int rO, .int rW, .int rL, .int rD, .ref yd, .int rI, .int rX, .int rY, .int rZ, .int rU, .ref yro, .ref yc, .ref ybe, .ref yco, .long rC, .long rV])), (ybc, .inl (g.2.1 1, 80, .inl qc))]))))))) : pz_At B 0 0 0 [(0, .ref h0), (1, .int (nI b)), (2, .int x), (3, .int y)] [] [(h0, .inr (8, [.ref yt, .int rT, .int rH, .int (nI G), .ref yw, .int (nI K), .ref yp, .ref yg, .int (nI M), .ref yu, .int (nI N), .ref ysl, .ref yin, .ref yse, .ref ysp, .ref ypa, .int rA, .ref yb, .ref ybd, .ref ybc, .ref yr, .int rF, .int rP, .ref ywd, .int rS, .int rN, .int rO, .int rW, .int rL, .int rD, .ref yd, .int rI, .int rX, .int rY, .int rZ, .int rU, .ref yro, .ref yc, .ref ybe, .ref yco, .long rC, .long rV])), (ybc, .inl (g.2.1 1, 80, .inl qc))] := by
  refine pz_aload_n 0 F rfl dX9_isAhead_0 rfl ?_
  refine pz_get (ci := 8) (C := RX9) (T := TX9) (N := 42) (v := .ref ybc) 0 F rfl rfl pz_inX9 19 (by decide) pw_827 rfl dX9_isAhead_1 ?_
  refine pz_bipush (v := 8) F dX9_isAhead_4 rfl ?_
  refine pz_iload_n 1 F rfl dX9_isAhead_6 rfl ?_
  refine pz_imul F dX9_isAhead_7 ?_
  refine pz_iload_n 2 F rfl dX9_isAhead_8 rfl ?_
  refine pz_iadd F dX9_isAhead_9 ?_
  obtain ⟨h_1, vc⟩ := vc
  refine pz_iaload 1 F rfl h_1 dX9_isAhead_10 ?_
  refine pz_aload_n 0 F rfl dX9_isAhead_11 rfl ?_
  refine pz_get (ci := 8) (C := RX9) (T := TX9) (N := 42) (v := .ref ybc) 0 F rfl rfl pz_inX9 19 (by decide) pw_827 rfl dX9_isAhead_12 ?_
  refine pz_bipush (v := 8) F dX9_isAhead_15 rfl ?_
  refine pz_iload_n 1 F rfl dX9_isAhead_17 rfl ?_
  refine pz_imul F dX9_isAhead_18 ?_
  refine pz_iload_n 3 F rfl dX9_isAhead_19 rfl ?_
  refine pz_iadd F dX9_isAhead_20 ?_
  obtain ⟨h_2, vc⟩ := vc
  refine pz_iaload 1 F rfl h_2 dX9_isAhead_21 ?_
  refine pz_icmp_gt (tgt := 55) F dX9_isAhead_22 (by decide) (fun q_3 => ?_) (fun q_3 => ?_)
  · replace vc := vc.1 q_3
    refine pz_iconst (v := 1) F dX9_isAhead_55 rfl ?_
    refine pz_goto (tgt := 60) F dX9_isAhead_56 (by decide) ?_
    exact pz_ireturn (w1 := [(h0, .inr (8, [.ref yt, .int rT, .int rH, .int (nI G), .ref yw, .int (nI K), .ref yp, .ref yg, .int (nI M), .ref yu, .int (nI N), .ref ysl, .ref yin, .ref yse, .ref ysp, .ref ypa, .int rA, .ref yb, .ref ybd, .ref ybc, .ref yr, .int rF, .int rP, .ref ywd, .int rS, .int rN, .int rO, .int rW, .int rL, .int rD, .ref yd, .int rI, .int rX, .int rY, .int rZ, .int rU, .ref yro, .ref yc, .ref ybe, .ref yco, .long rC, .long rV])), (ybc, .inl (g.2.1 1, 80, .inl qc))]) F Rt (by decide) (by decide) dX9_isAhead_60 [0, 1] rfl rfl rfl vc
  · replace vc := vc.2 q_3
    refine pz_aload_n 0 F rfl dX9_isAhead_25 rfl ?_
    refine pz_get (ci := 8) (C := RX9) (T := TX9) (N := 42) (v := .ref ybc) 0 F rfl rfl pz_inX9 19 (by decide) pw_827 rfl dX9_isAhead_26 ?_
    refine pz_bipush (v := 8) F dX9_isAhead_29 rfl ?_
    refine pz_iload_n 1 F rfl dX9_isAhead_31 rfl ?_
    refine pz_imul F dX9_isAhead_32 ?_
    refine pz_iload_n 2 F rfl dX9_isAhead_33 rfl ?_
    refine pz_iadd F dX9_isAhead_34 ?_
    obtain ⟨h_4, vc⟩ := vc
    refine pz_iaload 1 F rfl h_4 dX9_isAhead_35 ?_
    refine pz_aload_n 0 F rfl dX9_isAhead_36 rfl ?_
    refine pz_get (ci := 8) (C := RX9) (T := TX9) (N := 42) (v := .ref ybc) 0 F rfl rfl pz_inX9 19 (by decide) pw_827 rfl dX9_isAhead_37 ?_
    refine pz_bipush (v := 8) F dX9_isAhead_40 rfl ?_
    refine pz_iload_n 1 F rfl dX9_isAhead_42 rfl ?_
    refine pz_imul F dX9_isAhead_43 ?_
    refine pz_iload_n 3 F rfl dX9_isAhead_44 rfl ?_
    refine pz_iadd F dX9_isAhead_45 ?_
    obtain ⟨h_5, vc⟩ := vc
    refine pz_iaload 1 F rfl h_5 dX9_isAhead_46 ?_
    refine pz_icmp_ne (tgt := 59) F dX9_isAhead_47 (by decide) (fun q_6 => ?_) (fun q_6 => ?_)
    · replace vc := vc.1 q_6
      refine pz_iconst (v := 0) F dX9_isAhead_59 rfl ?_
      exact pz_ireturn (w1 := [(h0, .inr (8, [.ref yt, .int rT, .int rH, .int (nI G), .ref yw, .int (nI K), .ref yp, .ref yg, .int (nI M), .ref yu, .int (nI N), .ref ysl, .ref yin, .ref yse, .ref ysp, .ref ypa, .int rA, .ref yb, .ref ybd, .ref ybc, .ref yr, .int rF, .int rP, .ref ywd, .int rS, .int rN, .int rO, .int rW, .int rL, .int rD, .ref yd, .int rI, .int rX, .int rY, .int rZ, .int rU, .ref yro, .ref yc, .ref ybe, .ref yco, .long rC, .long rV])), (ybc, .inl (g.2.1 1, 80, .inl qc))]) F Rt (by decide) (by decide) dX9_isAhead_60 [0, 1] rfl rfl rfl vc
    · replace vc := vc.2 q_6
      refine pz_iload_n 2 F rfl dX9_isAhead_50 rfl ?_
      refine pz_iload_n 3 F rfl dX9_isAhead_51 rfl ?_
      refine pz_icmp_ge (tgt := 59) F dX9_isAhead_52 (by decide) (fun q_7 => ?_) (fun q_7 => ?_)
      · replace vc := vc.1 q_7
        refine pz_iconst (v := 0) F dX9_isAhead_59 rfl ?_
        exact pz_ireturn (w1 := [(h0, .inr (8, [.ref yt, .int rT, .int rH, .int (nI G), .ref yw, .int (nI K), .ref yp, .ref yg, .int (nI M), .ref yu, .int (nI N), .ref ysl, .ref yin, .ref yse, .ref ysp, .ref ypa, .int rA, .ref yb, .ref ybd, .ref ybc, .ref yr, .int rF, .int rP, .ref ywd, .int rS, .int rN, .int rO, .int rW, .int rL, .int rD, .ref yd, .int rI, .int rX, .int rY, .int rZ, .int rU, .ref yro, .ref yc, .ref ybe, .ref yco, .long rC, .long rV])), (ybc, .inl (g.2.1 1, 80, .inl qc))]) F Rt (by decide) (by decide) dX9_isAhead_60 [0, 1] rfl rfl rfl vc
      · replace vc := vc.2 q_7
        refine pz_iconst (v := 1) F dX9_isAhead_55 rfl ?_
        refine pz_goto (tgt := 60) F dX9_isAhead_56 (by decide) ?_
        exact pz_ireturn (w1 := [(h0, .inr (8, [.ref yt, .int rT, .int rH, .int (nI G), .ref yw, .int (nI K), .ref yp, .ref yg, .int (nI M), .ref yu, .int (nI N), .ref ysl, .ref yin, .ref yse, .ref ysp, .ref ypa, .int rA, .ref yb, .ref ybd, .ref ybc, .ref yr, .int rF, .int rP, .ref ywd, .int rS, .int rN, .int rO, .int rW, .int rL, .int rD, .ref yd, .int rI, .int rX, .int rY, .int rZ, .int rU, .ref yro, .ref yc, .ref ybe, .ref yco, .long rC, .long rV])), (ybc, .inl (g.2.1 1, 80, .inl qc))]) F Rt (by decide) (by decide) dX9_isAhead_60 [0, 1] rfl rfl rfl vc
set_option maxHeartbeats 4000000 in
set_option maxRecDepth 100000 in
theorem ctX9_isAhead (l : Launch) (g : pz_G) (x : Int32) (y : Int32) (h0 : Nat) (yt : Nat) (rT : Int32) (rH : Int32) (yw : Nat) (yp : Nat) (yg : Nat) (yu : Nat) (ysl : Nat) (yin : Nat) (yse : Nat) (ysp : Nat) (ypa : Nat) (rA : Int32) (yb : Nat) (ybd : Nat) (ybc : Nat) (yr : Nat) (rF : Int32) (rP : Int32) (ywd : Nat) (rS : Int32) (rN : Int32) (rO : Int32) (rW : Int32) (rL : Int32) (rD : Int32) (yd : Nat) (rI : Int32) (rX : Int32) (rY : Int32) (rZ : Int32) (rU : Int32) (yro : Nat) (yc : Nat) (ybe : Nat) (yco : Nat) (rC : Int64) (rV : Int64) (qc : Nat → Int32) (G : Nat) (K : Nat) (M : Nat) (N : Nat) (b : Nat) (k : Nat) (c : Nat) (hpre : b < 10 ∧ k < 8 ∧ c < k ∧ x = nI k ∧ y = nI c) : pz_Ct l g yX9_isAhead cX9_isAhead 4 (some .boolean) rmX9_isAhead [.ref h0, .int (nI b), .int x, .int y] [(h0, .inr (8, [.ref yt, .int rT, .int rH, .int (nI G), .ref yw, .int (nI K), .ref yp, .ref yg, .int (nI M), .ref yu, .int (nI N), .ref ysl, .ref yin, .ref yse, .ref ysp, .ref ypa, .int rA, .ref yb, .ref ybd, .ref ybc, .ref yr, .int rF, .int rP, .ref ywd, .int rS, .int rN, .int rO, .int rW, .int rL, .int rD, .ref yd, .int rI, .int rX, .int rY, .int rZ, .int rU, .ref yro, .ref yc, .ref ybe, .ref yco, .long rC, .long rV])), (ybc, .inl (g.2.1 1, 80, .inl qc))] (pz_pi (fun (r : Int32) (u : Unit) => r = if (sl8 qc b) c < (sl8 qc b) k then 1 else 0) (fun (u : Unit) => [(h0, .inr (8, [.ref yt, .int rT, .int rH, .int (nI G), .ref yw, .int (nI K), .ref yp, .ref yg, .int (nI M), .ref yu, .int (nI N), .ref ysl, .ref yin, .ref yse, .ref ysp, .ref ypa, .int rA, .ref yb, .ref ybd, .ref ybc, .ref yr, .int rF, .int rP, .ref ywd, .int rS, .int rN, .int rO, .int rW, .int rL, .int rD, .ref yd, .int rI, .int rX, .int rY, .int rZ, .int rU, .ref yro, .ref yc, .ref ybe, .ref yco, .long rC, .long rV])), (ybc, .inl (g.2.1 1, 80, .inl qc))])) := by
  refine pz_ofAt (by decide +kernel) (Nat.le_of_ble_eq_true rfl) (fun B F Rt hme => ?_)
  obtain ⟨hb, hk8, hck, h1, h2⟩ := hpre
  subst h1; subst h2
  refine sgX9_isAhead_0 F Rt (nI k) (nI c) h0 yt rT rH yw yp yg yu ysl yin yse ysp ypa rA yb ybd ybc yr rF rP ywd rS rN rO rW rL rD yd rI rX rY rZ rU yro yc ybe yco rC rV qc G K M N b k c ?_
  clear F Rt hme
  rw [pu_8, pu_8, nI_clamp (by omega), nI_clamp (by omega)]
  have i1 : vp_in (nI (8 * b + k)) 80 := vp_in_nI (by omega) (by omega)
  have i2 : vp_in (nI (8 * b + c)) 80 := vp_in_nI (by omega) (by omega)
  refine ⟨i1, i2, fun q => ⟨_, (), rfl, rfl, by rw [if_pos (c := (sl8 qc b) c < (sl8 qc b) k) q]⟩, fun q => ⟨i1, i2, fun q2 => ⟨_, (), rfl, rfl, by rw [if_neg (c := (sl8 qc b) c < (sl8 qc b) k) q]⟩, fun q2 => ⟨fun q3 => ⟨_, (), rfl, rfl, by rw [if_neg (c := (sl8 qc b) c < (sl8 qc b) k) q]⟩, fun q3 => absurd (nI_le (by omega) (by omega)) q3⟩⟩⟩
abbrev rmX9_line0 : Room := { frames := 1, cells := 0, slots := 0, locals := 23 }
abbrev paX9_line0_9 (B : pz_B) (g : pz_G) (h0 : Nat) (yt : Nat) (rT : Int32) (rH : Int32) (yw : Nat) (yp : Nat) (yg : Nat) (yu : Nat) (ysl : Nat) (yin : Nat) (yse : Nat) (ysp : Nat) (ypa : Nat) (rA : Int32) (yb : Nat) (ybd : Nat) (ybc : Nat) (yr : Nat) (rF : Int32) (rP : Int32) (ywd : Nat) (rS : Int32) (rN : Int32) (rO : Int32) (rW : Int32) (rL : Int32) (rD : Int32) (yd : Nat) (rI : Int32) (rX : Int32) (rY : Int32) (rZ : Int32) (rU : Int32) (yro : Nat) (yc : Nat) (ybe : Nat) (yco : Nat) (rC : Int64) (rV : Int64) (qb : Nat → Int32) (qd : Nat → Int32) (qc : Nat → Int32) (qr : Nat → Int32) (qa : Nat → Int32) (qu : Nat → Int32) (qo : Nat → Int32) (G : Nat) (K : Nat) (M : Nat) (N : Nat) (b : Nat) (Bc : Nat) (nn : Int32) (kk : Int32) (ou1 : Int32) (r1 : Nat → Int32) : Prop := pz_At B 0 0 9 [(0, .ref h0), (1, .int (nI b)), (2, .int nn), (3, .int kk)] [] [(h0, .inr (8, [.ref yt, .int rT, .int rH, .int (nI G), .ref yw, .int (nI K), .ref yp, .ref yg, .int (nI M), .ref yu, .int (nI N), .ref ysl, .ref yin, .ref yse, .ref ysp, .ref ypa, .int rA, .ref yb, .ref ybd, .ref ybc, .ref yr, .int rF, .int rP, .ref ywd, .int rS, .int rN, .int rO, .int rW, .int rL, .int rD, .ref yd, .int rI, .int rX, .int rY, .int rZ, .int ou1, .ref yro, .ref yc, .ref ybe, .ref yco, .long rC, .long rV])), (yb, .inl (g.2.1 1, 10, .inl qb)), (ybd, .inl (g.2.1 1, 80, .inl qd)), (ybc, .inl (g.2.1 1, 80, .inl qc)), (yr, .inl (g.2.1 1, 24, .inl qr)), (ypa, .inl (g.2.1 1, 80, .inl qa)), (yu, .inl (g.2.1 1, 8, .inl qu)), (yro, .inl (g.2.1 1, 8, .inl r1))]
abbrev paX9_line0_108 (B : pz_B) (g : pz_G) (h0 : Nat) (yt : Nat) (rT : Int32) (rH : Int32) (yw : Nat) (yp : Nat) (yg : Nat) (yu : Nat) (ysl : Nat) (yin : Nat) (yse : Nat) (ysp : Nat) (ypa : Nat) (rA : Int32) (yb : Nat) (ybd : Nat) (ybc : Nat) (yr : Nat) (rF : Int32) (rP : Int32) (ywd : Nat) (rS : Int32) (rN : Int32) (rO : Int32) (rW : Int32) (rL : Int32) (rD : Int32) (yd : Nat) (rI : Int32) (rX : Int32) (rY : Int32) (rZ : Int32) (rU : Int32) (yro : Nat) (yc : Nat) (ybe : Nat) (yco : Nat) (rC : Int64) (rV : Int64) (qb : Nat → Int32) (qd : Nat → Int32) (qc : Nat → Int32) (qr : Nat → Int32) (qa : Nat → Int32) (qu : Nat → Int32) (qo : Nat → Int32) (G : Nat) (K : Nat) (M : Nat) (N : Nat) (b : Nat) (Bc : Nat) (nn : Int32) (kk : Int32) (at_ : Int32) (ou1 : Int32) (r1 : Nat → Int32) : Prop := pz_At B 0 0 108 [(0, .ref h0), (1, .int (nI b)), (2, .int nn), (3, .int kk), (6, .int at_)] [] [(h0, .inr (8, [.ref yt, .int rT, .int rH, .int (nI G), .ref yw, .int (nI K), .ref yp, .ref yg, .int (nI M), .ref yu, .int (nI N), .ref ysl, .ref yin, .ref yse, .ref ysp, .ref ypa, .int rA, .ref yb, .ref ybd, .ref ybc, .ref yr, .int rF, .int rP, .ref ywd, .int rS, .int rN, .int rO, .int rW, .int rL, .int rD, .ref yd, .int rI, .int rX, .int rY, .int rZ, .int ou1, .ref yro, .ref yc, .ref ybe, .ref yco, .long rC, .long rV])), (yb, .inl (g.2.1 1, 10, .inl qb)), (ybd, .inl (g.2.1 1, 80, .inl qd)), (ybc, .inl (g.2.1 1, 80, .inl qc)), (yr, .inl (g.2.1 1, 24, .inl qr)), (ypa, .inl (g.2.1 1, 80, .inl qa)), (yu, .inl (g.2.1 1, 8, .inl qu)), (yro, .inl (g.2.1 1, 8, .inl r1))]
set_option maxHeartbeats 4000000 in
set_option maxRecDepth 100000 in
theorem sgX9_line0_0 {B : pz_B} {g : pz_G} {wc : va_W} {Post : Option Value → va_W → Prop} (F : pz_F B cX9_line0 7 (some .int) yX9_line0.cls g rmX9_line0) (Rt : pz_Rt B g wc Post rmX9_line0) (h0 : Nat) (yt : Nat) (rT : Int32) (rH : Int32) (yw : Nat) (yp : Nat) (yg : Nat) (yu : Nat) (ysl : Nat) (yin : Nat) (yse : Nat) (ysp : Nat) (ypa : Nat) (rA : Int32) (yb : Nat) (ybd : Nat) (ybc : Nat) (yr : Nat) (rF : Int32) (rP : Int32) (ywd : Nat) (rS : Int32) (rN : Int32) (rO : Int32) (rW : Int32) (rL : Int32) (rD : Int32) (yd : Nat) (rI : Int32) (rX : Int32) (rY : Int32) (rZ : Int32) (rU : Int32) (yro : Nat) (yc : Nat) (ybe : Nat) (yco : Nat) (rC : Int64) (rV : Int64) (qb : Nat → Int32) (qd : Nat → Int32) (qc : Nat → Int32) (qr : Nat → Int32) (qa : Nat → Int32) (qu : Nat → Int32) (qo : Nat → Int32) (G : Nat) (K : Nat) (M : Nat) (N : Nat) (b : Nat) (Bc : Nat) (T9 : Int32 → Int32 → Int32 → (Nat → Int32) → Prop) (hT9 : ∀ (nn : Int32) (kk : Int32) (ou1 : Int32) (r1 : Nat → Int32), T9 nn kk ou1 r1 → paX9_line0_9 B g h0 yt rT rH yw yp yg yu ysl yin yse ysp ypa rA yb ybd ybc yr rF rP ywd rS rN rO rW rL rD yd rI rX rY rZ rU yro yc ybe yco rC rV qb qd qc qr qa qu qo G K M N b Bc nn kk ou1 r1)  (vc : T9 0 0 0 qo) : pz_At B 0 0 0 [(0, .ref h0), (1, .int (nI b))] [] [(h0, .inr (8, [.ref yt, .int rT, .int rH, .int (nI G), .ref yw, .int (nI K), .ref yp, .ref yg, .int (nI M), .ref yu, .int (nI N), .ref ysl, .ref yin, .ref yse, .ref ysp, .ref ypa, .int rA, .ref yb, .ref ybd, .ref ybc, .ref yr, .int rF, .int rP, .ref ywd, .int rS, .int rN, .int rO, .int rW, .int rL, .int rD, .ref yd, .int rI, .int rX, .int rY, .int rZ, .int rU, .ref yro, .ref yc, .ref ybe, .ref yco, .long rC, .long rV])), (yb, .inl (g.2.1 1, 10, .inl qb)), (ybd, .inl (g.2.1 1, 80, .inl qd)), (ybc, .inl (g.2.1 1, 80, .inl qc)), (yr, .inl (g.2.1 1, 24, .inl qr)), (ypa, .inl (g.2.1 1, 80, .inl qa)), (yu, .inl (g.2.1 1, 8, .inl qu)), (yro, .inl (g.2.1 1, 8, .inl qo))] := by
  refine pz_iconst (v := 0) F dX9_line0_0 rfl ?_
  refine pz_istore_n (lv' := [(2, .int 0), (0, .ref h0), (1, .int (nI b))]) F dX9_line0_1 rfl (by decide) rfl ?_
  refine pz_aload_n 1 F rfl dX9_line0_2 rfl ?_
  refine pz_iconst (v := 0) F dX9_line0_3 rfl ?_
  refine pz_put (ws' := [(h0, .inr (8, [.ref yt, .int rT, .int rH, .int (nI G), .ref yw, .int (nI K), .ref yp, .ref yg, .int (nI M), .ref yu, .int (nI N), .ref ysl, .ref yin, .ref yse, .ref ysp, .ref ypa, .int rA, .ref yb, .ref ybd, .ref ybc, .ref yr, .int rF, .int rP, .ref ywd, .int rS, .int rN, .int rO, .int rW, .int rL, .int rD, .ref yd, .int rI, .int rX, .int rY, .int rZ, .int 0, .ref yro, .ref yc, .ref ybe, .ref yco, .long rC, .long rV])), (yb, .inl (g.2.1 1, 10, .inl qb)), (ybd, .inl (g.2.1 1, 80, .inl qd)), (ybc, .inl (g.2.1 1, 80, .inl qc)), (yr, .inl (g.2.1 1, 24, .inl qr)), (ypa, .inl (g.2.1 1, 80, .inl qa)), (yu, .inl (g.2.1 1, 8, .inl qu)), (yro, .inl (g.2.1 1, 8, .inl qo))]) (ci := 8) (C := RX9) (T := TX9) (N := 42) (v := .int 0) (ty := .int) 0 F rfl rfl pz_inX9 35 (by decide) pw_843 tyX9_ok nmX9 rfl rfl rfl rfl (Nat.le_of_ble_eq_true rfl) dX9_line0_4 rfl ?_
  refine pz_iconst (v := 0) F dX9_line0_7 rfl ?_
  refine pz_istore_n (lv' := [(3, .int 0), (2, .int 0), (0, .ref h0), (1, .int (nI b))]) F dX9_line0_8 rfl (by decide) rfl ?_
  exact pz_sub [2, 3, 1, 0] [0, 1, 2, 3, 4, 5, 6, 7] rfl rfl rfl (hT9 0 0 0 qo vc)
set_option maxHeartbeats 4000000 in
set_option maxRecDepth 100000 in
theorem sgX9_line0_9 {B : pz_B} {g : pz_G} {wc : va_W} {Post : Option Value → va_W → Prop} (F : pz_F B cX9_line0 7 (some .int) yX9_line0.cls g rmX9_line0) (Rt : pz_Rt B g wc Post rmX9_line0) (h0 : Nat) (yt : Nat) (rT : Int32) (rH : Int32) (yw : Nat) (yp : Nat) (yg : Nat) (yu : Nat) (ysl : Nat) (yin : Nat) (yse : Nat) (ysp : Nat) (ypa : Nat) (rA : Int32) (yb : Nat) (ybd : Nat) (ybc : Nat) (yr : Nat) (rF : Int32) (rP : Int32) (ywd : Nat) (rS : Int32) (rN : Int32) (rO : Int32) (rW : Int32) (rL : Int32) (rD : Int32) (yd : Nat) (rI : Int32) (rX : Int32) (rY : Int32) (rZ : Int32) (rU : Int32) (yro : Nat) (yc : Nat) (ybe : Nat) (yco : Nat) (rC : Int64) (rV : Int64) (qb : Nat → Int32) (qd : Nat → Int32) (qc : Nat → Int32) (qr : Nat → Int32) (qa : Nat → Int32) (qu : Nat → Int32) (qo : Nat → Int32) (G : Nat) (K : Nat) (M : Nat) (N : Nat) (b : Nat) (Bc : Nat) (T9 : Int32 → Int32 → Int32 → (Nat → Int32) → Prop) (hT9 : ∀ (nn : Int32) (kk : Int32) (ou1 : Int32) (r1 : Nat → Int32), T9 nn kk ou1 r1 → paX9_line0_9 B g h0 yt rT rH yw yp yg yu ysl yin yse ysp ypa rA yb ybd ybc yr rF rP ywd rS rN rO rW rL rD yd rI rX rY rZ rU yro yc ybe yco rC rV qb qd qc qr qa qu qo G K M N b Bc nn kk ou1 r1) (T108 : Int32 → Int32 → Int32 → Int32 → (Nat → Int32) → Prop) (hT108 : ∀ (nn : Int32) (kk : Int32) (at_ : Int32) (ou1 : Int32) (r1 : Nat → Int32), T108 nn kk at_ ou1 r1 → paX9_line0_108 B g h0 yt rT rH yw yp yg yu ysl yin yse ysp ypa rA yb ybd ybc yr rF rP ywd rS rN rO rW rL rD yd rI rX rY rZ rU yro yc ybe yco rC rV qb qd qc qr qa qu qo G K M N b Bc nn kk at_ ou1 r1) (nn : Int32) (kk : Int32) (ou1 : Int32) (r1 : Nat → Int32) (vc : vp_in (nI b) 10 ∧ (((qb (nI b).toNatClampNeg) ≤ kk → Post (some (.int nn)) [(h0, .inr (8, [.ref yt, .int rT, .int rH, .int (nI G), .ref yw, .int (nI K), .ref yp, .ref yg, .int (nI M), .ref yu, .int (nI N), .ref ysl, .ref yin, .ref yse, .ref ysp, .ref ypa, .int rA, .ref yb, .ref ybd, .ref ybc, .ref yr, .int rF, .int rP, .ref ywd, .int rS, .int rN, .int rO, .int rW, .int rL, .int rD, .ref yd, .int rI, .int rX, .int rY, .int rZ, .int ou1, .ref yro, .ref yc, .ref ybe, .ref yco, .long rC, .long rV])), (yb, .inl (g.2.1 1, 10, .inl qb)), (ybd, .inl (g.2.1 1, 80, .inl qd)), (ybc, .inl (g.2.1 1, 80, .inl qc)), (yr, .inl (g.2.1 1, 24, .inl qr)), (ypa, .inl (g.2.1 1, 80, .inl qa)), (yu, .inl (g.2.1 1, 8, .inl qu)), (yro, .inl (g.2.1 1, 8, .inl r1))]) ∧ (¬ (qb (nI b).toNatClampNeg) ≤ kk → vp_in ((8 * (nI b)) + kk) 80 ∧ ∀ x_4 : Int32, x_4 = (qd ((8 * (nI b)) + kk).toNatClampNeg) → vp_in ((8 * (nI b)) + kk) 80 ∧ ∀ x_6 : Int32, x_6 = (qc ((8 * (nI b)) + kk).toNatClampNeg) → vp_in 4 24 ∧ ((x_6 < (qr (4 : Int32).toNatClampNeg) → ∀ x_9 : Int32, x_9 = (ou1 + 1) → ∀ x_10 : Int32, x_10 = kk + 1 → T9 nn x_10 x_9 r1) ∧ (¬ x_6 < (qr (4 : Int32).toNatClampNeg) → vp_in ((8 * (nI b)) + x_4) 80 ∧ (((0 : Int32) < (qa ((8 * (nI b)) + x_4).toNatClampNeg) → ∀ x_13 : Int32, x_13 = (ou1 + 1) → ∀ x_14 : Int32, x_14 = kk + 1 → T9 nn x_14 x_13 r1) ∧ (¬ (0 : Int32) < (qa ((8 * (nI b)) + x_4).toNatClampNeg) → vp_in x_4 8 ∧ vp_in 3 24 ∧ ∀ r_17 : Int32, ∀ _ : (r_17 = hd_l x_6 (qr (3 : Int32).toNatClampNeg)), ((r_17 ≤ (qu x_4.toNatClampNeg) → T108 nn kk nn ou1 r1) ∧ (¬ r_17 ≤ (qu x_4.toNatClampNeg) → ∀ x_20 : Int32, x_20 = (ou1 + 1) → ∀ x_21 : Int32, x_21 = kk + 1 → T9 nn x_21 x_20 r1))))))))) : pz_At B 0 0 9 [(0, .ref h0), (1, .int (nI b)), (2, .int nn), (3, .int kk)] [] [(h0, .inr (8, [.ref yt, .int rT, .int rH, .int (nI G), .ref yw, .int (nI K), .ref yp, .ref yg, .int (nI M), .ref yu, .int (nI N), .ref ysl, .ref yin, .ref yse, .ref ysp, .ref ypa, .int rA, .ref yb, .ref ybd, .ref ybc, .ref yr, .int rF, .int rP, .ref ywd, .int rS, .int rN, .int rO, .int rW, .int rL, .int rD, .ref yd, .int rI, .int rX, .int rY, .int rZ, .int ou1, .ref yro, .ref yc, .ref ybe, .ref yco, .long rC, .long rV])), (yb, .inl (g.2.1 1, 10, .inl qb)), (ybd, .inl (g.2.1 1, 80, .inl qd)), (ybc, .inl (g.2.1 1, 80, .inl qc)), (yr, .inl (g.2.1 1, 24, .inl qr)), (ypa, .inl (g.2.1 1, 80, .inl qa)), (yu, .inl (g.2.1 1, 8, .inl qu)), (yro, .inl (g.2.1 1, 8, .inl r1))] := by
  refine pz_iload_n 3 F rfl dX9_line0_9 rfl ?_
  refine pz_aload_n 0 F rfl dX9_line0_10 rfl ?_
  refine pz_get (ci := 8) (C := RX9) (T := TX9) (N := 42) (v := .ref yb) 0 F rfl rfl pz_inX9 17 (by decide) pw_825 rfl dX9_line0_11 ?_
  refine pz_iload_n 1 F rfl dX9_line0_14 rfl ?_
  obtain ⟨h_1, vc⟩ := vc
  refine pz_iaload 1 F rfl h_1 dX9_line0_15 ?_
  refine pz_icmp_ge (tgt := 170) F dX9_line0_16 (by decide) (fun q_2 => ?_) (fun q_2 => ?_)
  · replace vc := vc.1 q_2
    refine pz_iload_n 2 F rfl dX9_line0_170 rfl ?_
    exact pz_ireturn (w1 := [(h0, .inr (8, [.ref yt, .int rT, .int rH, .int (nI G), .ref yw, .int (nI K), .ref yp, .ref yg, .int (nI M), .ref yu, .int (nI N), .ref ysl, .ref yin, .ref yse, .ref ysp, .ref ypa, .int rA, .ref yb, .ref ybd, .ref ybc, .ref yr, .int rF, .int rP, .ref ywd, .int rS, .int rN, .int rO, .int rW, .int rL, .int rD, .ref yd, .int rI, .int rX, .int rY, .int rZ, .int ou1, .ref yro, .ref yc, .ref ybe, .ref yco, .long rC, .long rV])), (yb, .inl (g.2.1 1, 10, .inl qb)), (ybd, .inl (g.2.1 1, 80, .inl qd)), (ybc, .inl (g.2.1 1, 80, .inl qc)), (yr, .inl (g.2.1 1, 24, .inl qr)), (ypa, .inl (g.2.1 1, 80, .inl qa)), (yu, .inl (g.2.1 1, 8, .inl qu)), (yro, .inl (g.2.1 1, 8, .inl r1))]) F Rt (by decide) (by decide) dX9_line0_171 [0, 1, 2, 3, 4, 5, 6, 7] rfl rfl rfl vc
  · replace vc := vc.2 q_2
    refine pz_aload_n 0 F rfl dX9_line0_19 rfl ?_
    refine pz_get (ci := 8) (C := RX9) (T := TX9) (N := 42) (v := .ref ybd) 0 F rfl rfl pz_inX9 18 (by decide) pw_826 rfl dX9_line0_20 ?_
    refine pz_bipush (v := 8) F dX9_line0_23 rfl ?_
    refine pz_iload_n 1 F rfl dX9_line0_25 rfl ?_
    refine pz_imul F dX9_line0_26 ?_
    refine pz_iload_n 3 F rfl dX9_line0_27 rfl ?_
    refine pz_iadd F dX9_line0_28 ?_
    obtain ⟨h_3, vc⟩ := vc
    refine pz_iaload 2 F rfl h_3 dX9_line0_29 ?_
    refine pz_topi (fun x_4 ex_4 => ?_)
    replace vc := vc x_4 ex_4
    refine pz_istore (lv' := [(4, .int x_4), (0, .ref h0), (1, .int (nI b)), (2, .int nn), (3, .int kk)]) F dX9_line0_30 (by decide) rfl ?_
    refine pz_aload_n 1 F rfl dX9_line0_32 rfl ?_
    refine pz_get (ci := 8) (C := RX9) (T := TX9) (N := 42) (v := .ref ybc) 0 F rfl rfl pz_inX9 19 (by decide) pw_827 rfl dX9_line0_33 ?_
    refine pz_bipush (v := 8) F dX9_line0_36 rfl ?_
    refine pz_iload_n 2 F rfl dX9_line0_38 rfl ?_
    refine pz_imul F dX9_line0_39 ?_
    refine pz_iload_n 4 F rfl dX9_line0_40 rfl ?_
    refine pz_iadd F dX9_line0_41 ?_
    obtain ⟨h_5, vc⟩ := vc
    refine pz_iaload 3 F rfl h_5 dX9_line0_42 ?_
    refine pz_topi (fun x_6 ex_6 => ?_)
    replace vc := vc x_6 ex_6
    refine pz_istore (lv' := [(5, .int x_6), (4, .int x_4), (0, .ref h0), (1, .int (nI b)), (2, .int nn), (3, .int kk)]) F dX9_line0_43 (by decide) rfl ?_
    refine pz_iload 0 F rfl dX9_line0_45 ?_
    refine pz_aload_n 2 F rfl dX9_line0_47 rfl ?_
    refine pz_get (ci := 8) (C := RX9) (T := TX9) (N := 42) (v := .ref yr) 0 F rfl rfl pz_inX9 20 (by decide) pw_828 rfl dX9_line0_48 ?_
    refine pz_iconst (v := 4) F dX9_line0_51 rfl ?_
    obtain ⟨h_7, vc⟩ := vc
    refine pz_iaload 4 F rfl h_7 dX9_line0_52 ?_
    refine pz_icmp_lt (tgt := 92) F dX9_line0_53 (by decide) (fun q_8 => ?_) (fun q_8 => ?_)
    · replace vc := vc.1 q_8
      refine pz_aload_n 2 F rfl dX9_line0_92 rfl ?_
      refine pz_dup F dX9_line0_93 rfl ?_
      refine pz_get (ci := 8) (C := RX9) (T := TX9) (N := 42) (v := .int ou1) 0 F rfl rfl pz_inX9 35 (by decide) pw_843 rfl dX9_line0_94 ?_
      refine pz_iconst (v := 1) F dX9_line0_97 rfl ?_
      refine pz_iadd F dX9_line0_98 ?_
      refine pz_topi (fun x_9 ex_9 => ?_)
      replace vc := vc x_9 ex_9
      refine pz_put (ws' := [(h0, .inr (8, [.ref yt, .int rT, .int rH, .int (nI G), .ref yw, .int (nI K), .ref yp, .ref yg, .int (nI M), .ref yu, .int (nI N), .ref ysl, .ref yin, .ref yse, .ref ysp, .ref ypa, .int rA, .ref yb, .ref ybd, .ref ybc, .ref yr, .int rF, .int rP, .ref ywd, .int rS, .int rN, .int rO, .int rW, .int rL, .int rD, .ref yd, .int rI, .int rX, .int rY, .int rZ, .int x_9, .ref yro, .ref yc, .ref ybe, .ref yco, .long rC, .long rV])), (yb, .inl (g.2.1 1, 10, .inl qb)), (ybd, .inl (g.2.1 1, 80, .inl qd)), (ybc, .inl (g.2.1 1, 80, .inl qc)), (yr, .inl (g.2.1 1, 24, .inl qr)), (ypa, .inl (g.2.1 1, 80, .inl qa)), (yu, .inl (g.2.1 1, 8, .inl qu)), (yro, .inl (g.2.1 1, 8, .inl r1))]) (ci := 8) (C := RX9) (T := TX9) (N := 42) (v := .int x_9) (ty := .int) 0 F rfl rfl pz_inX9 35 (by decide) pw_843 tyX9_ok nmX9 rfl rfl rfl rfl (Nat.le_of_ble_eq_true rfl) dX9_line0_99 rfl ?_
      refine pz_goto (tgt := 164) F dX9_line0_102 (by decide) ?_
      obtain ⟨x_10, ex_10⟩ : ∃ z : Int32, z = kk + 1 := ⟨_, rfl⟩
      replace vc := vc x_10 ex_10
      refine pz_iinc (v := x_10) (lv' := [(3, .int x_10), (5, .int x_6), (4, .int x_4), (0, .ref h0), (1, .int (nI b)), (2, .int nn)]) 5 F rfl dX9_line0_164 (by rw [ex_10]; rfl) (by decide) rfl ?_
      refine pz_goto (tgt := 9) F dX9_line0_167 (by decide) ?_
      exact pz_sub [3, 4, 5, 0] [0, 1, 2, 3, 4, 5, 6, 7] rfl rfl rfl (hT9 nn x_10 x_9 r1 vc)
    · replace vc := vc.2 q_8
      refine pz_aload_n 2 F rfl dX9_line0_56 rfl ?_
      refine pz_get (ci := 8) (C := RX9) (T := TX9) (N := 42) (v := .ref ypa) 0 F rfl rfl pz_inX9 15 (by decide) pw_823 rfl dX9_line0_57 ?_
      refine pz_bipush (v := 8) F dX9_line0_60 rfl ?_
      refine pz_iload_n 3 F rfl dX9_line0_62 rfl ?_
      refine pz_imul F dX9_line0_63 ?_
      refine pz_iload 1 F rfl dX9_line0_64 ?_
      refine pz_iadd F dX9_line0_66 ?_
      obtain ⟨h_11, vc⟩ := vc
      refine pz_iaload 5 F rfl h_11 dX9_line0_67 ?_
      refine pz_if_gt (tgt := 92) F dX9_line0_68 (by decide) (fun q_12 => ?_) (fun q_12 => ?_)
      · replace vc := vc.1 q_12
        refine pz_aload_n 2 F rfl dX9_line0_92 rfl ?_
        refine pz_dup F dX9_line0_93 rfl ?_
        refine pz_get (ci := 8) (C := RX9) (T := TX9) (N := 42) (v := .int ou1) 0 F rfl rfl pz_inX9 35 (by decide) pw_843 rfl dX9_line0_94 ?_
        refine pz_iconst (v := 1) F dX9_line0_97 rfl ?_
        refine pz_iadd F dX9_line0_98 ?_
        refine pz_topi (fun x_13 ex_13 => ?_)
        replace vc := vc x_13 ex_13
        refine pz_put (ws' := [(h0, .inr (8, [.ref yt, .int rT, .int rH, .int (nI G), .ref yw, .int (nI K), .ref yp, .ref yg, .int (nI M), .ref yu, .int (nI N), .ref ysl, .ref yin, .ref yse, .ref ysp, .ref ypa, .int rA, .ref yb, .ref ybd, .ref ybc, .ref yr, .int rF, .int rP, .ref ywd, .int rS, .int rN, .int rO, .int rW, .int rL, .int rD, .ref yd, .int rI, .int rX, .int rY, .int rZ, .int x_13, .ref yro, .ref yc, .ref ybe, .ref yco, .long rC, .long rV])), (yb, .inl (g.2.1 1, 10, .inl qb)), (ybd, .inl (g.2.1 1, 80, .inl qd)), (ybc, .inl (g.2.1 1, 80, .inl qc)), (yr, .inl (g.2.1 1, 24, .inl qr)), (ypa, .inl (g.2.1 1, 80, .inl qa)), (yu, .inl (g.2.1 1, 8, .inl qu)), (yro, .inl (g.2.1 1, 8, .inl r1))]) (ci := 8) (C := RX9) (T := TX9) (N := 42) (v := .int x_13) (ty := .int) 0 F rfl rfl pz_inX9 35 (by decide) pw_843 tyX9_ok nmX9 rfl rfl rfl rfl (Nat.le_of_ble_eq_true rfl) dX9_line0_99 rfl ?_
        refine pz_goto (tgt := 164) F dX9_line0_102 (by decide) ?_
        obtain ⟨x_14, ex_14⟩ : ∃ z : Int32, z = kk + 1 := ⟨_, rfl⟩
        replace vc := vc x_14 ex_14
        refine pz_iinc (v := x_14) (lv' := [(3, .int x_14), (5, .int x_6), (4, .int x_4), (0, .ref h0), (1, .int (nI b)), (2, .int nn)]) 5 F rfl dX9_line0_164 (by rw [ex_14]; rfl) (by decide) rfl ?_
        refine pz_goto (tgt := 9) F dX9_line0_167 (by decide) ?_
        exact pz_sub [3, 4, 5, 0] [0, 1, 2, 3, 4, 5, 6, 7] rfl rfl rfl (hT9 nn x_14 x_13 r1 vc)
      · replace vc := vc.2 q_12
        refine pz_aload_n 2 F rfl dX9_line0_71 rfl ?_
        refine pz_get (ci := 8) (C := RX9) (T := TX9) (N := 42) (v := .ref yu) 0 F rfl rfl pz_inX9 9 (by decide) pw_817 rfl dX9_line0_72 ?_
        refine pz_iload 1 F rfl dX9_line0_75 ?_
        obtain ⟨h_15, vc⟩ := vc
        refine pz_iaload 6 F rfl h_15 dX9_line0_77 ?_
        refine pz_iload 0 F rfl dX9_line0_78 ?_
        refine pz_aload_n 2 F rfl dX9_line0_80 rfl ?_
        refine pz_get (ci := 8) (C := RX9) (T := TX9) (N := 42) (v := .ref yr) 0 F rfl rfl pz_inX9 20 (by decide) pw_828 rfl dX9_line0_81 ?_
        refine pz_iconst (v := 3) F dX9_line0_84 rfl ?_
        obtain ⟨h_16, vc⟩ := vc
        refine pz_iaload 4 F rfl h_16 dX9_line0_85 ?_
        refine pz_callS (nA := 2) (As := [.int x_6, .int (qr (3 : Int32).toNatClampNeg)]) (rest := [.int (qu x_4.toNatClampNeg)]) (wr := [(h0, .inr (8, [.ref yt, .int rT, .int rH, .int (nI G), .ref yw, .int (nI K), .ref yp, .ref yg, .int (nI M), .ref yu, .int (nI N), .ref ysl, .ref yin, .ref yse, .ref ysp, .ref ypa, .int rA, .ref yb, .ref ybd, .ref ybc, .ref yr, .int rF, .int rP, .ref ywd, .int rS, .int rN, .int rO, .int rW, .int rL, .int rD, .ref yd, .int rI, .int rX, .int rY, .int rZ, .int ou1, .ref yro, .ref yc, .ref ybe, .ref yco, .long rC, .long rV])), (yb, .inl (g.2.1 1, 10, .inl qb)), (ybd, .inl (g.2.1 1, 80, .inl qd)), (ybc, .inl (g.2.1 1, 80, .inl qc)), (yr, .inl (g.2.1 1, 24, .inl qr)), (ypa, .inl (g.2.1 1, 80, .inl qa)), (yu, .inl (g.2.1 1, 8, .inl qu)), (yro, .inl (g.2.1 1, 8, .inl r1))]) F (ctX9_hundredth _ g x_6 (qr (3 : Int32).toNatClampNeg)) pw_1032 pw_1033 pw_8 pw_1034 (by decide +kernel) (by decide) (by decide) rfl rfl (Nat.le_of_ble_eq_true rfl) [] [0, 1, 2, 3, 4, 5, 6, 7] rfl rfl rfl rfl (by decide) dX9_line0_86 (fun r0 w0 hp0 => ?_)
        obtain ⟨r_17, _, rfl, rfl, hq_18⟩ := hp0
        replace vc := vc r_17  hq_18
        refine pz_eq (st' := [.int r_17, .int (qu x_4.toNatClampNeg)]) (ws' := [(h0, .inr (8, [.ref yt, .int rT, .int rH, .int (nI G), .ref yw, .int (nI K), .ref yp, .ref yg, .int (nI M), .ref yu, .int (nI N), .ref ysl, .ref yin, .ref yse, .ref ysp, .ref ypa, .int rA, .ref yb, .ref ybd, .ref ybc, .ref yr, .int rF, .int rP, .ref ywd, .int rS, .int rN, .int rO, .int rW, .int rL, .int rD, .ref yd, .int rI, .int rX, .int rY, .int rZ, .int ou1, .ref yro, .ref yc, .ref ybe, .ref yco, .long rC, .long rV])), (yb, .inl (g.2.1 1, 10, .inl qb)), (ybd, .inl (g.2.1 1, 80, .inl qd)), (ybc, .inl (g.2.1 1, 80, .inl qc)), (yr, .inl (g.2.1 1, 24, .inl qr)), (ypa, .inl (g.2.1 1, 80, .inl qa)), (yu, .inl (g.2.1 1, 8, .inl qu)), (yro, .inl (g.2.1 1, 8, .inl r1))]) rfl rfl ?_
        refine pz_icmp_ge (tgt := 105) F dX9_line0_89 (by decide) (fun q_19 => ?_) (fun q_19 => ?_)
        · replace vc := vc.1 q_19
          refine pz_iload_n 4 F rfl dX9_line0_105 rfl ?_
          refine pz_istore (lv' := [(6, .int nn), (5, .int x_6), (4, .int x_4), (0, .ref h0), (1, .int (nI b)), (2, .int nn), (3, .int kk)]) F dX9_line0_106 (by decide) rfl ?_
          exact pz_sub [3, 4, 5, 6, 0] [0, 1, 2, 3, 4, 5, 6, 7] rfl rfl rfl (hT108 nn kk nn ou1 r1 vc)
        · replace vc := vc.2 q_19
          refine pz_aload_n 2 F rfl dX9_line0_92 rfl ?_
          refine pz_dup F dX9_line0_93 rfl ?_
          refine pz_get (ci := 8) (C := RX9) (T := TX9) (N := 42) (v := .int ou1) 0 F rfl rfl pz_inX9 35 (by decide) pw_843 rfl dX9_line0_94 ?_
          refine pz_iconst (v := 1) F dX9_line0_97 rfl ?_
          refine pz_iadd F dX9_line0_98 ?_
          refine pz_topi (fun x_20 ex_20 => ?_)
          replace vc := vc x_20 ex_20
          refine pz_put (ws' := [(h0, .inr (8, [.ref yt, .int rT, .int rH, .int (nI G), .ref yw, .int (nI K), .ref yp, .ref yg, .int (nI M), .ref yu, .int (nI N), .ref ysl, .ref yin, .ref yse, .ref ysp, .ref ypa, .int rA, .ref yb, .ref ybd, .ref ybc, .ref yr, .int rF, .int rP, .ref ywd, .int rS, .int rN, .int rO, .int rW, .int rL, .int rD, .ref yd, .int rI, .int rX, .int rY, .int rZ, .int x_20, .ref yro, .ref yc, .ref ybe, .ref yco, .long rC, .long rV])), (yb, .inl (g.2.1 1, 10, .inl qb)), (ybd, .inl (g.2.1 1, 80, .inl qd)), (ybc, .inl (g.2.1 1, 80, .inl qc)), (yr, .inl (g.2.1 1, 24, .inl qr)), (ypa, .inl (g.2.1 1, 80, .inl qa)), (yu, .inl (g.2.1 1, 8, .inl qu)), (yro, .inl (g.2.1 1, 8, .inl r1))]) (ci := 8) (C := RX9) (T := TX9) (N := 42) (v := .int x_20) (ty := .int) 0 F rfl rfl pz_inX9 35 (by decide) pw_843 tyX9_ok nmX9 rfl rfl rfl rfl (Nat.le_of_ble_eq_true rfl) dX9_line0_99 rfl ?_
          refine pz_goto (tgt := 164) F dX9_line0_102 (by decide) ?_
          obtain ⟨x_21, ex_21⟩ : ∃ z : Int32, z = kk + 1 := ⟨_, rfl⟩
          replace vc := vc x_21 ex_21
          refine pz_iinc (v := x_21) (lv' := [(3, .int x_21), (5, .int x_6), (4, .int x_4), (0, .ref h0), (1, .int (nI b)), (2, .int nn)]) 5 F rfl dX9_line0_164 (by rw [ex_21]; rfl) (by decide) rfl ?_
          refine pz_goto (tgt := 9) F dX9_line0_167 (by decide) ?_
          exact pz_sub [3, 4, 5, 0] [0, 1, 2, 3, 4, 5, 6, 7] rfl rfl rfl (hT9 nn x_21 x_20 r1 vc)
theorem lpX9_line0_9 {B : pz_B} {g : pz_G} {wc : va_W} {Post : Option Value → va_W → Prop} (F : pz_F B cX9_line0 7 (some .int) yX9_line0.cls g rmX9_line0) (Rt : pz_Rt B g wc Post rmX9_line0) (h0 : Nat) (yt : Nat) (rT : Int32) (rH : Int32) (yw : Nat) (yp : Nat) (yg : Nat) (yu : Nat) (ysl : Nat) (yin : Nat) (yse : Nat) (ysp : Nat) (ypa : Nat) (rA : Int32) (yb : Nat) (ybd : Nat) (ybc : Nat) (yr : Nat) (rF : Int32) (rP : Int32) (ywd : Nat) (rS : Int32) (rN : Int32) (rO : Int32) (rW : Int32) (rL : Int32) (rD : Int32) (yd : Nat) (rI : Int32) (rX : Int32) (rY : Int32) (rZ : Int32) (rU : Int32) (yro : Nat) (yc : Nat) (ybe : Nat) (yco : Nat) (rC : Int64) (rV : Int64) (qb : Nat → Int32) (qd : Nat → Int32) (qc : Nat → Int32) (qr : Nat → Int32) (qa : Nat → Int32) (qu : Nat → Int32) (qo : Nat → Int32) (G : Nat) (K : Nat) (M : Nat) (N : Nat) (b : Nat) (Bc : Nat) (T108 : Int32 → Int32 → Int32 → Int32 → (Nat → Int32) → Prop) (hT108 : ∀ (nn : Int32) (kk : Int32) (at_ : Int32) (ou1 : Int32) (r1 : Nat → Int32), T108 nn kk at_ ou1 r1 → paX9_line0_108 B g h0 yt rT rH yw yp yg yu ysl yin yse ysp ypa rA yb ybd ybc yr rF rP ywd rS rN rO rW rL rD yd rI rX rY rZ rU yro yc ybe yco rC rV qb qd qc qr qa qu qo G K M N b Bc nn kk at_ ou1 r1) (Inv : Nat → Int32 → Int32 → Int32 → (Nat → Int32) → Prop) (step : ∀ (mz : Nat) (nn : Int32) (kk : Int32) (ou1 : Int32) (r1 : Nat → Int32), Inv mz nn kk ou1 r1 → ∀ TT : Int32 → Int32 → Int32 → (Nat → Int32) → Prop, TT = (fun nn kk ou1 r1 => ∃ mz', mz' < mz ∧ Inv mz' nn kk ou1 r1) → vp_in (nI b) 10 ∧ (((qb (nI b).toNatClampNeg) ≤ kk → Post (some (.int nn)) [(h0, .inr (8, [.ref yt, .int rT, .int rH, .int (nI G), .ref yw, .int (nI K), .ref yp, .ref yg, .int (nI M), .ref yu, .int (nI N), .ref ysl, .ref yin, .ref yse, .ref ysp, .ref ypa, .int rA, .ref yb, .ref ybd, .ref ybc, .ref yr, .int rF, .int rP, .ref ywd, .int rS, .int rN, .int rO, .int rW, .int rL, .int rD, .ref yd, .int rI, .int rX, .int rY, .int rZ, .int ou1, .ref yro, .ref yc, .ref ybe, .ref yco, .long rC, .long rV])), (yb, .inl (g.2.1 1, 10, .inl qb)), (ybd, .inl (g.2.1 1, 80, .inl qd)), (ybc, .inl (g.2.1 1, 80, .inl qc)), (yr, .inl (g.2.1 1, 24, .inl qr)), (ypa, .inl (g.2.1 1, 80, .inl qa)), (yu, .inl (g.2.1 1, 8, .inl qu)), (yro, .inl (g.2.1 1, 8, .inl r1))]) ∧ (¬ (qb (nI b).toNatClampNeg) ≤ kk → vp_in ((8 * (nI b)) + kk) 80 ∧ ∀ x_4 : Int32, x_4 = (qd ((8 * (nI b)) + kk).toNatClampNeg) → vp_in ((8 * (nI b)) + kk) 80 ∧ ∀ x_6 : Int32, x_6 = (qc ((8 * (nI b)) + kk).toNatClampNeg) → vp_in 4 24 ∧ ((x_6 < (qr (4 : Int32).toNatClampNeg) → ∀ x_9 : Int32, x_9 = (ou1 + 1) → ∀ x_10 : Int32, x_10 = kk + 1 → TT nn x_10 x_9 r1) ∧ (¬ x_6 < (qr (4 : Int32).toNatClampNeg) → vp_in ((8 * (nI b)) + x_4) 80 ∧ (((0 : Int32) < (qa ((8 * (nI b)) + x_4).toNatClampNeg) → ∀ x_13 : Int32, x_13 = (ou1 + 1) → ∀ x_14 : Int32, x_14 = kk + 1 → TT nn x_14 x_13 r1) ∧ (¬ (0 : Int32) < (qa ((8 * (nI b)) + x_4).toNatClampNeg) → vp_in x_4 8 ∧ vp_in 3 24 ∧ ∀ r_17 : Int32, ∀ _ : (r_17 = hd_l x_6 (qr (3 : Int32).toNatClampNeg)), ((r_17 ≤ (qu x_4.toNatClampNeg) → T108 nn kk nn ou1 r1) ∧ (¬ r_17 ≤ (qu x_4.toNatClampNeg) → ∀ x_20 : Int32, x_20 = (ou1 + 1) → ∀ x_21 : Int32, x_21 = kk + 1 → TT nn x_21 x_20 r1))))))))) : ∀ (mz : Nat) (nn : Int32) (kk : Int32) (ou1 : Int32) (r1 : Nat → Int32), Inv mz nn kk ou1 r1 → paX9_line0_9 B g h0 yt rT rH yw yp yg yu ysl yin yse ysp ypa rA yb ybd ybc yr rF rP ywd rS rN rO rW rL rD yd rI rX rY rZ rU yro yc ybe yco rC rV qb qd qc qr qa qu qo G K M N b Bc nn kk ou1 r1 := by
  intro mz
  induction mz using Nat.strongRecOn with
  | _ mz ih =>
    intro nn kk ou1 r1 hI
    exact sgX9_line0_9 F Rt h0 yt rT rH yw yp yg yu ysl yin yse ysp ypa rA yb ybd ybc yr rF rP ywd rS rN rO rW rL rD yd rI rX rY rZ rU yro yc ybe yco rC rV qb qd qc qr qa qu qo G K M N b Bc (fun nn kk ou1 r1 => ∃ mz', mz' < mz ∧ Inv mz' nn kk ou1 r1) (fun nn kk ou1 r1 ⟨mz', h1, h2⟩ => ih mz' h1 nn kk ou1 r1 h2) T108 hT108 nn kk ou1 r1 (step mz nn kk ou1 r1 hI _ rfl)
set_option maxHeartbeats 4000000 in
set_option maxRecDepth 100000 in
theorem sgX9_line0_108 {B : pz_B} {g : pz_G} {wc : va_W} {Post : Option Value → va_W → Prop} (F : pz_F B cX9_line0 7 (some .int) yX9_line0.cls g rmX9_line0) (Rt : pz_Rt B g wc Post rmX9_line0) (h0 : Nat) (yt : Nat) (rT : Int32) (rH : Int32) (yw : Nat) (yp : Nat) (yg : Nat) (yu : Nat) (ysl : Nat) (yin : Nat) (yse : Nat) (ysp : Nat) (ypa : Nat) (rA : Int32) (yb : Nat) (ybd : Nat) (ybc : Nat) (yr : Nat) (rF : Int32) (rP : Int32) (ywd : Nat) (rS : Int32) (rN : Int32) (rO : Int32) (rW : Int32) (rL : Int32) (rD : Int32) (yd : Nat) (rI : Int32) (rX : Int32) (rY : Int32) (rZ : Int32) (rU : Int32) (yro : Nat) (yc : Nat) (ybe : Nat) (yco : Nat) (rC : Int64) (rV : Int64) (qb : Nat → Int32) (qd : Nat → Int32) (qc : Nat → Int32) (qr : Nat → Int32) (qa : Nat → Int32) (qu : Nat → Int32) (qo : Nat → Int32) (G : Nat) (K : Nat) (M : Nat) (N : Nat) (b : Nat) (Bc : Nat) (T9 : Int32 → Int32 → Int32 → (Nat → Int32) → Prop) (hT9 : ∀ (nn : Int32) (kk : Int32) (ou1 : Int32) (r1 : Nat → Int32), T9 nn kk ou1 r1 → paX9_line0_9 B g h0 yt rT rH yw yp yg yu ysl yin yse ysp ypa rA yb ybd ybc yr rF rP ywd rS rN rO rW rL rD yd rI rX rY rZ rU yro yc ybe yco rC rV qb qd qc qr qa qu qo G K M N b Bc nn kk ou1 r1) (T108 : Int32 → Int32 → Int32 → Int32 → (Nat → Int32) → Prop) (hT108 : ∀ (nn : Int32) (kk : Int32) (at_ : Int32) (ou1 : Int32) (r1 : Nat → Int32), T108 nn kk at_ ou1 r1 → paX9_line0_108 B g h0 yt rT rH yw yp yg yu ysl yin yse ysp ypa rA yb ybd ybc yr rF rP ywd rS rN rO rW rL rD yd rI rX rY rZ rU yro yc ybe yco rC rV qb qd qc qr qa qu qo G K M N b Bc nn kk at_ ou1 r1) (nn : Int32) (kk : Int32) (at_ : Int32) (ou1 : Int32) (r1 : Nat → Int32) (vc : ((at_ ≤ 0 → vp_in at_ 8 ∧ ∀ f_3 : Nat → Int32, f_3 = upd r1 at_.toNatClampNeg kk → ∀ x_4 : Int32, x_4 = nn + 1 → ∀ x_5 : Int32, x_5 = kk + 1 → T9 x_4 x_5 ou1 f_3) ∧ (¬ at_ ≤ 0 → vp_in (at_ - 1) 8 ∧ ∃ k_7 : Nat, ∃ c_8 : Nat, (b < 10 ∧ k_7 < 8 ∧ c_8 < k_7 ∧ kk = nI k_7 ∧ (r1 (at_ - 1).toNatClampNeg) = nI c_8) ∧ ∀ r_10 : Int32, ∀ _ : (r_10 = if (sl8 qc b) c_8 < (sl8 qc b) k_7 then 1 else 0), ((r_10 = 0 → vp_in at_ 8 ∧ ∀ f_14 : Nat → Int32, f_14 = upd r1 at_.toNatClampNeg kk → ∀ x_15 : Int32, x_15 = nn + 1 → ∀ x_16 : Int32, x_16 = kk + 1 → T9 x_15 x_16 ou1 f_14) ∧ (¬ r_10 = 0 → vp_in (at_ - 1) 8 ∧ ∀ x_18 : Int32, x_18 = (r1 (at_ - 1).toNatClampNeg) → vp_in at_ 8 ∧ ∀ f_20 : Nat → Int32, f_20 = upd r1 at_.toNatClampNeg x_18 → ∀ x_21 : Int32, x_21 = at_ + (-1) → T108 nn kk x_21 ou1 f_20))))) : pz_At B 0 0 108 [(0, .ref h0), (1, .int (nI b)), (2, .int nn), (3, .int kk), (6, .int at_)] [] [(h0, .inr (8, [.ref yt, .int rT, .int rH, .int (nI G), .ref yw, .int (nI K), .ref yp, .ref yg, .int (nI M), .ref yu, .int (nI N), .ref ysl, .ref yin, .ref yse, .ref ysp, .ref ypa, .int rA, .ref yb, .ref ybd, .ref ybc, .ref yr, .int rF, .int rP, .ref ywd, .int rS, .int rN, .int rO, .int rW, .int rL, .int rD, .ref yd, .int rI, .int rX, .int rY, .int rZ, .int ou1, .ref yro, .ref yc, .ref ybe, .ref yco, .long rC, .long rV])), (yb, .inl (g.2.1 1, 10, .inl qb)), (ybd, .inl (g.2.1 1, 80, .inl qd)), (ybc, .inl (g.2.1 1, 80, .inl qc)), (yr, .inl (g.2.1 1, 24, .inl qr)), (ypa, .inl (g.2.1 1, 80, .inl qa)), (yu, .inl (g.2.1 1, 8, .inl qu)), (yro, .inl (g.2.1 1, 8, .inl r1))] := by
  refine pz_iload 4 F rfl dX9_line0_108 ?_
  refine pz_if_le (tgt := 153) F dX9_line0_110 (by decide) (fun q_1 => ?_) (fun q_1 => ?_)
  · replace vc := vc.1 q_1
    refine pz_aload_n 0 F rfl dX9_line0_153 rfl ?_
    refine pz_get (ci := 8) (C := RX9) (T := TX9) (N := 42) (v := .ref yro) 0 F rfl rfl pz_inX9 36 (by decide) pw_844 rfl dX9_line0_154 ?_
    refine pz_iload 4 F rfl dX9_line0_157 ?_
    refine pz_iload_n 3 F rfl dX9_line0_159 rfl ?_
    obtain ⟨h_2, vc⟩ := vc
    obtain ⟨f_3, ef_3⟩ : ∃ z : Nat → Int32, z = upd r1 at_.toNatClampNeg kk := ⟨_, rfl⟩
    replace vc := vc f_3 ef_3
    refine pz_iastore (ws' := [(h0, .inr (8, [.ref yt, .int rT, .int rH, .int (nI G), .ref yw, .int (nI K), .ref yp, .ref yg, .int (nI M), .ref yu, .int (nI N), .ref ysl, .ref yin, .ref yse, .ref ysp, .ref ypa, .int rA, .ref yb, .ref ybd, .ref ybc, .ref yr, .int rF, .int rP, .ref ywd, .int rS, .int rN, .int rO, .int rW, .int rL, .int rD, .ref yd, .int rI, .int rX, .int rY, .int rZ, .int ou1, .ref yro, .ref yc, .ref ybe, .ref yco, .long rC, .long rV])), (yb, .inl (g.2.1 1, 10, .inl qb)), (ybd, .inl (g.2.1 1, 80, .inl qd)), (ybc, .inl (g.2.1 1, 80, .inl qc)), (yr, .inl (g.2.1 1, 24, .inl qr)), (ypa, .inl (g.2.1 1, 80, .inl qa)), (yu, .inl (g.2.1 1, 8, .inl qu)), (yro, .inl (g.2.1 1, 8, .inl f_3))]) F 7 rfl h_2 dX9_line0_160 (by rw [ef_3]; rfl) ?_
    obtain ⟨x_4, ex_4⟩ : ∃ z : Int32, z = nn + 1 := ⟨_, rfl⟩
    replace vc := vc x_4 ex_4
    refine pz_iinc (v := x_4) (lv' := [(2, .int x_4), (0, .ref h0), (1, .int (nI b)), (3, .int kk), (6, .int at_)]) 2 F rfl dX9_line0_161 (by rw [ex_4]; rfl) (by decide) rfl ?_
    obtain ⟨x_5, ex_5⟩ : ∃ z : Int32, z = kk + 1 := ⟨_, rfl⟩
    replace vc := vc x_5 ex_5
    refine pz_iinc (v := x_5) (lv' := [(3, .int x_5), (2, .int x_4), (0, .ref h0), (1, .int (nI b)), (6, .int at_)]) 3 F rfl dX9_line0_164 (by rw [ex_5]; rfl) (by decide) rfl ?_
    refine pz_goto (tgt := 9) F dX9_line0_167 (by decide) ?_
    exact pz_sub [2, 3, 1, 0] [0, 1, 2, 3, 4, 5, 6, 7] rfl rfl rfl (hT9 x_4 x_5 ou1 f_3 vc)
  · replace vc := vc.2 q_1
    refine pz_aload_n 0 F rfl dX9_line0_113 rfl ?_
    refine pz_iload_n 1 F rfl dX9_line0_114 rfl ?_
    refine pz_iload_n 3 F rfl dX9_line0_115 rfl ?_
    refine pz_aload_n 0 F rfl dX9_line0_116 rfl ?_
    refine pz_get (ci := 8) (C := RX9) (T := TX9) (N := 42) (v := .ref yro) 0 F rfl rfl pz_inX9 36 (by decide) pw_844 rfl dX9_line0_117 ?_
    refine pz_iload 4 F rfl dX9_line0_120 ?_
    refine pz_iconst (v := 1) F dX9_line0_122 rfl ?_
    refine pz_isub F dX9_line0_123 ?_
    obtain ⟨h_6, vc⟩ := vc
    refine pz_iaload 7 F rfl h_6 dX9_line0_124 ?_
    obtain ⟨k_7, vc⟩ := vc
    obtain ⟨c_8, vc⟩ := vc
    obtain ⟨h_9, vc⟩ := vc
    refine pz_callV (nA := 3) (ci := 8) (C := RX9) (T := TX9) (N := 42) (As := [.int (nI b), .int kk, .int (r1 (at_ - 1).toNatClampNeg)]) (rest := []) (wr := [(yb, .inl (g.2.1 1, 10, .inl qb)), (ybd, .inl (g.2.1 1, 80, .inl qd)), (yr, .inl (g.2.1 1, 24, .inl qr)), (ypa, .inl (g.2.1 1, 80, .inl qa)), (yu, .inl (g.2.1 1, 8, .inl qu)), (yro, .inl (g.2.1 1, 8, .inl r1))]) F (ctX9_isAhead _ g kk (r1 (at_ - 1).toNatClampNeg) h0 yt rT rH yw yp yg yu ysl yin yse ysp ypa rA yb ybd ybc yr rF rP ywd rS rN rO rW rL rD yd rI rX rY rZ ou1 yro yc ybe yco rC rV qc G K M N b k_7 c_8 h_9) 0 rfl rfl pw_1036 pw_1038 pv_39 pw_8 pw_1039 (by decide +kernel) (by decide) (by decide) rfl rfl (Nat.le_of_ble_eq_true rfl) [0, 3] [1, 2, 4, 5, 6, 7] rfl rfl rfl rfl (by decide) dX9_line0_125 (fun r0 w0 hp0 => ?_)
    obtain ⟨r_10, _, rfl, rfl, hq_11⟩ := hp0
    replace vc := vc r_10  hq_11
    refine pz_eq (st' := [.int r_10]) (ws' := [(yb, .inl (g.2.1 1, 10, .inl qb)), (ybd, .inl (g.2.1 1, 80, .inl qd)), (yr, .inl (g.2.1 1, 24, .inl qr)), (ypa, .inl (g.2.1 1, 80, .inl qa)), (yu, .inl (g.2.1 1, 8, .inl qu)), (yro, .inl (g.2.1 1, 8, .inl r1)), (h0, .inr (8, [.ref yt, .int rT, .int rH, .int (nI G), .ref yw, .int (nI K), .ref yp, .ref yg, .int (nI M), .ref yu, .int (nI N), .ref ysl, .ref yin, .ref yse, .ref ysp, .ref ypa, .int rA, .ref yb, .ref ybd, .ref ybc, .ref yr, .int rF, .int rP, .ref ywd, .int rS, .int rN, .int rO, .int rW, .int rL, .int rD, .ref yd, .int rI, .int rX, .int rY, .int rZ, .int ou1, .ref yro, .ref yc, .ref ybe, .ref yco, .long rC, .long rV])), (ybc, .inl (g.2.1 1, 80, .inl qc))]) rfl rfl ?_
    refine pz_if_eq (tgt := 153) F dX9_line0_128 (by decide) (fun q_12 => ?_) (fun q_12 => ?_)
    · replace vc := vc.1 q_12
      refine pz_aload_n 0 F rfl dX9_line0_153 rfl ?_
      refine pz_get (ci := 8) (C := RX9) (T := TX9) (N := 42) (v := .ref yro) 6 F rfl rfl pz_inX9 36 (by decide) pw_844 rfl dX9_line0_154 ?_
      refine pz_iload 4 F rfl dX9_line0_157 ?_
      refine pz_iload_n 3 F rfl dX9_line0_159 rfl ?_
      obtain ⟨h_13, vc⟩ := vc
      obtain ⟨f_14, ef_14⟩ : ∃ z : Nat → Int32, z = upd r1 at_.toNatClampNeg kk := ⟨_, rfl⟩
      replace vc := vc f_14 ef_14
      refine pz_iastore (ws' := [(yb, .inl (g.2.1 1, 10, .inl qb)), (ybd, .inl (g.2.1 1, 80, .inl qd)), (yr, .inl (g.2.1 1, 24, .inl qr)), (ypa, .inl (g.2.1 1, 80, .inl qa)), (yu, .inl (g.2.1 1, 8, .inl qu)), (yro, .inl (g.2.1 1, 8, .inl f_14)), (h0, .inr (8, [.ref yt, .int rT, .int rH, .int (nI G), .ref yw, .int (nI K), .ref yp, .ref yg, .int (nI M), .ref yu, .int (nI N), .ref ysl, .ref yin, .ref yse, .ref ysp, .ref ypa, .int rA, .ref yb, .ref ybd, .ref ybc, .ref yr, .int rF, .int rP, .ref ywd, .int rS, .int rN, .int rO, .int rW, .int rL, .int rD, .ref yd, .int rI, .int rX, .int rY, .int rZ, .int ou1, .ref yro, .ref yc, .ref ybe, .ref yco, .long rC, .long rV])), (ybc, .inl (g.2.1 1, 80, .inl qc))]) F 5 rfl h_13 dX9_line0_160 (by rw [ef_14]; rfl) ?_
      obtain ⟨x_15, ex_15⟩ : ∃ z : Int32, z = nn + 1 := ⟨_, rfl⟩
      replace vc := vc x_15 ex_15
      refine pz_iinc (v := x_15) (lv' := [(2, .int x_15), (0, .ref h0), (1, .int (nI b)), (3, .int kk), (6, .int at_)]) 2 F rfl dX9_line0_161 (by rw [ex_15]; rfl) (by decide) rfl ?_
      obtain ⟨x_16, ex_16⟩ : ∃ z : Int32, z = kk + 1 := ⟨_, rfl⟩
      replace vc := vc x_16 ex_16
      refine pz_iinc (v := x_16) (lv' := [(3, .int x_16), (2, .int x_15), (0, .ref h0), (1, .int (nI b)), (6, .int at_)]) 3 F rfl dX9_line0_164 (by rw [ex_16]; rfl) (by decide) rfl ?_
      refine pz_goto (tgt := 9) F dX9_line0_167 (by decide) ?_
      exact pz_sub [2, 3, 1, 0] [6, 0, 1, 7, 2, 3, 4, 5] rfl rfl rfl (hT9 x_15 x_16 ou1 f_14 vc)
    · replace vc := vc.2 q_12
      refine pz_aload_n 0 F rfl dX9_line0_131 rfl ?_
      refine pz_get (ci := 8) (C := RX9) (T := TX9) (N := 42) (v := .ref yro) 6 F rfl rfl pz_inX9 36 (by decide) pw_844 rfl dX9_line0_132 ?_
      refine pz_iload 4 F rfl dX9_line0_135 ?_
      refine pz_aload_n 0 F rfl dX9_line0_137 rfl ?_
      refine pz_get (ci := 8) (C := RX9) (T := TX9) (N := 42) (v := .ref yro) 6 F rfl rfl pz_inX9 36 (by decide) pw_844 rfl dX9_line0_138 ?_
      refine pz_iload 4 F rfl dX9_line0_141 ?_
      refine pz_iconst (v := 1) F dX9_line0_143 rfl ?_
      refine pz_isub F dX9_line0_144 ?_
      obtain ⟨h_17, vc⟩ := vc
      refine pz_iaload 5 F rfl h_17 dX9_line0_145 ?_
      refine pz_topi (fun x_18 ex_18 => ?_)
      replace vc := vc x_18 ex_18
      obtain ⟨h_19, vc⟩ := vc
      obtain ⟨f_20, ef_20⟩ : ∃ z : Nat → Int32, z = upd r1 at_.toNatClampNeg x_18 := ⟨_, rfl⟩
      replace vc := vc f_20 ef_20
      refine pz_iastore (ws' := [(yb, .inl (g.2.1 1, 10, .inl qb)), (ybd, .inl (g.2.1 1, 80, .inl qd)), (yr, .inl (g.2.1 1, 24, .inl qr)), (ypa, .inl (g.2.1 1, 80, .inl qa)), (yu, .inl (g.2.1 1, 8, .inl qu)), (yro, .inl (g.2.1 1, 8, .inl f_20)), (h0, .inr (8, [.ref yt, .int rT, .int rH, .int (nI G), .ref yw, .int (nI K), .ref yp, .ref yg, .int (nI M), .ref yu, .int (nI N), .ref ysl, .ref yin, .ref yse, .ref ysp, .ref ypa, .int rA, .ref yb, .ref ybd, .ref ybc, .ref yr, .int rF, .int rP, .ref ywd, .int rS, .int rN, .int rO, .int rW, .int rL, .int rD, .ref yd, .int rI, .int rX, .int rY, .int rZ, .int ou1, .ref yro, .ref yc, .ref ybe, .ref yco, .long rC, .long rV])), (ybc, .inl (g.2.1 1, 80, .inl qc))]) F 5 rfl h_19 dX9_line0_146 (by rw [ef_20]; rfl) ?_
      obtain ⟨x_21, ex_21⟩ : ∃ z : Int32, z = at_ + (-1) := ⟨_, rfl⟩
      replace vc := vc x_21 ex_21
      refine pz_iinc (v := x_21) (lv' := [(6, .int x_21), (0, .ref h0), (1, .int (nI b)), (2, .int nn), (3, .int kk)]) 4 F rfl dX9_line0_147 (by rw [ex_21]; rfl) (by decide) rfl ?_
      refine pz_goto (tgt := 108) F dX9_line0_150 (by decide) ?_
      exact pz_sub [1, 2, 3, 4, 0] [6, 0, 1, 7, 2, 3, 4, 5] rfl rfl rfl (hT108 nn kk x_21 ou1 f_20 vc)
theorem lpX9_line0_108 {B : pz_B} {g : pz_G} {wc : va_W} {Post : Option Value → va_W → Prop} (F : pz_F B cX9_line0 7 (some .int) yX9_line0.cls g rmX9_line0) (Rt : pz_Rt B g wc Post rmX9_line0) (h0 : Nat) (yt : Nat) (rT : Int32) (rH : Int32) (yw : Nat) (yp : Nat) (yg : Nat) (yu : Nat) (ysl : Nat) (yin : Nat) (yse : Nat) (ysp : Nat) (ypa : Nat) (rA : Int32) (yb : Nat) (ybd : Nat) (ybc : Nat) (yr : Nat) (rF : Int32) (rP : Int32) (ywd : Nat) (rS : Int32) (rN : Int32) (rO : Int32) (rW : Int32) (rL : Int32) (rD : Int32) (yd : Nat) (rI : Int32) (rX : Int32) (rY : Int32) (rZ : Int32) (rU : Int32) (yro : Nat) (yc : Nat) (ybe : Nat) (yco : Nat) (rC : Int64) (rV : Int64) (qb : Nat → Int32) (qd : Nat → Int32) (qc : Nat → Int32) (qr : Nat → Int32) (qa : Nat → Int32) (qu : Nat → Int32) (qo : Nat → Int32) (G : Nat) (K : Nat) (M : Nat) (N : Nat) (b : Nat) (Bc : Nat) (T9 : Int32 → Int32 → Int32 → (Nat → Int32) → Prop) (hT9 : ∀ (nn : Int32) (kk : Int32) (ou1 : Int32) (r1 : Nat → Int32), T9 nn kk ou1 r1 → paX9_line0_9 B g h0 yt rT rH yw yp yg yu ysl yin yse ysp ypa rA yb ybd ybc yr rF rP ywd rS rN rO rW rL rD yd rI rX rY rZ rU yro yc ybe yco rC rV qb qd qc qr qa qu qo G K M N b Bc nn kk ou1 r1) (Inv : Nat → Int32 → Int32 → Int32 → Int32 → (Nat → Int32) → Prop) (step : ∀ (mz : Nat) (nn : Int32) (kk : Int32) (at_ : Int32) (ou1 : Int32) (r1 : Nat → Int32), Inv mz nn kk at_ ou1 r1 → ∀ TT : Int32 → Int32 → Int32 → Int32 → (Nat → Int32) → Prop, TT = (fun nn kk at_ ou1 r1 => ∃ mz', mz' < mz ∧ Inv mz' nn kk at_ ou1 r1) → ((at_ ≤ 0 → vp_in at_ 8 ∧ ∀ f_3 : Nat → Int32, f_3 = upd r1 at_.toNatClampNeg kk → ∀ x_4 : Int32, x_4 = nn + 1 → ∀ x_5 : Int32, x_5 = kk + 1 → T9 x_4 x_5 ou1 f_3) ∧ (¬ at_ ≤ 0 → vp_in (at_ - 1) 8 ∧ ∃ k_7 : Nat, ∃ c_8 : Nat, (b < 10 ∧ k_7 < 8 ∧ c_8 < k_7 ∧ kk = nI k_7 ∧ (r1 (at_ - 1).toNatClampNeg) = nI c_8) ∧ ∀ r_10 : Int32, ∀ _ : (r_10 = if (sl8 qc b) c_8 < (sl8 qc b) k_7 then 1 else 0), ((r_10 = 0 → vp_in at_ 8 ∧ ∀ f_14 : Nat → Int32, f_14 = upd r1 at_.toNatClampNeg kk → ∀ x_15 : Int32, x_15 = nn + 1 → ∀ x_16 : Int32, x_16 = kk + 1 → T9 x_15 x_16 ou1 f_14) ∧ (¬ r_10 = 0 → vp_in (at_ - 1) 8 ∧ ∀ x_18 : Int32, x_18 = (r1 (at_ - 1).toNatClampNeg) → vp_in at_ 8 ∧ ∀ f_20 : Nat → Int32, f_20 = upd r1 at_.toNatClampNeg x_18 → ∀ x_21 : Int32, x_21 = at_ + (-1) → TT nn kk x_21 ou1 f_20))))) : ∀ (mz : Nat) (nn : Int32) (kk : Int32) (at_ : Int32) (ou1 : Int32) (r1 : Nat → Int32), Inv mz nn kk at_ ou1 r1 → paX9_line0_108 B g h0 yt rT rH yw yp yg yu ysl yin yse ysp ypa rA yb ybd ybc yr rF rP ywd rS rN rO rW rL rD yd rI rX rY rZ rU yro yc ybe yco rC rV qb qd qc qr qa qu qo G K M N b Bc nn kk at_ ou1 r1 := by
  intro mz
  induction mz using Nat.strongRecOn with
  | _ mz ih =>
    intro nn kk at_ ou1 r1 hI
    exact sgX9_line0_108 F Rt h0 yt rT rH yw yp yg yu ysl yin yse ysp ypa rA yb ybd ybc yr rF rP ywd rS rN rO rW rL rD yd rI rX rY rZ rU yro yc ybe yco rC rV qb qd qc qr qa qu qo G K M N b Bc T9 hT9 (fun nn kk at_ ou1 r1 => ∃ mz', mz' < mz ∧ Inv mz' nn kk at_ ou1 r1) (fun nn kk at_ ou1 r1 ⟨mz', h1, h2⟩ => ih mz' h1 nn kk at_ ou1 r1 h2) nn kk at_ ou1 r1 (step mz nn kk at_ ou1 r1 hI _ rfl)
set_option maxHeartbeats 4000000 in
set_option maxRecDepth 100000 in
theorem ctX9_line0 (l : Launch) (g : pz_G) (h0 : Nat) (yt : Nat) (rT : Int32) (rH : Int32) (yw : Nat) (yp : Nat) (yg : Nat) (yu : Nat) (ysl : Nat) (yin : Nat) (yse : Nat) (ysp : Nat) (ypa : Nat) (rA : Int32) (yb : Nat) (ybd : Nat) (ybc : Nat) (yr : Nat) (rF : Int32) (rP : Int32) (ywd : Nat) (rS : Int32) (rN : Int32) (rO : Int32) (rW : Int32) (rL : Int32) (rD : Int32) (yd : Nat) (rI : Int32) (rX : Int32) (rY : Int32) (rZ : Int32) (rU : Int32) (yro : Nat) (yc : Nat) (ybe : Nat) (yco : Nat) (rC : Int64) (rV : Int64) (qb : Nat → Int32) (qd : Nat → Int32) (qc : Nat → Int32) (qr : Nat → Int32) (qa : Nat → Int32) (qu : Nat → Int32) (qo : Nat → Int32) (G : Nat) (K : Nat) (M : Nat) (N : Nat) (b : Nat) (Bc : Nat) (hpre : b < 10 ∧ Bc ≤ 8 ∧ qb b = nI Bc ∧ ∀ k, k < Bc → ∃ v, v < 8 ∧ qd (8 * b + k) = nI v) : pz_Ct l g yX9_line0 cX9_line0 7 (some .int) rmX9_line0 [.ref h0, .int (nI b)] [(h0, .inr (8, [.ref yt, .int rT, .int rH, .int (nI G), .ref yw, .int (nI K), .ref yp, .ref yg, .int (nI M), .ref yu, .int (nI N), .ref ysl, .ref yin, .ref yse, .ref ysp, .ref ypa, .int rA, .ref yb, .ref ybd, .ref ybc, .ref yr, .int rF, .int rP, .ref ywd, .int rS, .int rN, .int rO, .int rW, .int rL, .int rD, .ref yd, .int rI, .int rX, .int rY, .int rZ, .int rU, .ref yro, .ref yc, .ref ybe, .ref yco, .long rC, .long rV])), (yb, .inl (g.2.1 1, 10, .inl qb)), (ybd, .inl (g.2.1 1, 80, .inl qd)), (ybc, .inl (g.2.1 1, 80, .inl qc)), (yr, .inl (g.2.1 1, 24, .inl qr)), (ypa, .inl (g.2.1 1, 80, .inl qa)), (yu, .inl (g.2.1 1, 8, .inl qu)), (yro, .inl (g.2.1 1, 8, .inl qo))] (pz_pi (fun (r : Int32) (u : Int32 × (Nat → Int32)) => r = nI (sa_rl (sl8 qc b) (rp_ok (sl8 qd b) (sl8 qc b) qr (sl8 qa b) qu) Bc).length ∧ u.1 = nI (sa_out (rp_ok (sl8 qd b) (sl8 qc b) qr (sl8 qa b) qu) Bc) ∧ ∀ a, a < (sa_rl (sl8 qc b) (rp_ok (sl8 qd b) (sl8 qc b) qr (sl8 qa b) qu) Bc).length → u.2 a = nI ((sa_rl (sl8 qc b) (rp_ok (sl8 qd b) (sl8 qc b) qr (sl8 qa b) qu) Bc).getD ((sa_rl (sl8 qc b) (rp_ok (sl8 qd b) (sl8 qc b) qr (sl8 qa b) qu) Bc).length - 1 - a) 0)) (fun (u : Int32 × (Nat → Int32)) => [(h0, .inr (8, [.ref yt, .int rT, .int rH, .int (nI G), .ref yw, .int (nI K), .ref yp, .ref yg, .int (nI M), .ref yu, .int (nI N), .ref ysl, .ref yin, .ref yse, .ref ysp, .ref ypa, .int rA, .ref yb, .ref ybd, .ref ybc, .ref yr, .int rF, .int rP, .ref ywd, .int rS, .int rN, .int rO, .int rW, .int rL, .int rD, .ref yd, .int rI, .int rX, .int rY, .int rZ, .int u.1, .ref yro, .ref yc, .ref ybe, .ref yco, .long rC, .long rV])), (yb, .inl (g.2.1 1, 10, .inl qb)), (ybd, .inl (g.2.1 1, 80, .inl qd)), (ybc, .inl (g.2.1 1, 80, .inl qc)), (yr, .inl (g.2.1 1, 24, .inl qr)), (ypa, .inl (g.2.1 1, 80, .inl qa)), (yu, .inl (g.2.1 1, 8, .inl qu)), (yro, .inl (g.2.1 1, 8, .inl u.2))])) := by
  refine pz_ofAt (by decide +kernel) (Nat.le_of_ble_eq_true rfl) (fun B F Rt hme => ?_)
  obtain ⟨hb, hB8, hq, hbd⟩ := hpre
  have hbin : vp_in (nI b) 10 := vp_in_nI hb (by omega)
  have key : ∀ (m : Nat) (nn kk ou1 : Int32) (r1 : Nat → Int32), (∃ j, j + m = Bc ∧ kk = nI j ∧ nn = nI (sa_rl (sl8 qc b) (rp_ok (sl8 qd b) (sl8 qc b) qr (sl8 qa b) qu) j).length ∧ ou1 = nI (sa_out (rp_ok (sl8 qd b) (sl8 qc b) qr (sl8 qa b) qu) j) ∧ ∀ a, a < (sa_rl (sl8 qc b) (rp_ok (sl8 qd b) (sl8 qc b) qr (sl8 qa b) qu) j).length → r1 a = nI ((sa_rl (sl8 qc b) (rp_ok (sl8 qd b) (sl8 qc b) qr (sl8 qa b) qu) j).getD ((sa_rl (sl8 qc b) (rp_ok (sl8 qd b) (sl8 qc b) qr (sl8 qa b) qu) j).length - 1 - a) 0)) → paX9_line0_9 B g h0 yt rT rH yw yp yg yu ysl yin yse ysp ypa rA yb ybd ybc yr rF rP ywd rS rN rO rW rL rD yd rI rX rY rZ rU yro yc ybe yco rC rV qb qd qc qr qa qu qo G K M N b Bc nn kk ou1 r1 := by
    intro m
    induction m using Nat.strongRecOn with
    | _ m ih =>
      rintro nn kk ou1 r1 ⟨j, hj, rfl, rfl, rfl, hrow⟩
      have hlen := sa_rl_len (sl8 qc b) (rp_ok (sl8 qd b) (sl8 qc b) qr (sl8 qa b) qu) j
      have hmem := sa_rl_mem (sl8 qc b) (rp_ok (sl8 qd b) (sl8 qc b) qr (sl8 qa b) qu) j
      refine sgX9_line0_9 F Rt h0 yt rT rH yw yp yg yu ysl yin yse ysp ypa rA yb ybd ybc yr rF rP ywd rS rN rO rW rL rD yd rI rX rY rZ rU yro yc ybe yco rC rV qb qd qc qr qa qu qo G K M N b Bc (fun nn kk ou1 r1 => ∃ m', m' < m ∧ ∃ j, j + m' = Bc ∧ kk = nI j ∧ nn = nI (sa_rl (sl8 qc b) (rp_ok (sl8 qd b) (sl8 qc b) qr (sl8 qa b) qu) j).length ∧ ou1 = nI (sa_out (rp_ok (sl8 qd b) (sl8 qc b) qr (sl8 qa b) qu) j) ∧ ∀ a, a < (sa_rl (sl8 qc b) (rp_ok (sl8 qd b) (sl8 qc b) qr (sl8 qa b) qu) j).length → r1 a = nI ((sa_rl (sl8 qc b) (rp_ok (sl8 qd b) (sl8 qc b) qr (sl8 qa b) qu) j).getD ((sa_rl (sl8 qc b) (rp_ok (sl8 qd b) (sl8 qc b) qr (sl8 qa b) qu) j).length - 1 - a) 0)) (fun nn kk ou1 r1 ⟨m', h1, h2⟩ => ih m' h1 nn kk ou1 r1 h2) (fun nn kk at_ ou1 r1' => nn = nI (sa_rl (sl8 qc b) (rp_ok (sl8 qd b) (sl8 qc b) qr (sl8 qa b) qu) j).length ∧ kk = nI j ∧ j < Bc ∧ (rp_ok (sl8 qd b) (sl8 qc b) qr (sl8 qa b) qu) j = true ∧ ou1 = nI (sa_out (rp_ok (sl8 qd b) (sl8 qc b) qr (sl8 qa b) qu) j) ∧ at_ = nI (sa_rl (sl8 qc b) (rp_ok (sl8 qd b) (sl8 qc b) qr (sl8 qa b) qu) j).length ∧ r1' = r1) ?_ _ _ _ r1 ?_
      · rintro nn kk at_ ou1 r1' ⟨rfl, rfl, hjB, hok, rfl, rfl, rfl⟩
        refine lpX9_line0_108 F Rt h0 yt rT rH yw yp yg yu ysl yin yse ysp ypa rA yb ybd ybc yr rF rP ywd rS rN rO rW rL rD yd rI rX rY rZ rU yro yc ybe yco rC rV qb qd qc qr qa qu qo G K M N b Bc (fun nn kk ou1 r1 => ∃ m', m' < m ∧ ∃ j, j + m' = Bc ∧ kk = nI j ∧ nn = nI (sa_rl (sl8 qc b) (rp_ok (sl8 qd b) (sl8 qc b) qr (sl8 qa b) qu) j).length ∧ ou1 = nI (sa_out (rp_ok (sl8 qd b) (sl8 qc b) qr (sl8 qa b) qu) j) ∧ ∀ a, a < (sa_rl (sl8 qc b) (rp_ok (sl8 qd b) (sl8 qc b) qr (sl8 qa b) qu) j).length → r1 a = nI ((sa_rl (sl8 qc b) (rp_ok (sl8 qd b) (sl8 qc b) qr (sl8 qa b) qu) j).getD ((sa_rl (sl8 qc b) (rp_ok (sl8 qd b) (sl8 qc b) qr (sl8 qa b) qu) j).length - 1 - a) 0)) (fun nn kk ou1 r1 ⟨m', h1, h2⟩ => ih m' h1 nn kk ou1 r1 h2) (fun z nn kk at_ ou1 r2 => nn = nI (sa_rl (sl8 qc b) (rp_ok (sl8 qd b) (sl8 qc b) qr (sl8 qa b) qu) j).length ∧ kk = nI j ∧ ou1 = nI (sa_out (rp_ok (sl8 qd b) (sl8 qc b) qr (sl8 qa b) qu) j) ∧ ∃ p, p = z ∧ at_ = nI p ∧ p ≤ (sa_rl (sl8 qc b) (rp_ok (sl8 qd b) (sl8 qc b) qr (sl8 qa b) qu) j).length ∧ (∀ a, p ≤ a → a < (sa_rl (sl8 qc b) (rp_ok (sl8 qd b) (sl8 qc b) qr (sl8 qa b) qu) j).length → (sl8 qc b) ((sa_rl (sl8 qc b) (rp_ok (sl8 qd b) (sl8 qc b) qr (sl8 qa b) qu) j).getD ((sa_rl (sl8 qc b) (rp_ok (sl8 qd b) (sl8 qc b) qr (sl8 qa b) qu) j).length - 1 - a) 0) < (sl8 qc b) j) ∧ (∀ a, a < p → r2 a = r1' a) ∧ (∀ a, p < a → a ≤ (sa_rl (sl8 qc b) (rp_ok (sl8 qd b) (sl8 qc b) qr (sl8 qa b) qu) j).length → r2 a = r1' (a - 1))) ?_ (sa_rl (sl8 qc b) (rp_ok (sl8 qd b) (sl8 qc b) qr (sl8 qa b) qu) j).length _ _ _ _ _ ⟨rfl, rfl, rfl, (sa_rl (sl8 qc b) (rp_ok (sl8 qd b) (sl8 qc b) qr (sl8 qa b) qu) j).length, rfl, rfl, Nat.le_refl _, fun a ha hb => absurd hb (by omega), fun a ha => rfl, fun a ha hb => absurd hb (by omega)⟩
        rintro z nn kk at_ ou1 r2 ⟨rfl, rfl, rfl, p, rfl, rfl, hp, h2, h3, h6⟩ TT rfl
        have done : (p = 0 ∨ ¬ (sl8 qc b) ((sa_rl (sl8 qc b) (rp_ok (sl8 qd b) (sl8 qc b) qr (sl8 qa b) qu) j).getD ((sa_rl (sl8 qc b) (rp_ok (sl8 qd b) (sl8 qc b) qr (sl8 qa b) qu) j).length - 1 - (p - 1)) 0) < (sl8 qc b) j) → ∀ f : Nat → Int32, f = upd r2 p (nI j) → ∀ x : Int32, x = nI (sa_rl (sl8 qc b) (rp_ok (sl8 qd b) (sl8 qc b) qr (sl8 qa b) qu) j).length + 1 → ∀ y : Int32, y = nI j + 1 → ∃ m', m' < m ∧ ∃ j_1, j_1 + m' = Bc ∧ y = nI j_1 ∧ x = nI (sa_rl (sl8 qc b) (rp_ok (sl8 qd b) (sl8 qc b) qr (sl8 qa b) qu) j_1).length ∧ nI (sa_out (rp_ok (sl8 qd b) (sl8 qc b) qr (sl8 qa b) qu) j) = nI (sa_out (rp_ok (sl8 qd b) (sl8 qc b) qr (sl8 qa b) qu) j_1) ∧ ∀ a, a < (sa_rl (sl8 qc b) (rp_ok (sl8 qd b) (sl8 qc b) qr (sl8 qa b) qu) j_1).length → f a = nI ((sa_rl (sl8 qc b) (rp_ok (sl8 qd b) (sl8 qc b) qr (sl8 qa b) qu) j_1).getD ((sa_rl (sl8 qc b) (rp_ok (sl8 qd b) (sl8 qc b) qr (sl8 qa b) qu) j_1).length - 1 - a) 0) := by
          rintro h1 f rfl x rfl y rfl
          have e1 : sa_rl (sl8 qc b) (rp_ok (sl8 qd b) (sl8 qc b) qr (sl8 qa b) qu) (j + 1) = sa_ins (sl8 qc b) j (sa_rl (sl8 qc b) (rp_ok (sl8 qd b) (sl8 qc b) qr (sl8 qa b) qu) j) := by rw [sa_rl, if_pos hok]
          have e2 : sa_out (rp_ok (sl8 qd b) (sl8 qc b) qr (sl8 qa b) qu) (j + 1) = sa_out (rp_ok (sl8 qd b) (sl8 qc b) qr (sl8 qa b) qu) j := by rw [sa_out, if_pos hok]
          refine ⟨m - 1, by omega, j + 1, by omega, nI_1 j, by rw [e1, sa_ins_len, nI_1], by rw [e2], ?_⟩
          rw [e1, sa_ins_len]
          exact rp_row_ins (p := p) (fun x hx => by have := hmem x hx; omega) rfl hrow hp h1 h2 (fun a ha => by rw [pk_un (by omega)]; exact h3 a ha) pk_us (fun a ha hb => by rw [pk_un (by omega)]; exact h6 a ha hb)
        refine ⟨fun q => ?_, fun q => ?_⟩
        · have h0 : p = 0 := by
            rcases Nat.eq_zero_or_pos p with h | h
            · exact h
            · exact absurd q (nI_nle h (by omega))
          rw [nI_clamp (by omega)]
          exact ⟨vp_in_nI (by omega) (by omega), done (Or.inl h0)⟩
        · have h0 : 0 < p := by
            rcases Nat.eq_zero_or_pos p with h | h
            · subst h; exact absurd (by decide) q
            · exact h
          obtain ⟨p, rfl⟩ : ∃ p', p = p' + 1 := ⟨p - 1, by omega⟩
          have hcx : (sa_rl (sl8 qc b) (rp_ok (sl8 qd b) (sl8 qc b) qr (sl8 qa b) qu) j).getD ((sa_rl (sl8 qc b) (rp_ok (sl8 qd b) (sl8 qc b) qr (sl8 qa b) qu) j).length - 1 - p) 0 < j := sa_rl_in (sl8 qc b) (rp_ok (sl8 qd b) (sl8 qc b) qr (sl8 qa b) qu) j _ (by omega)
          rw [nI_pred, nI_clamp (by omega), nI_clamp (by omega), h3 p (by omega), hrow p (by omega)]
          refine ⟨vp_in_nI (by omega) (by omega), j, (sa_rl (sl8 qc b) (rp_ok (sl8 qd b) (sl8 qc b) qr (sl8 qa b) qu) j).getD ((sa_rl (sl8 qc b) (rp_ok (sl8 qd b) (sl8 qc b) qr (sl8 qa b) qu) j).length - 1 - p) 0, ⟨hb, by omega, hcx, rfl, rfl⟩, fun r hr => ⟨fun q2 => ⟨vp_in_nI (by omega) (by omega), done (Or.inr ?_)⟩, fun q2 => ?_⟩⟩
          · rw [Nat.add_sub_cancel]
            intro hlt
            rw [if_pos hlt] at hr
            rw [hr] at q2
            exact absurd q2 (by decide)
          · have hlt : (sl8 qc b) ((sa_rl (sl8 qc b) (rp_ok (sl8 qd b) (sl8 qc b) qr (sl8 qa b) qu) j).getD ((sa_rl (sl8 qc b) (rp_ok (sl8 qd b) (sl8 qc b) qr (sl8 qa b) qu) j).length - 1 - p) 0) < (sl8 qc b) j := by
              apply Classical.byContradiction
              intro h
              rw [if_neg h] at hr
              exact q2 hr
            refine ⟨vp_in_nI (by omega) (by omega), ?_⟩
            rintro x rfl
            refine ⟨vp_in_nI (by omega) (by omega), ?_⟩
            rintro f rfl y rfl
            refine ⟨p, by omega, rfl, rfl, rfl, p, rfl, pk_m1 p, by omega, fun a ha hb => ?_, fun a ha => ?_, fun a ha hb => ?_⟩
            · by_cases e : a = p
              · rw [e]; exact hlt
              · exact h2 a (by omega) hb
            · rw [pk_un (by omega)]; exact h3 a (by omega)
            · by_cases e : a = p + 1
              · rw [e, pk_us, Nat.add_sub_cancel, hrow p (by omega)]
              · rw [pk_un e]; exact h6 a (by omega) hb
      · rw [nI_clamp (by omega), hq]
        refine ⟨hbin, fun q => ?_, fun q => ?_⟩
        · have h1 := pu_ge (by omega) q
          have e : j = Bc := by omega
          subst e
          exact ⟨_, (_, _), rfl, rfl, rfl, rfl, hrow⟩
        · have h1 := pu_lt (by omega) (by omega) q
          obtain ⟨v, hv, ev⟩ := hbd j h1
          have hij : vp_in (nI (8 * b + j)) 80 := vp_in_nI (by omega) (by omega)
          have e4 : ((4 : Int32).toNatClampNeg) = 4 := by decide
          have e3 : ((3 : Int32).toNatClampNeg) = 3 := by decide
          rw [pu_8, nI_clamp (by omega), ev, e4, e3]
          have hbad : (rp_ok (sl8 qd b) (sl8 qc b) qr (sl8 qa b) qu) j = false → ∀ (x : Int32), x = nI j + 1 → ∃ m', m' < m ∧ ∃ j_1, j_1 + m' = Bc ∧ x = nI j_1 ∧ nI (sa_rl (sl8 qc b) (rp_ok (sl8 qd b) (sl8 qc b) qr (sl8 qa b) qu) j).length = nI (sa_rl (sl8 qc b) (rp_ok (sl8 qd b) (sl8 qc b) qr (sl8 qa b) qu) j_1).length ∧ nI (sa_out (rp_ok (sl8 qd b) (sl8 qc b) qr (sl8 qa b) qu) j) + 1 = nI (sa_out (rp_ok (sl8 qd b) (sl8 qc b) qr (sl8 qa b) qu) j_1) ∧ ∀ a, a < (sa_rl (sl8 qc b) (rp_ok (sl8 qd b) (sl8 qc b) qr (sl8 qa b) qu) j_1).length → r1 a = nI ((sa_rl (sl8 qc b) (rp_ok (sl8 qd b) (sl8 qc b) qr (sl8 qa b) qu) j_1).getD ((sa_rl (sl8 qc b) (rp_ok (sl8 qd b) (sl8 qc b) qr (sl8 qa b) qu) j_1).length - 1 - a) 0) := by
            rintro h x rfl
            have a1 : sa_rl (sl8 qc b) (rp_ok (sl8 qd b) (sl8 qc b) qr (sl8 qa b) qu) (j + 1) = (sa_rl (sl8 qc b) (rp_ok (sl8 qd b) (sl8 qc b) qr (sl8 qa b) qu) j) := by rw [sa_rl, if_neg (by rw [h]; decide)]
            have a2 : sa_out (rp_ok (sl8 qd b) (sl8 qc b) qr (sl8 qa b) qu) (j + 1) = sa_out (rp_ok (sl8 qd b) (sl8 qc b) qr (sl8 qa b) qu) j + 1 := by rw [sa_out, if_neg (by rw [h]; decide)]
            exact ⟨m - 1, by omega, j + 1, by omega, nI_1 j, by rw [a1], by rw [a2, nI_1], by rw [a1]; exact hrow⟩
          have okd : (rp_ok (sl8 qd b) (sl8 qc b) qr (sl8 qa b) qu) j = (decide (¬ qc (8 * b + j) < qr 4) && (decide (¬ 0 < qa (8 * b + v)) && decide (¬ qu v < hd_l (qc (8 * b + j)) (qr 3)))) := by
            show (decide (¬ qc (8 * b + j) < qr 4) && (decide (¬ 0 < qa (8 * b + (qd (8 * b + j)).toNatClampNeg)) && decide (¬ qu (qd (8 * b + j)).toNatClampNeg < hd_l (qc (8 * b + j)) (qr 3)))) = _
            rw [ev, nI_clamp (by omega)]
          refine ⟨hij, ?_⟩
          rintro m1 rfl
          refine ⟨hij, ?_⟩
          rintro su rfl
          rw [pu_8, nI_clamp (by omega), nI_clamp (by omega)]
          refine ⟨vp_in_nI (n := 4) (N := 24) (by omega) (by omega), fun q2 => ?_, fun q2 => ⟨vp_in_nI (by omega) (by omega), fun q3 => ?_, fun q3 => ⟨vp_in_nI (by omega) (by omega), vp_in_nI (n := 3) (N := 24) (by omega) (by omega), fun r hr => ⟨fun q4 => ?_, fun q4 => ?_⟩⟩⟩⟩
          · have hk : (rp_ok (sl8 qd b) (sl8 qc b) qr (sl8 qa b) qu) j = false := by
              rw [okd, decide_eq_false (not_not_intro q2)]; rfl
            first | exact hbad hk | (rintro x rfl; exact hbad hk)
          · have hk : (rp_ok (sl8 qd b) (sl8 qc b) qr (sl8 qa b) qu) j = false := by
              rw [okd, decide_eq_false (p := ¬ 0 < qa (8 * b + v)) (not_not_intro q3)]; simp
            first | exact hbad hk | (rintro x rfl; exact hbad hk)
          · have hk : (rp_ok (sl8 qd b) (sl8 qc b) qr (sl8 qa b) qu) j = true := by
              rw [hr] at q4
              rw [okd, decide_eq_true q2, decide_eq_true q3, decide_eq_true (Int32.not_lt.mpr q4)]; rfl
            exact ⟨rfl, rfl, h1, hk, rfl, rfl, rfl⟩
          · have hk : (rp_ok (sl8 qd b) (sl8 qc b) qr (sl8 qa b) qu) j = false := by
              rw [hr] at q4
              rw [okd, decide_eq_false (p := ¬ qu v < hd_l (qc (8 * b + j)) (qr 3)) (not_not_intro (Int32.not_le.mp q4))]; simp
            first | exact hbad hk | (rintro x rfl; exact hbad hk)
  exact sgX9_line0_0 F Rt h0 yt rT rH yw yp yg yu ysl yin yse ysp ypa rA yb ybd ybc yr rF rP ywd rS rN rO rW rL rD yd rI rX rY rZ rU yro yc ybe yco rC rV qb qd qc qr qa qu qo G K M N b Bc _ (fun nn kk ou1 r1 => key Bc nn kk ou1 r1) ⟨0, by omega, nI_0.symm, rfl, rfl, fun a ha => absurd ha (by simp [sa_rl])⟩
abbrev rmX9_priceOf : Room := { frames := 0, cells := 0, slots := 0, locals := 0 }
set_option maxHeartbeats 4000000 in
set_option maxRecDepth 100000 in
theorem sgX9_priceOf_0 {B : pz_B} {g : pz_G} {wc : va_W} {Post : Option Value → va_W → Prop} (F : pz_F B cX9_priceOf 5 (some .int) yX9_priceOf.cls g rmX9_priceOf) (Rt : pz_Rt B g wc Post rmX9_priceOf) (x : Int32) (y : Int32) (h0 : Nat) (yt : Nat) (rT : Int32) (rH : Int32) (yw : Nat) (yp : Nat) (yg : Nat) (yu : Nat) (ysl : Nat) (yin : Nat) (yse : Nat) (ysp : Nat) (ypa : Nat) (rA : Int32) (yb : Nat) (ybd : Nat) (ybc : Nat) (yr : Nat) (rF : Int32) (rP : Int32) (ywd : Nat) (rS : Int32) (rN : Int32) (rO : Int32) (rW : Int32) (rL : Int32) (rD : Int32) (yd : Nat) (rI : Int32) (rX : Int32) (rY : Int32) (rZ : Int32) (rU : Int32) (yro : Nat) (yc : Nat) (ybe : Nat) (yco : Nat) (rC : Int64) (rV : Int64) (qr : Nat → Int32) (qc : Nat → Int32) (qo : Nat → Int32) (G : Nat) (K : Nat) (M : Nat) (N : Nat) (b : Nat) (f : Nat) (n : Nat)  (vc : vp_in 0 24 ∧ ((¬ (qr (0 : Int32).toNatClampNeg) = 0 → ((y ≤ (x + 1) → vp_in 4 24 ∧ (((qr (4 : Int32).toNatClampNeg) ≤ (0 : Int32) → (((1 : Int32) ≤ (0 : Int32) → Post (some (.int 0)) [(h0, .inr (8, [.ref yt, .int rT, .int rH, .int (nI G), .ref yw, .int (nI K), .ref yp, .ref yg, .int (nI M), .ref yu, .int (nI N), .ref ysl, .ref yin, .ref yse, .ref ysp, .ref ypa, .int rA, .ref yb, .ref ybd, .ref ybc, .ref yr, .int rF, .int rP, .ref ywd, .int rS, .int rN, .int rO, .int rW, .int rL, .int rD, .ref yd, .int rI, .int rX, .int rY, .int rZ, .int rU, .ref yro, .ref yc, .ref ybe, .ref yco, .long rC, .long rV])), (yr, .inl (g.2.1 1, 24, .inl qr)), (ybc, .inl (g.2.1 1, 80, .inl qc)), (yro, .inl (g.2.1 1, 8, .inl qo))]) ∧ (¬ (1 : Int32) ≤ (0 : Int32) → Post (some (.int 1)) [(h0, .inr (8, [.ref yt, .int rT, .int rH, .int (nI G), .ref yw, .int (nI K), .ref yp, .ref yg, .int (nI M), .ref yu, .int (nI N), .ref ysl, .ref yin, .ref yse, .ref ysp, .ref ypa, .int rA, .ref yb, .ref ybd, .ref ybc, .ref yr, .int rF, .int rP, .ref ywd, .int rS, .int rN, .int rO, .int rW, .int rL, .int rD, .ref yd, .int rI, .int rX, .int rY, .int rZ, .int rU, .ref yro, .ref yc, .ref ybe, .ref yco, .long rC, .long rV])), (yr, .inl (g.2.1 1, 24, .inl qr)), (ybc, .inl (g.2.1 1, 80, .inl qc)), (yro, .inl (g.2.1 1, 8, .inl qo))]))) ∧ (¬ (qr (4 : Int32).toNatClampNeg) ≤ (0 : Int32) → vp_in 4 24 ∧ ∀ x_8 : Int32, x_8 = (qr (4 : Int32).toNatClampNeg) → (((1 : Int32) ≤ x_8 → Post (some (.int x_8)) [(h0, .inr (8, [.ref yt, .int rT, .int rH, .int (nI G), .ref yw, .int (nI K), .ref yp, .ref yg, .int (nI M), .ref yu, .int (nI N), .ref ysl, .ref yin, .ref yse, .ref ysp, .ref ypa, .int rA, .ref yb, .ref ybd, .ref ybc, .ref yr, .int rF, .int rP, .ref ywd, .int rS, .int rN, .int rO, .int rW, .int rL, .int rD, .ref yd, .int rI, .int rX, .int rY, .int rZ, .int rU, .ref yro, .ref yc, .ref ybe, .ref yco, .long rC, .long rV])), (yr, .inl (g.2.1 1, 24, .inl qr)), (ybc, .inl (g.2.1 1, 80, .inl qc)), (yro, .inl (g.2.1 1, 8, .inl qo))]) ∧ (¬ (1 : Int32) ≤ x_8 → Post (some (.int 1)) [(h0, .inr (8, [.ref yt, .int rT, .int rH, .int (nI G), .ref yw, .int (nI K), .ref yp, .ref yg, .int (nI M), .ref yu, .int (nI N), .ref ysl, .ref yin, .ref yse, .ref ysp, .ref ypa, .int rA, .ref yb, .ref ybd, .ref ybc, .ref yr, .int rF, .int rP, .ref ywd, .int rS, .int rN, .int rO, .int rW, .int rL, .int rD, .ref yd, .int rI, .int rX, .int rY, .int rZ, .int rU, .ref yro, .ref yc, .ref ybe, .ref yco, .long rC, .long rV])), (yr, .inl (g.2.1 1, 24, .inl qr)), (ybc, .inl (g.2.1 1, 80, .inl qc)), (yro, .inl (g.2.1 1, 8, .inl qo))]))))) ∧ (¬ y ≤ (x + 1) → vp_in (x + 1) 8 ∧ vp_in ((8 * (nI b)) + (qo (x + 1).toNatClampNeg)) 80 ∧ ∀ x_12 : Int32, x_12 = (qc ((8 * (nI b)) + (qo (x + 1).toNatClampNeg)).toNatClampNeg) → vp_in 4 24 ∧ (((qr (4 : Int32).toNatClampNeg) ≤ x_12 → (((1 : Int32) ≤ x_12 → Post (some (.int x_12)) [(h0, .inr (8, [.ref yt, .int rT, .int rH, .int (nI G), .ref yw, .int (nI K), .ref yp, .ref yg, .int (nI M), .ref yu, .int (nI N), .ref ysl, .ref yin, .ref yse, .ref ysp, .ref ypa, .int rA, .ref yb, .ref ybd, .ref ybc, .ref yr, .int rF, .int rP, .ref ywd, .int rS, .int rN, .int rO, .int rW, .int rL, .int rD, .ref yd, .int rI, .int rX, .int rY, .int rZ, .int rU, .ref yro, .ref yc, .ref ybe, .ref yco, .long rC, .long rV])), (yr, .inl (g.2.1 1, 24, .inl qr)), (ybc, .inl (g.2.1 1, 80, .inl qc)), (yro, .inl (g.2.1 1, 8, .inl qo))]) ∧ (¬ (1 : Int32) ≤ x_12 → Post (some (.int 1)) [(h0, .inr (8, [.ref yt, .int rT, .int rH, .int (nI G), .ref yw, .int (nI K), .ref yp, .ref yg, .int (nI M), .ref yu, .int (nI N), .ref ysl, .ref yin, .ref yse, .ref ysp, .ref ypa, .int rA, .ref yb, .ref ybd, .ref ybc, .ref yr, .int rF, .int rP, .ref ywd, .int rS, .int rN, .int rO, .int rW, .int rL, .int rD, .ref yd, .int rI, .int rX, .int rY, .int rZ, .int rU, .ref yro, .ref yc, .ref ybe, .ref yco, .long rC, .long rV])), (yr, .inl (g.2.1 1, 24, .inl qr)), (ybc, .inl (g.2.1 1, 80, .inl qc)), (yro, .inl (g.2.1 1, 8, .inl qo))]))) ∧ (¬ (qr (4 : Int32).toNatClampNeg) ≤ x_12 → vp_in 4 24 ∧ ∀ x_17 : Int32, x_17 = (qr (4 : Int32).toNatClampNeg) → (((1 : Int32) ≤ x_17 → Post (some (.int x_17)) [(h0, .inr (8, [.ref yt, .int rT, .int rH, .int (nI G), .ref yw, .int (nI K), .ref yp, .ref yg, .int (nI M), .ref yu, .int (nI N), .ref ysl, .ref yin, .ref yse, .ref ysp, .ref ypa, .int rA, .ref yb, .ref ybd, .ref ybc, .ref yr, .int rF, .int rP, .ref ywd, .int rS, .int rN, .int rO, .int rW, .int rL, .int rD, .ref yd, .int rI, .int rX, .int rY, .int rZ, .int rU, .ref yro, .ref yc, .ref ybe, .ref yco, .long rC, .long rV])), (yr, .inl (g.2.1 1, 24, .inl qr)), (ybc, .inl (g.2.1 1, 80, .inl qc)), (yro, .inl (g.2.1 1, 8, .inl qo))]) ∧ (¬ (1 : Int32) ≤ x_17 → Post (some (.int 1)) [(h0, .inr (8, [.ref yt, .int rT, .int rH, .int (nI G), .ref yw, .int (nI K), .ref yp, .ref yg, .int (nI M), .ref yu, .int (nI N), .ref ysl, .ref yin, .ref yse, .ref ysp, .ref ypa, .int rA, .ref yb, .ref ybd, .ref ybc, .ref yr, .int rF, .int rP, .ref ywd, .int rS, .int rN, .int rO, .int rW, .int rL, .int rD, .ref yd, .int rI, .int rX, .int rY, .int rZ, .int rU, .ref yro, .ref yc, .ref ybe, .ref yco, .long rC, .long rV])), (yr, .inl (g.2.1 1, 24, .inl qr)), (ybc, .inl (g.2.1 1, 80, .inl qc)), (yro, .inl (g.2.1 1, 8, .inl qo))]))))))) ∧ ((qr (0 : Int32).toNatClampNeg) = 0 → vp_in x 8 ∧ vp_in ((8 * (nI b)) + (qo x.toNatClampNeg)) 80 ∧ ∀ x_21 : Int32, x_21 = (qc ((8 * (nI b)) + (qo x.toNatClampNeg)).toNatClampNeg) → Post (some (.int x_21)) [(h0, .inr (8, [.ref yt, .int rT, .int rH, .int (nI G), .ref yw, .int (nI K), .ref yp, .ref yg, .int (nI M), .ref yu, .int (nI N), .ref ysl, .ref yin, .ref yse, .ref ysp, .ref ypa, .int rA, .ref yb, .ref ybd, .ref ybc, .ref yr, .int rF, .int rP, .ref ywd, .int rS, .int rN, .int rO, .int rW, .int rL, .int rD, .ref yd, .int rI, .int rX, .int rY, .int rZ, .int rU, .ref yro, .ref yc, .ref ybe, .ref yco, .long rC, .long rV])), (yr, .inl (g.2.1 1, 24, .inl qr)), (ybc, .inl (g.2.1 1, 80, .inl qc)), (yro, .inl (g.2.1 1, 8, .inl qo))]))) : pz_At B 0 0 0 [(0, .ref h0), (1, .int (nI b)), (2, .int x), (3, .int y)] [] [(h0, .inr (8, [.ref yt, .int rT, .int rH, .int (nI G), .ref yw, .int (nI K), .ref yp, .ref yg, .int (nI M), .ref yu, .int (nI N), .ref ysl, .ref yin, .ref yse, .ref ysp, .ref ypa, .int rA, .ref yb, .ref ybd, .ref ybc, .ref yr, .int rF, .int rP, .ref ywd, .int rS, .int rN, .int rO, .int rW, .int rL, .int rD, .ref yd, .int rI, .int rX, .int rY, .int rZ, .int rU, .ref yro, .ref yc, .ref ybe, .ref yco, .long rC, .long rV])), (yr, .inl (g.2.1 1, 24, .inl qr)), (ybc, .inl (g.2.1 1, 80, .inl qc)), (yro, .inl (g.2.1 1, 8, .inl qo))] := by
  refine pz_aload_n 0 F rfl dX9_priceOf_0 rfl ?_
  refine pz_get (ci := 8) (C := RX9) (T := TX9) (N := 42) (v := .ref yr) 0 F rfl rfl pz_inX9 20 (by decide) pw_828 rfl dX9_priceOf_1 ?_
  refine pz_iconst (v := 0) F dX9_priceOf_4 rfl ?_
  obtain ⟨h_1, vc⟩ := vc
  refine pz_iaload 1 F rfl h_1 dX9_priceOf_5 ?_
  refine pz_if_ne (tgt := 26) F dX9_priceOf_6 (by decide) (fun q_2 => ?_) (fun q_2 => ?_)
  · replace vc := vc.1 q_2
    refine pz_iload_n 2 F rfl dX9_priceOf_26 rfl ?_
    refine pz_iconst (v := 1) F dX9_priceOf_27 rfl ?_
    refine pz_iadd F dX9_priceOf_28 ?_
    refine pz_iload_n 3 F rfl dX9_priceOf_29 rfl ?_
    refine pz_icmp_ge (tgt := 54) F dX9_priceOf_30 (by decide) (fun q_3 => ?_) (fun q_3 => ?_)
    · replace vc := vc.1 q_3
      refine pz_iconst (v := 0) F dX9_priceOf_54 rfl ?_
      refine pz_istore (lv' := [(4, .int 0), (0, .ref h0), (1, .int (nI b)), (2, .int x), (3, .int y)]) F dX9_priceOf_55 (by decide) rfl ?_
      refine pz_iload 0 F rfl dX9_priceOf_57 ?_
      refine pz_aload_n 1 F rfl dX9_priceOf_59 rfl ?_
      refine pz_get (ci := 8) (C := RX9) (T := TX9) (N := 42) (v := .ref yr) 0 F rfl rfl pz_inX9 20 (by decide) pw_828 rfl dX9_priceOf_60 ?_
      refine pz_iconst (v := 4) F dX9_priceOf_63 rfl ?_
      obtain ⟨h_4, vc⟩ := vc
      refine pz_iaload 1 F rfl h_4 dX9_priceOf_64 ?_
      refine pz_icmp_ge (tgt := 77) F dX9_priceOf_65 (by decide) (fun q_5 => ?_) (fun q_5 => ?_)
      · replace vc := vc.1 q_5
        refine pz_iload 0 F rfl dX9_priceOf_77 ?_
        refine pz_istore (lv' := [(4, .int 0), (0, .ref h0), (1, .int (nI b)), (2, .int x), (3, .int y)]) F dX9_priceOf_79 (by decide) rfl ?_
        refine pz_iload 0 F rfl dX9_priceOf_81 ?_
        refine pz_iconst (v := 1) F dX9_priceOf_83 rfl ?_
        refine pz_icmp_ge (tgt := 91) F dX9_priceOf_84 (by decide) (fun q_6 => ?_) (fun q_6 => ?_)
        · replace vc := vc.1 q_6
          refine pz_iload 0 F rfl dX9_priceOf_91 ?_
          exact pz_ireturn (w1 := [(h0, .inr (8, [.ref yt, .int rT, .int rH, .int (nI G), .ref yw, .int (nI K), .ref yp, .ref yg, .int (nI M), .ref yu, .int (nI N), .ref ysl, .ref yin, .ref yse, .ref ysp, .ref ypa, .int rA, .ref yb, .ref ybd, .ref ybc, .ref yr, .int rF, .int rP, .ref ywd, .int rS, .int rN, .int rO, .int rW, .int rL, .int rD, .ref yd, .int rI, .int rX, .int rY, .int rZ, .int rU, .ref yro, .ref yc, .ref ybe, .ref yco, .long rC, .long rV])), (yr, .inl (g.2.1 1, 24, .inl qr)), (ybc, .inl (g.2.1 1, 80, .inl qc)), (yro, .inl (g.2.1 1, 8, .inl qo))]) F Rt (by decide) (by decide) dX9_priceOf_93 [0, 1, 2, 3] rfl rfl rfl vc
        · replace vc := vc.2 q_6
          refine pz_iconst (v := 1) F dX9_priceOf_87 rfl ?_
          refine pz_goto (tgt := 93) F dX9_priceOf_88 (by decide) ?_
          exact pz_ireturn (w1 := [(h0, .inr (8, [.ref yt, .int rT, .int rH, .int (nI G), .ref yw, .int (nI K), .ref yp, .ref yg, .int (nI M), .ref yu, .int (nI N), .ref ysl, .ref yin, .ref yse, .ref ysp, .ref ypa, .int rA, .ref yb, .ref ybd, .ref ybc, .ref yr, .int rF, .int rP, .ref ywd, .int rS, .int rN, .int rO, .int rW, .int rL, .int rD, .ref yd, .int rI, .int rX, .int rY, .int rZ, .int rU, .ref yro, .ref yc, .ref ybe, .ref yco, .long rC, .long rV])), (yr, .inl (g.2.1 1, 24, .inl qr)), (ybc, .inl (g.2.1 1, 80, .inl qc)), (yro, .inl (g.2.1 1, 8, .inl qo))]) F Rt (by decide) (by decide) dX9_priceOf_93 [0, 1, 2, 3] rfl rfl rfl vc
      · replace vc := vc.2 q_5
        refine pz_aload_n 1 F rfl dX9_priceOf_68 rfl ?_
        refine pz_get (ci := 8) (C := RX9) (T := TX9) (N := 42) (v := .ref yr) 0 F rfl rfl pz_inX9 20 (by decide) pw_828 rfl dX9_priceOf_69 ?_
        refine pz_iconst (v := 4) F dX9_priceOf_72 rfl ?_
        obtain ⟨h_7, vc⟩ := vc
        refine pz_iaload 1 F rfl h_7 dX9_priceOf_73 ?_
        refine pz_goto (tgt := 79) F dX9_priceOf_74 (by decide) ?_
        refine pz_topi (fun x_8 ex_8 => ?_)
        replace vc := vc x_8 ex_8
        refine pz_istore (lv' := [(4, .int x_8), (0, .ref h0), (1, .int (nI b)), (2, .int x), (3, .int y)]) F dX9_priceOf_79 (by decide) rfl ?_
        refine pz_iload 0 F rfl dX9_priceOf_81 ?_
        refine pz_iconst (v := 1) F dX9_priceOf_83 rfl ?_
        refine pz_icmp_ge (tgt := 91) F dX9_priceOf_84 (by decide) (fun q_9 => ?_) (fun q_9 => ?_)
        · replace vc := vc.1 q_9
          refine pz_iload 0 F rfl dX9_priceOf_91 ?_
          exact pz_ireturn (w1 := [(h0, .inr (8, [.ref yt, .int rT, .int rH, .int (nI G), .ref yw, .int (nI K), .ref yp, .ref yg, .int (nI M), .ref yu, .int (nI N), .ref ysl, .ref yin, .ref yse, .ref ysp, .ref ypa, .int rA, .ref yb, .ref ybd, .ref ybc, .ref yr, .int rF, .int rP, .ref ywd, .int rS, .int rN, .int rO, .int rW, .int rL, .int rD, .ref yd, .int rI, .int rX, .int rY, .int rZ, .int rU, .ref yro, .ref yc, .ref ybe, .ref yco, .long rC, .long rV])), (yr, .inl (g.2.1 1, 24, .inl qr)), (ybc, .inl (g.2.1 1, 80, .inl qc)), (yro, .inl (g.2.1 1, 8, .inl qo))]) F Rt (by decide) (by decide) dX9_priceOf_93 [0, 1, 2, 3] rfl rfl rfl vc
        · replace vc := vc.2 q_9
          refine pz_iconst (v := 1) F dX9_priceOf_87 rfl ?_
          refine pz_goto (tgt := 93) F dX9_priceOf_88 (by decide) ?_
          exact pz_ireturn (w1 := [(h0, .inr (8, [.ref yt, .int rT, .int rH, .int (nI G), .ref yw, .int (nI K), .ref yp, .ref yg, .int (nI M), .ref yu, .int (nI N), .ref ysl, .ref yin, .ref yse, .ref ysp, .ref ypa, .int rA, .ref yb, .ref ybd, .ref ybc, .ref yr, .int rF, .int rP, .ref ywd, .int rS, .int rN, .int rO, .int rW, .int rL, .int rD, .ref yd, .int rI, .int rX, .int rY, .int rZ, .int rU, .ref yro, .ref yc, .ref ybe, .ref yco, .long rC, .long rV])), (yr, .inl (g.2.1 1, 24, .inl qr)), (ybc, .inl (g.2.1 1, 80, .inl qc)), (yro, .inl (g.2.1 1, 8, .inl qo))]) F Rt (by decide) (by decide) dX9_priceOf_93 [0, 1, 2, 3] rfl rfl rfl vc
    · replace vc := vc.2 q_3
      refine pz_aload_n 0 F rfl dX9_priceOf_33 rfl ?_
      refine pz_get (ci := 8) (C := RX9) (T := TX9) (N := 42) (v := .ref ybc) 0 F rfl rfl pz_inX9 19 (by decide) pw_827 rfl dX9_priceOf_34 ?_
      refine pz_bipush (v := 8) F dX9_priceOf_37 rfl ?_
      refine pz_iload_n 1 F rfl dX9_priceOf_39 rfl ?_
      refine pz_imul F dX9_priceOf_40 ?_
      refine pz_aload_n 0 F rfl dX9_priceOf_41 rfl ?_
      refine pz_get (ci := 8) (C := RX9) (T := TX9) (N := 42) (v := .ref yro) 0 F rfl rfl pz_inX9 36 (by decide) pw_844 rfl dX9_priceOf_42 ?_
      refine pz_iload_n 2 F rfl dX9_priceOf_45 rfl ?_
      refine pz_iconst (v := 1) F dX9_priceOf_46 rfl ?_
      refine pz_iadd F dX9_priceOf_47 ?_
      obtain ⟨h_10, vc⟩ := vc
      refine pz_iaload 3 F rfl h_10 dX9_priceOf_48 ?_
      refine pz_iadd F dX9_priceOf_49 ?_
      obtain ⟨h_11, vc⟩ := vc
      refine pz_iaload 2 F rfl h_11 dX9_priceOf_50 ?_
      refine pz_goto (tgt := 55) F dX9_priceOf_51 (by decide) ?_
      refine pz_topi (fun x_12 ex_12 => ?_)
      replace vc := vc x_12 ex_12
      refine pz_istore (lv' := [(4, .int x_12), (0, .ref h0), (1, .int (nI b)), (2, .int x), (3, .int y)]) F dX9_priceOf_55 (by decide) rfl ?_
      refine pz_iload 0 F rfl dX9_priceOf_57 ?_
      refine pz_aload_n 1 F rfl dX9_priceOf_59 rfl ?_
      refine pz_get (ci := 8) (C := RX9) (T := TX9) (N := 42) (v := .ref yr) 0 F rfl rfl pz_inX9 20 (by decide) pw_828 rfl dX9_priceOf_60 ?_
      refine pz_iconst (v := 4) F dX9_priceOf_63 rfl ?_
      obtain ⟨h_13, vc⟩ := vc
      refine pz_iaload 1 F rfl h_13 dX9_priceOf_64 ?_
      refine pz_icmp_ge (tgt := 77) F dX9_priceOf_65 (by decide) (fun q_14 => ?_) (fun q_14 => ?_)
      · replace vc := vc.1 q_14
        refine pz_iload 0 F rfl dX9_priceOf_77 ?_
        refine pz_istore (lv' := [(4, .int x_12), (0, .ref h0), (1, .int (nI b)), (2, .int x), (3, .int y)]) F dX9_priceOf_79 (by decide) rfl ?_
        refine pz_iload 0 F rfl dX9_priceOf_81 ?_
        refine pz_iconst (v := 1) F dX9_priceOf_83 rfl ?_
        refine pz_icmp_ge (tgt := 91) F dX9_priceOf_84 (by decide) (fun q_15 => ?_) (fun q_15 => ?_)
        · replace vc := vc.1 q_15
          refine pz_iload 0 F rfl dX9_priceOf_91 ?_
          exact pz_ireturn (w1 := [(h0, .inr (8, [.ref yt, .int rT, .int rH, .int (nI G), .ref yw, .int (nI K), .ref yp, .ref yg, .int (nI M), .ref yu, .int (nI N), .ref ysl, .ref yin, .ref yse, .ref ysp, .ref ypa, .int rA, .ref yb, .ref ybd, .ref ybc, .ref yr, .int rF, .int rP, .ref ywd, .int rS, .int rN, .int rO, .int rW, .int rL, .int rD, .ref yd, .int rI, .int rX, .int rY, .int rZ, .int rU, .ref yro, .ref yc, .ref ybe, .ref yco, .long rC, .long rV])), (yr, .inl (g.2.1 1, 24, .inl qr)), (ybc, .inl (g.2.1 1, 80, .inl qc)), (yro, .inl (g.2.1 1, 8, .inl qo))]) F Rt (by decide) (by decide) dX9_priceOf_93 [0, 1, 2, 3] rfl rfl rfl vc
        · replace vc := vc.2 q_15
          refine pz_iconst (v := 1) F dX9_priceOf_87 rfl ?_
          refine pz_goto (tgt := 93) F dX9_priceOf_88 (by decide) ?_
          exact pz_ireturn (w1 := [(h0, .inr (8, [.ref yt, .int rT, .int rH, .int (nI G), .ref yw, .int (nI K), .ref yp, .ref yg, .int (nI M), .ref yu, .int (nI N), .ref ysl, .ref yin, .ref yse, .ref ysp, .ref ypa, .int rA, .ref yb, .ref ybd, .ref ybc, .ref yr, .int rF, .int rP, .ref ywd, .int rS, .int rN, .int rO, .int rW, .int rL, .int rD, .ref yd, .int rI, .int rX, .int rY, .int rZ, .int rU, .ref yro, .ref yc, .ref ybe, .ref yco, .long rC, .long rV])), (yr, .inl (g.2.1 1, 24, .inl qr)), (ybc, .inl (g.2.1 1, 80, .inl qc)), (yro, .inl (g.2.1 1, 8, .inl qo))]) F Rt (by decide) (by decide) dX9_priceOf_93 [0, 1, 2, 3] rfl rfl rfl vc
      · replace vc := vc.2 q_14
        refine pz_aload_n 1 F rfl dX9_priceOf_68 rfl ?_
        refine pz_get (ci := 8) (C := RX9) (T := TX9) (N := 42) (v := .ref yr) 0 F rfl rfl pz_inX9 20 (by decide) pw_828 rfl dX9_priceOf_69 ?_
        refine pz_iconst (v := 4) F dX9_priceOf_72 rfl ?_
        obtain ⟨h_16, vc⟩ := vc
        refine pz_iaload 1 F rfl h_16 dX9_priceOf_73 ?_
        refine pz_goto (tgt := 79) F dX9_priceOf_74 (by decide) ?_
        refine pz_topi (fun x_17 ex_17 => ?_)
        replace vc := vc x_17 ex_17
        refine pz_istore (lv' := [(4, .int x_17), (0, .ref h0), (1, .int (nI b)), (2, .int x), (3, .int y)]) F dX9_priceOf_79 (by decide) rfl ?_
        refine pz_iload 0 F rfl dX9_priceOf_81 ?_
        refine pz_iconst (v := 1) F dX9_priceOf_83 rfl ?_
        refine pz_icmp_ge (tgt := 91) F dX9_priceOf_84 (by decide) (fun q_18 => ?_) (fun q_18 => ?_)
        · replace vc := vc.1 q_18
          refine pz_iload 0 F rfl dX9_priceOf_91 ?_
          exact pz_ireturn (w1 := [(h0, .inr (8, [.ref yt, .int rT, .int rH, .int (nI G), .ref yw, .int (nI K), .ref yp, .ref yg, .int (nI M), .ref yu, .int (nI N), .ref ysl, .ref yin, .ref yse, .ref ysp, .ref ypa, .int rA, .ref yb, .ref ybd, .ref ybc, .ref yr, .int rF, .int rP, .ref ywd, .int rS, .int rN, .int rO, .int rW, .int rL, .int rD, .ref yd, .int rI, .int rX, .int rY, .int rZ, .int rU, .ref yro, .ref yc, .ref ybe, .ref yco, .long rC, .long rV])), (yr, .inl (g.2.1 1, 24, .inl qr)), (ybc, .inl (g.2.1 1, 80, .inl qc)), (yro, .inl (g.2.1 1, 8, .inl qo))]) F Rt (by decide) (by decide) dX9_priceOf_93 [0, 1, 2, 3] rfl rfl rfl vc
        · replace vc := vc.2 q_18
          refine pz_iconst (v := 1) F dX9_priceOf_87 rfl ?_
          refine pz_goto (tgt := 93) F dX9_priceOf_88 (by decide) ?_
          exact pz_ireturn (w1 := [(h0, .inr (8, [.ref yt, .int rT, .int rH, .int (nI G), .ref yw, .int (nI K), .ref yp, .ref yg, .int (nI M), .ref yu, .int (nI N), .ref ysl, .ref yin, .ref yse, .ref ysp, .ref ypa, .int rA, .ref yb, .ref ybd, .ref ybc, .ref yr, .int rF, .int rP, .ref ywd, .int rS, .int rN, .int rO, .int rW, .int rL, .int rD, .ref yd, .int rI, .int rX, .int rY, .int rZ, .int rU, .ref yro, .ref yc, .ref ybe, .ref yco, .long rC, .long rV])), (yr, .inl (g.2.1 1, 24, .inl qr)), (ybc, .inl (g.2.1 1, 80, .inl qc)), (yro, .inl (g.2.1 1, 8, .inl qo))]) F Rt (by decide) (by decide) dX9_priceOf_93 [0, 1, 2, 3] rfl rfl rfl vc
  · replace vc := vc.2 q_2
    refine pz_aload_n 0 F rfl dX9_priceOf_9 rfl ?_
    refine pz_get (ci := 8) (C := RX9) (T := TX9) (N := 42) (v := .ref ybc) 0 F rfl rfl pz_inX9 19 (by decide) pw_827 rfl dX9_priceOf_10 ?_
    refine pz_bipush (v := 8) F dX9_priceOf_13 rfl ?_
    refine pz_iload_n 1 F rfl dX9_priceOf_15 rfl ?_
    refine pz_imul F dX9_priceOf_16 ?_
    refine pz_aload_n 0 F rfl dX9_priceOf_17 rfl ?_
    refine pz_get (ci := 8) (C := RX9) (T := TX9) (N := 42) (v := .ref yro) 0 F rfl rfl pz_inX9 36 (by decide) pw_844 rfl dX9_priceOf_18 ?_
    refine pz_iload_n 2 F rfl dX9_priceOf_21 rfl ?_
    obtain ⟨h_19, vc⟩ := vc
    refine pz_iaload 3 F rfl h_19 dX9_priceOf_22 ?_
    refine pz_iadd F dX9_priceOf_23 ?_
    obtain ⟨h_20, vc⟩ := vc
    refine pz_iaload 2 F rfl h_20 dX9_priceOf_24 ?_
    refine pz_topi (fun x_21 ex_21 => ?_)
    replace vc := vc x_21 ex_21
    exact pz_ireturn (w1 := [(h0, .inr (8, [.ref yt, .int rT, .int rH, .int (nI G), .ref yw, .int (nI K), .ref yp, .ref yg, .int (nI M), .ref yu, .int (nI N), .ref ysl, .ref yin, .ref yse, .ref ysp, .ref ypa, .int rA, .ref yb, .ref ybd, .ref ybc, .ref yr, .int rF, .int rP, .ref ywd, .int rS, .int rN, .int rO, .int rW, .int rL, .int rD, .ref yd, .int rI, .int rX, .int rY, .int rZ, .int rU, .ref yro, .ref yc, .ref ybe, .ref yco, .long rC, .long rV])), (yr, .inl (g.2.1 1, 24, .inl qr)), (ybc, .inl (g.2.1 1, 80, .inl qc)), (yro, .inl (g.2.1 1, 8, .inl qo))]) F Rt (by decide) (by decide) dX9_priceOf_25 [0, 1, 2, 3] rfl rfl rfl vc
set_option maxHeartbeats 4000000 in
set_option maxRecDepth 100000 in
theorem ctX9_priceOf (l : Launch) (g : pz_G) (x : Int32) (y : Int32) (h0 : Nat) (yt : Nat) (rT : Int32) (rH : Int32) (yw : Nat) (yp : Nat) (yg : Nat) (yu : Nat) (ysl : Nat) (yin : Nat) (yse : Nat) (ysp : Nat) (ypa : Nat) (rA : Int32) (yb : Nat) (ybd : Nat) (ybc : Nat) (yr : Nat) (rF : Int32) (rP : Int32) (ywd : Nat) (rS : Int32) (rN : Int32) (rO : Int32) (rW : Int32) (rL : Int32) (rD : Int32) (yd : Nat) (rI : Int32) (rX : Int32) (rY : Int32) (rZ : Int32) (rU : Int32) (yro : Nat) (yc : Nat) (ybe : Nat) (yco : Nat) (rC : Int64) (rV : Int64) (qr : Nat → Int32) (qc : Nat → Int32) (qo : Nat → Int32) (G : Nat) (K : Nat) (M : Nat) (N : Nat) (b : Nat) (f : Nat) (n : Nat) (hpre : b < 10 ∧ f < n ∧ n ≤ 8 ∧ (∀ a, a < n → ∃ v, v < 8 ∧ qo a = nI v) ∧ x = nI f ∧ y = nI n) : pz_Ct l g yX9_priceOf cX9_priceOf 5 (some .int) rmX9_priceOf [.ref h0, .int (nI b), .int x, .int y] [(h0, .inr (8, [.ref yt, .int rT, .int rH, .int (nI G), .ref yw, .int (nI K), .ref yp, .ref yg, .int (nI M), .ref yu, .int (nI N), .ref ysl, .ref yin, .ref yse, .ref ysp, .ref ypa, .int rA, .ref yb, .ref ybd, .ref ybc, .ref yr, .int rF, .int rP, .ref ywd, .int rS, .int rN, .int rO, .int rW, .int rL, .int rD, .ref yd, .int rI, .int rX, .int rY, .int rZ, .int rU, .ref yro, .ref yc, .ref ybe, .ref yco, .long rC, .long rV])), (yr, .inl (g.2.1 1, 24, .inl qr)), (ybc, .inl (g.2.1 1, 80, .inl qc)), (yro, .inl (g.2.1 1, 8, .inl qo))] (pz_pi (fun (r : Int32) (u : Unit) => r = rp_ask qr (fun a => qc (8 * b + (qo a).toNatClampNeg)) f n) (fun (u : Unit) => [(h0, .inr (8, [.ref yt, .int rT, .int rH, .int (nI G), .ref yw, .int (nI K), .ref yp, .ref yg, .int (nI M), .ref yu, .int (nI N), .ref ysl, .ref yin, .ref yse, .ref ysp, .ref ypa, .int rA, .ref yb, .ref ybd, .ref ybc, .ref yr, .int rF, .int rP, .ref ywd, .int rS, .int rN, .int rO, .int rW, .int rL, .int rD, .ref yd, .int rI, .int rX, .int rY, .int rZ, .int rU, .ref yro, .ref yc, .ref ybe, .ref yco, .long rC, .long rV])), (yr, .inl (g.2.1 1, 24, .inl qr)), (ybc, .inl (g.2.1 1, 80, .inl qc)), (yro, .inl (g.2.1 1, 8, .inl qo))])) := by
  refine pz_ofAt (by decide +kernel) (Nat.le_of_ble_eq_true rfl) (fun B F Rt hme => ?_)
  obtain ⟨hb, hfn, hn8, hro, h1, h2⟩ := hpre
  subst h1; subst h2
  obtain ⟨v, hv, ev⟩ := hro f (by omega)
  have e0 : ((0 : Int32).toNatClampNeg) = 0 := by decide
  have e4 : ((4 : Int32).toNatClampNeg) = 4 := by decide
  have i4 : vp_in (4 : Int32) 24 := vp_in_nI (n := 4) (N := 24) (by omega) (by omega)
  have i0 : vp_in (0 : Int32) 24 := vp_in_nI (n := 0) (N := 24) (by omega) (by omega)
  refine sgX9_priceOf_0 F Rt (nI f) (nI n) h0 yt rT rH yw yp yg yu ysl yin yse ysp ypa rA yb ybd ybc yr rF rP ywd rS rN rO rW rL rD yd rI rX rY rZ rU yro yc ybe yco rC rV qr qc qo G K M N b f n ?_
  clear F Rt hme
  rw [e0, e4, nI_1]
  refine ⟨i0, fun q => ?_, fun q => ⟨vp_in_nI (by omega) (by omega), ?_⟩⟩
  · refine ⟨fun q2 => ?_, fun q2 => ?_⟩
    · have h1 := pu_ge (by omega) q2
      have hno : ¬ f + 1 < n := by omega
      refine ⟨i4, fun q3 => ⟨fun q4 => ⟨_, (), rfl, rfl, ?_⟩, fun q4 => ⟨_, (), rfl, rfl, ?_⟩⟩, fun q3 => ⟨i4, ?_⟩⟩
      · exact absurd q4 (by decide)
      · unfold rp_ask
        rw [if_neg q, if_neg hno, if_neg (Int32.not_lt.mpr q3), if_pos (by decide)]
      · rintro z rfl
        refine ⟨fun q4 => ⟨_, (), rfl, rfl, ?_⟩, fun q4 => ⟨_, (), rfl, rfl, ?_⟩⟩
        · unfold rp_ask
          rw [if_neg q, if_neg hno, if_pos (Int32.not_le.mp q3), if_neg (Int32.not_lt.mpr q4)]
        · unfold rp_ask
          rw [if_neg q, if_neg hno, if_pos (Int32.not_le.mp q3), if_pos (Int32.not_le.mp q4)]
    · have h1 := pu_lt (n := n) (j := f + 1) (by omega) (by omega) q2
      obtain ⟨v2, hv2, ev2⟩ := hro (f + 1) (by omega)
      rw [nI_clamp (by omega), ev2, pu_8, nI_clamp (by omega)]
      have ec : (fun a => qc (8 * b + (qo a).toNatClampNeg)) (f + 1) = qc (8 * b + v2) := by show qc (8 * b + (qo (f + 1)).toNatClampNeg) = _; rw [ev2, nI_clamp (by omega)]
      refine ⟨vp_in_nI (by omega) (by omega), vp_in_nI (by omega) (by omega), ?_⟩
      rintro z rfl
      refine ⟨i4, fun q3 => ⟨fun q4 => ⟨_, (), rfl, rfl, ?_⟩, fun q4 => ⟨_, (), rfl, rfl, ?_⟩⟩, fun q3 => ⟨i4, ?_⟩⟩
      · unfold rp_ask
        rw [if_neg q, if_pos h1, ec, if_neg (Int32.not_lt.mpr q3), if_neg (Int32.not_lt.mpr q4)]
      · unfold rp_ask
        rw [if_neg q, if_pos h1, ec, if_neg (Int32.not_lt.mpr q3), if_pos (Int32.not_le.mp q4)]
      · rintro z rfl
        refine ⟨fun q4 => ⟨_, (), rfl, rfl, ?_⟩, fun q4 => ⟨_, (), rfl, rfl, ?_⟩⟩
        · unfold rp_ask
          rw [if_neg q, if_pos h1, ec, if_pos (Int32.not_le.mp q3), if_neg (Int32.not_lt.mpr q4)]
        · unfold rp_ask
          rw [if_neg q, if_pos h1, ec, if_pos (Int32.not_le.mp q3), if_pos (Int32.not_le.mp q4)]
  · rw [nI_clamp (by omega), ev, pu_8, nI_clamp (by omega)]
    refine ⟨vp_in_nI (by omega) (by omega), ?_⟩
    rintro z rfl
    refine ⟨_, (), rfl, rfl, ?_⟩
    unfold rp_ask
    rw [if_pos q]
    show _ = qc (8 * b + (qo f).toNatClampNeg)
    rw [ev, nI_clamp (by omega)]
