
abbrev rmX9_chances : Room := { frames := 1, cells := 0, slots := 0, locals := 22 }
abbrev paX9_chances_5 (B : pz_B) (g : pz_G) (h0 : Nat) (yt : Nat) (rT : Int32) (rH : Int32) (yw : Nat) (yp : Nat) (yg : Nat) (yu : Nat) (ysl : Nat) (yin : Nat) (yse : Nat) (ysp : Nat) (ypa : Nat) (rA : Int32) (yb : Nat) (ybd : Nat) (ybc : Nat) (yr : Nat) (rF : Int32) (rP : Int32) (ywd : Nat) (rS : Int32) (rN : Int32) (rO : Int32) (rW : Int32) (rL : Int32) (rD : Int32) (yd : Nat) (rI : Int32) (rX : Int32) (rY : Int32) (rZ : Int32) (rU : Int32) (yro : Nat) (yc : Nat) (ybe : Nat) (yco : Nat) (rC : Int64) (rV : Int64) (qe : Nat → Int32) (qi : Nat → Int32) (qp : Nat → Int32) (qg : Nat → Int32) (qC : Nat → Int64) (G : Nat) (K : Nat) (M : Nat) (N : Nat) (b : Nat) (s : Nat) (ki : Int32) (ao1 : Int64) (od1 : Nat → Int64) : Prop := pz_At B 0 0 5 [(0, .ref h0), (1, .int (nI b)), (2, .long ao1), (4, .int ki)] [] [(h0, .inr (8, [.ref yt, .int rT, .int rH, .int (nI G), .ref yw, .int (nI K), .ref yp, .ref yg, .int (nI M), .ref yu, .int (nI N), .ref ysl, .ref yin, .ref yse, .ref ysp, .ref ypa, .int rA, .ref yb, .ref ybd, .ref ybc, .ref yr, .int rF, .int rP, .ref ywd, .int rS, .int rN, .int rO, .int rW, .int rL, .int rD, .ref yd, .int rI, .int rX, .int rY, .int rZ, .int rU, .ref yro, .ref yc, .ref ybe, .ref yco, .long rC, .long rV])), (yse, .inl (g.2.1 1, 10, .inl qe)), (yin, .inl (g.2.1 1, 10, .inl qi)), (yp, .inl (g.2.1 1, 3, .inl qp)), (yg, .inl (g.2.1 1, 12, .inl qg)), (yc, .inl (g.2.1 2, 3, .inr (.inl od1)))]
abbrev paX9_chances_32 (B : pz_B) (g : pz_G) (h0 : Nat) (yt : Nat) (rT : Int32) (rH : Int32) (yw : Nat) (yp : Nat) (yg : Nat) (yu : Nat) (ysl : Nat) (yin : Nat) (yse : Nat) (ysp : Nat) (ypa : Nat) (rA : Int32) (yb : Nat) (ybd : Nat) (ybc : Nat) (yr : Nat) (rF : Int32) (rP : Int32) (ywd : Nat) (rS : Int32) (rN : Int32) (rO : Int32) (rW : Int32) (rL : Int32) (rD : Int32) (yd : Nat) (rI : Int32) (rX : Int32) (rY : Int32) (rZ : Int32) (rU : Int32) (yro : Nat) (yc : Nat) (ybe : Nat) (yco : Nat) (rC : Int64) (rV : Int64) (qe : Nat → Int32) (qi : Nat → Int32) (qp : Nat → Int32) (qg : Nat → Int32) (qC : Nat → Int64) (G : Nat) (K : Nat) (M : Nat) (N : Nat) (b : Nat) (s : Nat) (ki : Int32) (s1 : Int32) (ao1 : Int64) (od1 : Nat → Int64) : Prop := pz_At B 0 0 32 [(0, .ref h0), (1, .int (nI b)), (2, .long ao1), (4, .int ki), (5, .int s1)] [] [(h0, .inr (8, [.ref yt, .int rT, .int rH, .int (nI G), .ref yw, .int (nI K), .ref yp, .ref yg, .int (nI M), .ref yu, .int (nI N), .ref ysl, .ref yin, .ref yse, .ref ysp, .ref ypa, .int rA, .ref yb, .ref ybd, .ref ybc, .ref yr, .int rF, .int rP, .ref ywd, .int rS, .int rN, .int rO, .int rW, .int rL, .int rD, .ref yd, .int rI, .int rX, .int rY, .int rZ, .int rU, .ref yro, .ref yc, .ref ybe, .ref yco, .long rC, .long rV])), (yse, .inl (g.2.1 1, 10, .inl qe)), (yin, .inl (g.2.1 1, 10, .inl qi)), (yp, .inl (g.2.1 1, 3, .inl qp)), (yg, .inl (g.2.1 1, 12, .inl qg)), (yc, .inl (g.2.1 2, 3, .inr (.inl od1)))]
set_option maxHeartbeats 4000000 in
set_option maxRecDepth 100000 in
theorem sgX9_chances_0 {B : pz_B} {g : pz_G} {wc : va_W} {Post : Option Value → va_W → Prop} (F : pz_F B cX9_chances 6 (some .long) yX9_chances.cls g rmX9_chances) (Rt : pz_Rt B g wc Post rmX9_chances) (h0 : Nat) (yt : Nat) (rT : Int32) (rH : Int32) (yw : Nat) (yp : Nat) (yg : Nat) (yu : Nat) (ysl : Nat) (yin : Nat) (yse : Nat) (ysp : Nat) (ypa : Nat) (rA : Int32) (yb : Nat) (ybd : Nat) (ybc : Nat) (yr : Nat) (rF : Int32) (rP : Int32) (ywd : Nat) (rS : Int32) (rN : Int32) (rO : Int32) (rW : Int32) (rL : Int32) (rD : Int32) (yd : Nat) (rI : Int32) (rX : Int32) (rY : Int32) (rZ : Int32) (rU : Int32) (yro : Nat) (yc : Nat) (ybe : Nat) (yco : Nat) (rC : Int64) (rV : Int64) (qe : Nat → Int32) (qi : Nat → Int32) (qp : Nat → Int32) (qg : Nat → Int32) (qC : Nat → Int64) (G : Nat) (K : Nat) (M : Nat) (N : Nat) (b : Nat) (s : Nat) (T5 : Int32 → Int64 → (Nat → Int64) → Prop) (hT5 : ∀ (ki : Int32) (ao1 : Int64) (od1 : Nat → Int64), T5 ki ao1 od1 → paX9_chances_5 B g h0 yt rT rH yw yp yg yu ysl yin yse ysp ypa rA yb ybd ybc yr rF rP ywd rS rN rO rW rL rD yd rI rX rY rZ rU yro yc ybe yco rC rV qe qi qp qg qC G K M N b s ki ao1 od1)  (vc : T5 0 0 qC) : pz_At B 0 0 0 [(0, .ref h0), (1, .int (nI b))] [] [(h0, .inr (8, [.ref yt, .int rT, .int rH, .int (nI G), .ref yw, .int (nI K), .ref yp, .ref yg, .int (nI M), .ref yu, .int (nI N), .ref ysl, .ref yin, .ref yse, .ref ysp, .ref ypa, .int rA, .ref yb, .ref ybd, .ref ybc, .ref yr, .int rF, .int rP, .ref ywd, .int rS, .int rN, .int rO, .int rW, .int rL, .int rD, .ref yd, .int rI, .int rX, .int rY, .int rZ, .int rU, .ref yro, .ref yc, .ref ybe, .ref yco, .long rC, .long rV])), (yse, .inl (g.2.1 1, 10, .inl qe)), (yin, .inl (g.2.1 1, 10, .inl qi)), (yp, .inl (g.2.1 1, 3, .inl qp)), (yg, .inl (g.2.1 1, 12, .inl qg)), (yc, .inl (g.2.1 2, 3, .inr (.inl qC)))] := by
  refine pz_lconst (v := 0) F dX9_chances_0 rfl ?_
  refine pz_lstore_n (lv' := [(2, .long 0), (0, .ref h0), (1, .int (nI b))]) F dX9_chances_1 rfl (by decide) rfl ?_
  refine pz_iconst (v := 0) F dX9_chances_2 rfl ?_
  refine pz_istore (lv' := [(4, .int 0), (2, .long 0), (0, .ref h0), (1, .int (nI b))]) F dX9_chances_3 (by decide) rfl ?_
  exact pz_sub [2, 3, 1, 0] [0, 1, 2, 3, 4, 5] rfl rfl rfl (hT5 0 0 qC vc)
set_option maxHeartbeats 4000000 in
set_option maxRecDepth 100000 in
theorem sgX9_chances_5 {B : pz_B} {g : pz_G} {wc : va_W} {Post : Option Value → va_W → Prop} (F : pz_F B cX9_chances 6 (some .long) yX9_chances.cls g rmX9_chances) (Rt : pz_Rt B g wc Post rmX9_chances) (h0 : Nat) (yt : Nat) (rT : Int32) (rH : Int32) (yw : Nat) (yp : Nat) (yg : Nat) (yu : Nat) (ysl : Nat) (yin : Nat) (yse : Nat) (ysp : Nat) (ypa : Nat) (rA : Int32) (yb : Nat) (ybd : Nat) (ybc : Nat) (yr : Nat) (rF : Int32) (rP : Int32) (ywd : Nat) (rS : Int32) (rN : Int32) (rO : Int32) (rW : Int32) (rL : Int32) (rD : Int32) (yd : Nat) (rI : Int32) (rX : Int32) (rY : Int32) (rZ : Int32) (rU : Int32) (yro : Nat) (yc : Nat) (ybe : Nat) (yco : Nat) (rC : Int64) (rV : Int64) (qe : Nat → Int32) (qi : Nat → Int32) (qp : Nat → Int32) (qg : Nat → Int32) (qC : Nat → Int64) (G : Nat) (K : Nat) (M : Nat) (N : Nat) (b : Nat) (s : Nat) (T32 : Int32 → Int32 → Int64 → (Nat → Int64) → Prop) (hT32 : ∀ (ki : Int32) (s1 : Int32) (ao1 : Int64) (od1 : Nat → Int64), T32 ki s1 ao1 od1 → paX9_chances_32 B g h0 yt rT rH yw yp yg yu ysl yin yse ysp ypa rA yb ybd ybc yr rF rP ywd rS rN rO rW rL rD yd rI rX rY rZ rU yro yc ybe yco rC rV qe qi qp qg qC G K M N b s ki s1 ao1 od1) (ki : Int32) (ao1 : Int64) (od1 : Nat → Int64) (vc : (((nI K) ≤ ki → Post (some (.long ao1)) [(h0, .inr (8, [.ref yt, .int rT, .int rH, .int (nI G), .ref yw, .int (nI K), .ref yp, .ref yg, .int (nI M), .ref yu, .int (nI N), .ref ysl, .ref yin, .ref yse, .ref ysp, .ref ypa, .int rA, .ref yb, .ref ybd, .ref ybc, .ref yr, .int rF, .int rP, .ref ywd, .int rS, .int rN, .int rO, .int rW, .int rL, .int rD, .ref yd, .int rI, .int rX, .int rY, .int rZ, .int rU, .ref yro, .ref yc, .ref ybe, .ref yco, .long rC, .long rV])), (yse, .inl (g.2.1 1, 10, .inl qe)), (yin, .inl (g.2.1 1, 10, .inl qi)), (yp, .inl (g.2.1 1, 3, .inl qp)), (yg, .inl (g.2.1 1, 12, .inl qg)), (yc, .inl (g.2.1 2, 3, .inr (.inl od1)))]) ∧ (¬ (nI K) ≤ ki → vp_in ki 3 ∧ ∀ x_3 : Int64, x_3 = ((qp ki.toNatClampNeg).toInt64) → vp_in ki 3 ∧ ∀ f_5 : Nat → Int64, f_5 = vp_updL od1 ki.toNatClampNeg x_3 → T32 ki 0 ao1 f_5))) : pz_At B 0 0 5 [(0, .ref h0), (1, .int (nI b)), (2, .long ao1), (4, .int ki)] [] [(h0, .inr (8, [.ref yt, .int rT, .int rH, .int (nI G), .ref yw, .int (nI K), .ref yp, .ref yg, .int (nI M), .ref yu, .int (nI N), .ref ysl, .ref yin, .ref yse, .ref ysp, .ref ypa, .int rA, .ref yb, .ref ybd, .ref ybc, .ref yr, .int rF, .int rP, .ref ywd, .int rS, .int rN, .int rO, .int rW, .int rL, .int rD, .ref yd, .int rI, .int rX, .int rY, .int rZ, .int rU, .ref yro, .ref yc, .ref ybe, .ref yco, .long rC, .long rV])), (yse, .inl (g.2.1 1, 10, .inl qe)), (yin, .inl (g.2.1 1, 10, .inl qi)), (yp, .inl (g.2.1 1, 3, .inl qp)), (yg, .inl (g.2.1 1, 12, .inl qg)), (yc, .inl (g.2.1 2, 3, .inr (.inl od1)))] := by
  refine pz_iload 3 F rfl dX9_chances_5 ?_
  refine pz_aload_n 0 F rfl dX9_chances_7 rfl ?_
  refine pz_get (ci := 8) (C := RX9) (T := TX9) (N := 42) (v := .int (nI K)) 0 F rfl rfl pz_inX9 5 (by decide) pw_813 rfl dX9_chances_8 ?_
  refine pz_icmp_ge (tgt := 93) F dX9_chances_11 (by decide) (fun q_1 => ?_) (fun q_1 => ?_)
  · replace vc := vc.1 q_1
    refine pz_lload_n 2 F rfl dX9_chances_93 rfl ?_
    exact pz_lreturn (w1 := [(h0, .inr (8, [.ref yt, .int rT, .int rH, .int (nI G), .ref yw, .int (nI K), .ref yp, .ref yg, .int (nI M), .ref yu, .int (nI N), .ref ysl, .ref yin, .ref yse, .ref ysp, .ref ypa, .int rA, .ref yb, .ref ybd, .ref ybc, .ref yr, .int rF, .int rP, .ref ywd, .int rS, .int rN, .int rO, .int rW, .int rL, .int rD, .ref yd, .int rI, .int rX, .int rY, .int rZ, .int rU, .ref yro, .ref yc, .ref ybe, .ref yco, .long rC, .long rV])), (yse, .inl (g.2.1 1, 10, .inl qe)), (yin, .inl (g.2.1 1, 10, .inl qi)), (yp, .inl (g.2.1 1, 3, .inl qp)), (yg, .inl (g.2.1 1, 12, .inl qg)), (yc, .inl (g.2.1 2, 3, .inr (.inl od1)))]) F Rt (by decide) (by decide) dX9_chances_94 [0, 1, 2, 3, 4, 5] rfl rfl vc
  · replace vc := vc.2 q_1
    refine pz_aload_n 0 F rfl dX9_chances_14 rfl ?_
    refine pz_get (ci := 8) (C := RX9) (T := TX9) (N := 42) (v := .ref yc) 0 F rfl rfl pz_inX9 37 (by decide) pw_845 rfl dX9_chances_15 ?_
    refine pz_iload 3 F rfl dX9_chances_18 ?_
    refine pz_aload_n 0 F rfl dX9_chances_20 rfl ?_
    refine pz_get (ci := 8) (C := RX9) (T := TX9) (N := 42) (v := .ref yp) 0 F rfl rfl pz_inX9 6 (by decide) pw_814 rfl dX9_chances_21 ?_
    refine pz_iload 3 F rfl dX9_chances_24 ?_
    obtain ⟨h_2, vc⟩ := vc
    refine pz_iaload 3 F rfl h_2 dX9_chances_26 ?_
    refine pz_i2l F dX9_chances_27 ?_
    refine pz_topl (fun x_3 ex_3 => ?_)
    replace vc := vc x_3 ex_3
    obtain ⟨h_4, vc⟩ := vc
    obtain ⟨f_5, ef_5⟩ : ∃ z : Nat → Int64, z = vp_updL od1 ki.toNatClampNeg x_3 := ⟨_, rfl⟩
    replace vc := vc f_5 ef_5
    refine pz_lastore (ws' := [(h0, .inr (8, [.ref yt, .int rT, .int rH, .int (nI G), .ref yw, .int (nI K), .ref yp, .ref yg, .int (nI M), .ref yu, .int (nI N), .ref ysl, .ref yin, .ref yse, .ref ysp, .ref ypa, .int rA, .ref yb, .ref ybd, .ref ybc, .ref yr, .int rF, .int rP, .ref ywd, .int rS, .int rN, .int rO, .int rW, .int rL, .int rD, .ref yd, .int rI, .int rX, .int rY, .int rZ, .int rU, .ref yro, .ref yc, .ref ybe, .ref yco, .long rC, .long rV])), (yse, .inl (g.2.1 1, 10, .inl qe)), (yin, .inl (g.2.1 1, 10, .inl qi)), (yp, .inl (g.2.1 1, 3, .inl qp)), (yg, .inl (g.2.1 1, 12, .inl qg)), (yc, .inl (g.2.1 2, 3, .inr (.inl f_5)))]) F 5 rfl h_4 dX9_chances_28 (by rw [ef_5]; rfl) ?_
    refine pz_iconst (v := 0) F dX9_chances_29 rfl ?_
    refine pz_istore (lv' := [(5, .int 0), (0, .ref h0), (1, .int (nI b)), (2, .long ao1), (4, .int ki)]) F dX9_chances_30 (by decide) rfl ?_
    exact pz_sub [1, 2, 3, 4, 0] [0, 1, 2, 3, 4, 5] rfl rfl rfl (hT32 ki 0 ao1 f_5 vc)
set_option maxHeartbeats 4000000 in
set_option maxRecDepth 100000 in
theorem sgX9_chances_32 {B : pz_B} {g : pz_G} {wc : va_W} {Post : Option Value → va_W → Prop} (F : pz_F B cX9_chances 6 (some .long) yX9_chances.cls g rmX9_chances) (Rt : pz_Rt B g wc Post rmX9_chances) (h0 : Nat) (yt : Nat) (rT : Int32) (rH : Int32) (yw : Nat) (yp : Nat) (yg : Nat) (yu : Nat) (ysl : Nat) (yin : Nat) (yse : Nat) (ysp : Nat) (ypa : Nat) (rA : Int32) (yb : Nat) (ybd : Nat) (ybc : Nat) (yr : Nat) (rF : Int32) (rP : Int32) (ywd : Nat) (rS : Int32) (rN : Int32) (rO : Int32) (rW : Int32) (rL : Int32) (rD : Int32) (yd : Nat) (rI : Int32) (rX : Int32) (rY : Int32) (rZ : Int32) (rU : Int32) (yro : Nat) (yc : Nat) (ybe : Nat) (yco : Nat) (rC : Int64) (rV : Int64) (qe : Nat → Int32) (qi : Nat → Int32) (qp : Nat → Int32) (qg : Nat → Int32) (qC : Nat → Int64) (G : Nat) (K : Nat) (M : Nat) (N : Nat) (b : Nat) (s : Nat) (T5 : Int32 → Int64 → (Nat → Int64) → Prop) (hT5 : ∀ (ki : Int32) (ao1 : Int64) (od1 : Nat → Int64), T5 ki ao1 od1 → paX9_chances_5 B g h0 yt rT rH yw yp yg yu ysl yin yse ysp ypa rA yb ybd ybc yr rF rP ywd rS rN rO rW rL rD yd rI rX rY rZ rU yro yc ybe yco rC rV qe qi qp qg qC G K M N b s ki ao1 od1) (T32 : Int32 → Int32 → Int64 → (Nat → Int64) → Prop) (hT32 : ∀ (ki : Int32) (s1 : Int32) (ao1 : Int64) (od1 : Nat → Int64), T32 ki s1 ao1 od1 → paX9_chances_32 B g h0 yt rT rH yw yp yg yu ysl yin yse ysp ypa rA yb ybd ybc yr rF rP ywd rS rN rO rW rL rD yd rI rX rY rZ rU yro yc ybe yco rC rV qe qi qp qg qC G K M N b s ki s1 ao1 od1) (ki : Int32) (s1 : Int32) (ao1 : Int64) (od1 : Nat → Int64) (vc : vp_in (nI b) 10 ∧ (((qe (nI b).toNatClampNeg) ≤ s1 → vp_in ki 3 ∧ ∀ x_4 : Int64, x_4 = (ao1 + (od1 ki.toNatClampNeg)) → ∀ x_5 : Int32, x_5 = ki + 1 → T5 x_5 x_4 od1) ∧ (¬ (qe (nI b).toNatClampNeg) ≤ s1 → vp_in ki 3 ∧ (b < 10) ∧ ∀ r_8 : Int32, ∀ _ : (r_8 = pu_gi (qi b) s1), vp_in ((4 * ki) + r_8) 12 ∧ ∀ x_11 : Int64, x_11 = ((od1 ki.toNatClampNeg) * ((qg ((4 * ki) + r_8).toNatClampNeg).toInt64)) → vp_in ki 3 ∧ ∀ f_13 : Nat → Int64, f_13 = vp_updL od1 ki.toNatClampNeg x_11 → ∀ x_14 : Int32, x_14 = s1 + 1 → T32 ki x_14 ao1 f_13))) : pz_At B 0 0 32 [(0, .ref h0), (1, .int (nI b)), (2, .long ao1), (4, .int ki), (5, .int s1)] [] [(h0, .inr (8, [.ref yt, .int rT, .int rH, .int (nI G), .ref yw, .int (nI K), .ref yp, .ref yg, .int (nI M), .ref yu, .int (nI N), .ref ysl, .ref yin, .ref yse, .ref ysp, .ref ypa, .int rA, .ref yb, .ref ybd, .ref ybc, .ref yr, .int rF, .int rP, .ref ywd, .int rS, .int rN, .int rO, .int rW, .int rL, .int rD, .ref yd, .int rI, .int rX, .int rY, .int rZ, .int rU, .ref yro, .ref yc, .ref ybe, .ref yco, .long rC, .long rV])), (yse, .inl (g.2.1 1, 10, .inl qe)), (yin, .inl (g.2.1 1, 10, .inl qi)), (yp, .inl (g.2.1 1, 3, .inl qp)), (yg, .inl (g.2.1 1, 12, .inl qg)), (yc, .inl (g.2.1 2, 3, .inr (.inl od1)))] := by
  refine pz_iload 4 F rfl dX9_chances_32 ?_
  refine pz_aload_n 0 F rfl dX9_chances_34 rfl ?_
  refine pz_get (ci := 8) (C := RX9) (T := TX9) (N := 42) (v := .ref yse) 0 F rfl rfl pz_inX9 13 (by decide) pw_821 rfl dX9_chances_35 ?_
  refine pz_iload_n 1 F rfl dX9_chances_38 rfl ?_
  obtain ⟨h_1, vc⟩ := vc
  refine pz_iaload 1 F rfl h_1 dX9_chances_39 ?_
  refine pz_icmp_ge (tgt := 77) F dX9_chances_40 (by decide) (fun q_2 => ?_) (fun q_2 => ?_)
  · replace vc := vc.1 q_2
    refine pz_lload_n 2 F rfl dX9_chances_77 rfl ?_
    refine pz_aload_n 0 F rfl dX9_chances_78 rfl ?_
    refine pz_get (ci := 8) (C := RX9) (T := TX9) (N := 42) (v := .ref yc) 0 F rfl rfl pz_inX9 37 (by decide) pw_845 rfl dX9_chances_79 ?_
    refine pz_iload 3 F rfl dX9_chances_82 ?_
    obtain ⟨h_3, vc⟩ := vc
    refine pz_laload 5 F rfl h_3 dX9_chances_84 ?_
    refine pz_ladd F dX9_chances_85 ?_
    refine pz_topl (fun x_4 ex_4 => ?_)
    replace vc := vc x_4 ex_4
    refine pz_lstore_n (lv' := [(2, .long x_4), (0, .ref h0), (1, .int (nI b)), (4, .int ki), (5, .int s1)]) F dX9_chances_86 rfl (by decide) rfl ?_
    obtain ⟨x_5, ex_5⟩ : ∃ z : Int32, z = ki + 1 := ⟨_, rfl⟩
    replace vc := vc x_5 ex_5
    refine pz_iinc (v := x_5) (lv' := [(4, .int x_5), (2, .long x_4), (0, .ref h0), (1, .int (nI b)), (5, .int s1)]) 3 F rfl dX9_chances_87 (by rw [ex_5]; rfl) (by decide) rfl ?_
    refine pz_goto (tgt := 5) F dX9_chances_90 (by decide) ?_
    exact pz_sub [2, 3, 1, 0] [0, 1, 2, 3, 4, 5] rfl rfl rfl (hT5 x_5 x_4 od1 vc)
  · replace vc := vc.2 q_2
    refine pz_aload_n 0 F rfl dX9_chances_43 rfl ?_
    refine pz_get (ci := 8) (C := RX9) (T := TX9) (N := 42) (v := .ref yc) 0 F rfl rfl pz_inX9 37 (by decide) pw_845 rfl dX9_chances_44 ?_
    refine pz_iload 3 F rfl dX9_chances_47 ?_
    refine pz_dup2 F dX9_chances_49 rfl rfl ?_
    obtain ⟨h_6, vc⟩ := vc
    refine pz_laload 5 F rfl h_6 dX9_chances_50 ?_
    refine pz_aload_n 0 F rfl dX9_chances_51 rfl ?_
    refine pz_get (ci := 8) (C := RX9) (T := TX9) (N := 42) (v := .ref yg) 0 F rfl rfl pz_inX9 7 (by decide) pw_815 rfl dX9_chances_52 ?_
    refine pz_iconst (v := 4) F dX9_chances_55 rfl ?_
    refine pz_iload 3 F rfl dX9_chances_56 ?_
    refine pz_imul F dX9_chances_58 ?_
    refine pz_aload_n 0 F rfl dX9_chances_59 rfl ?_
    refine pz_iload_n 1 F rfl dX9_chances_60 rfl ?_
    refine pz_iload 4 F rfl dX9_chances_61 ?_
    obtain ⟨h_7, vc⟩ := vc
    refine pz_callV (nA := 2) (ci := 8) (C := RX9) (T := TX9) (N := 42) (As := [.int (nI b), .int s1]) (rest := [.int (4 * ki), .ref yg, .long (od1 ki.toNatClampNeg), .int ki, .ref yc]) (wr := [(yse, .inl (g.2.1 1, 10, .inl qe)), (yp, .inl (g.2.1 1, 3, .inl qp)), (yg, .inl (g.2.1 1, 12, .inl qg)), (yc, .inl (g.2.1 2, 3, .inr (.inl od1)))]) F (ctX9_gradeAt _ g s1 h0 yt rT rH yw yp yg yu ysl yin yse ysp ypa rA yb ybd ybc yr rF rP ywd rS rN rO rW rL rD yd rI rX rY rZ rU yro yc ybe yco rC rV qi G K M N b h_7) 0 rfl rfl pw_1060 pw_1062 pv_43 pw_8 pw_1063 (by decide +kernel) (by decide) (by decide) rfl rfl (Nat.le_of_ble_eq_true rfl) [0, 2] [1, 3, 4, 5] rfl rfl rfl rfl (by decide) dX9_chances_63 (fun r0 w0 hp0 => ?_)
    obtain ⟨r_8, _, rfl, rfl, hq_9⟩ := hp0
    replace vc := vc r_8  hq_9
    refine pz_eq (st' := [.int r_8, .int (4 * ki), .ref yg, .long (od1 ki.toNatClampNeg), .int ki, .ref yc]) (ws' := [(yse, .inl (g.2.1 1, 10, .inl qe)), (yp, .inl (g.2.1 1, 3, .inl qp)), (yg, .inl (g.2.1 1, 12, .inl qg)), (yc, .inl (g.2.1 2, 3, .inr (.inl od1))), (h0, .inr (8, [.ref yt, .int rT, .int rH, .int (nI G), .ref yw, .int (nI K), .ref yp, .ref yg, .int (nI M), .ref yu, .int (nI N), .ref ysl, .ref yin, .ref yse, .ref ysp, .ref ypa, .int rA, .ref yb, .ref ybd, .ref ybc, .ref yr, .int rF, .int rP, .ref ywd, .int rS, .int rN, .int rO, .int rW, .int rL, .int rD, .ref yd, .int rI, .int rX, .int rY, .int rZ, .int rU, .ref yro, .ref yc, .ref ybe, .ref yco, .long rC, .long rV])), (yin, .inl (g.2.1 1, 10, .inl qi))]) rfl rfl ?_
    refine pz_iadd F dX9_chances_66 ?_
    obtain ⟨h_10, vc⟩ := vc
    refine pz_iaload 2 F rfl h_10 dX9_chances_67 ?_
    refine pz_i2l F dX9_chances_68 ?_
    refine pz_lmul F dX9_chances_69 ?_
    refine pz_topl (fun x_11 ex_11 => ?_)
    replace vc := vc x_11 ex_11
    obtain ⟨h_12, vc⟩ := vc
    obtain ⟨f_13, ef_13⟩ : ∃ z : Nat → Int64, z = vp_updL od1 ki.toNatClampNeg x_11 := ⟨_, rfl⟩
    replace vc := vc f_13 ef_13
    refine pz_lastore (ws' := [(yse, .inl (g.2.1 1, 10, .inl qe)), (yp, .inl (g.2.1 1, 3, .inl qp)), (yg, .inl (g.2.1 1, 12, .inl qg)), (yc, .inl (g.2.1 2, 3, .inr (.inl f_13))), (h0, .inr (8, [.ref yt, .int rT, .int rH, .int (nI G), .ref yw, .int (nI K), .ref yp, .ref yg, .int (nI M), .ref yu, .int (nI N), .ref ysl, .ref yin, .ref yse, .ref ysp, .ref ypa, .int rA, .ref yb, .ref ybd, .ref ybc, .ref yr, .int rF, .int rP, .ref ywd, .int rS, .int rN, .int rO, .int rW, .int rL, .int rD, .ref yd, .int rI, .int rX, .int rY, .int rZ, .int rU, .ref yro, .ref yc, .ref ybe, .ref yco, .long rC, .long rV])), (yin, .inl (g.2.1 1, 10, .inl qi))]) F 3 rfl h_12 dX9_chances_70 (by rw [ef_13]; rfl) ?_
    obtain ⟨x_14, ex_14⟩ : ∃ z : Int32, z = s1 + 1 := ⟨_, rfl⟩
    replace vc := vc x_14 ex_14
    refine pz_iinc (v := x_14) (lv' := [(5, .int x_14), (0, .ref h0), (1, .int (nI b)), (2, .long ao1), (4, .int ki)]) 4 F rfl dX9_chances_71 (by rw [ex_14]; rfl) (by decide) rfl ?_
    refine pz_goto (tgt := 32) F dX9_chances_74 (by decide) ?_
    exact pz_sub [1, 2, 3, 4, 0] [4, 0, 5, 1, 2, 3] rfl rfl rfl (hT32 ki x_14 ao1 f_13 vc)
theorem lpX9_chances_32 {B : pz_B} {g : pz_G} {wc : va_W} {Post : Option Value → va_W → Prop} (F : pz_F B cX9_chances 6 (some .long) yX9_chances.cls g rmX9_chances) (Rt : pz_Rt B g wc Post rmX9_chances) (h0 : Nat) (yt : Nat) (rT : Int32) (rH : Int32) (yw : Nat) (yp : Nat) (yg : Nat) (yu : Nat) (ysl : Nat) (yin : Nat) (yse : Nat) (ysp : Nat) (ypa : Nat) (rA : Int32) (yb : Nat) (ybd : Nat) (ybc : Nat) (yr : Nat) (rF : Int32) (rP : Int32) (ywd : Nat) (rS : Int32) (rN : Int32) (rO : Int32) (rW : Int32) (rL : Int32) (rD : Int32) (yd : Nat) (rI : Int32) (rX : Int32) (rY : Int32) (rZ : Int32) (rU : Int32) (yro : Nat) (yc : Nat) (ybe : Nat) (yco : Nat) (rC : Int64) (rV : Int64) (qe : Nat → Int32) (qi : Nat → Int32) (qp : Nat → Int32) (qg : Nat → Int32) (qC : Nat → Int64) (G : Nat) (K : Nat) (M : Nat) (N : Nat) (b : Nat) (s : Nat) (T5 : Int32 → Int64 → (Nat → Int64) → Prop) (hT5 : ∀ (ki : Int32) (ao1 : Int64) (od1 : Nat → Int64), T5 ki ao1 od1 → paX9_chances_5 B g h0 yt rT rH yw yp yg yu ysl yin yse ysp ypa rA yb ybd ybc yr rF rP ywd rS rN rO rW rL rD yd rI rX rY rZ rU yro yc ybe yco rC rV qe qi qp qg qC G K M N b s ki ao1 od1) (Inv : Nat → Int32 → Int32 → Int64 → (Nat → Int64) → Prop) (step : ∀ (mz : Nat) (ki : Int32) (s1 : Int32) (ao1 : Int64) (od1 : Nat → Int64), Inv mz ki s1 ao1 od1 → ∀ TT : Int32 → Int32 → Int64 → (Nat → Int64) → Prop, TT = (fun ki s1 ao1 od1 => ∃ mz', mz' < mz ∧ Inv mz' ki s1 ao1 od1) → vp_in (nI b) 10 ∧ (((qe (nI b).toNatClampNeg) ≤ s1 → vp_in ki 3 ∧ ∀ x_4 : Int64, x_4 = (ao1 + (od1 ki.toNatClampNeg)) → ∀ x_5 : Int32, x_5 = ki + 1 → T5 x_5 x_4 od1) ∧ (¬ (qe (nI b).toNatClampNeg) ≤ s1 → vp_in ki 3 ∧ (b < 10) ∧ ∀ r_8 : Int32, ∀ _ : (r_8 = pu_gi (qi b) s1), vp_in ((4 * ki) + r_8) 12 ∧ ∀ x_11 : Int64, x_11 = ((od1 ki.toNatClampNeg) * ((qg ((4 * ki) + r_8).toNatClampNeg).toInt64)) → vp_in ki 3 ∧ ∀ f_13 : Nat → Int64, f_13 = vp_updL od1 ki.toNatClampNeg x_11 → ∀ x_14 : Int32, x_14 = s1 + 1 → TT ki x_14 ao1 f_13))) : ∀ (mz : Nat) (ki : Int32) (s1 : Int32) (ao1 : Int64) (od1 : Nat → Int64), Inv mz ki s1 ao1 od1 → paX9_chances_32 B g h0 yt rT rH yw yp yg yu ysl yin yse ysp ypa rA yb ybd ybc yr rF rP ywd rS rN rO rW rL rD yd rI rX rY rZ rU yro yc ybe yco rC rV qe qi qp qg qC G K M N b s ki s1 ao1 od1 := by
  intro mz
  induction mz using Nat.strongRecOn with
  | _ mz ih =>
    intro ki s1 ao1 od1 hI
    exact sgX9_chances_32 F Rt h0 yt rT rH yw yp yg yu ysl yin yse ysp ypa rA yb ybd ybc yr rF rP ywd rS rN rO rW rL rD yd rI rX rY rZ rU yro yc ybe yco rC rV qe qi qp qg qC G K M N b s T5 hT5 (fun ki s1 ao1 od1 => ∃ mz', mz' < mz ∧ Inv mz' ki s1 ao1 od1) (fun ki s1 ao1 od1 ⟨mz', h1, h2⟩ => ih mz' h1 ki s1 ao1 od1 h2) ki s1 ao1 od1 (step mz ki s1 ao1 od1 hI _ rfl)
set_option maxHeartbeats 4000000 in
set_option maxRecDepth 100000 in
theorem ctX9_chances (l : Launch) (g : pz_G) (h0 : Nat) (yt : Nat) (rT : Int32) (rH : Int32) (yw : Nat) (yp : Nat) (yg : Nat) (yu : Nat) (ysl : Nat) (yin : Nat) (yse : Nat) (ysp : Nat) (ypa : Nat) (rA : Int32) (yb : Nat) (ybd : Nat) (ybc : Nat) (yr : Nat) (rF : Int32) (rP : Int32) (ywd : Nat) (rS : Int32) (rN : Int32) (rO : Int32) (rW : Int32) (rL : Int32) (rD : Int32) (yd : Nat) (rI : Int32) (rX : Int32) (rY : Int32) (rZ : Int32) (rU : Int32) (yro : Nat) (yc : Nat) (ybe : Nat) (yco : Nat) (rC : Int64) (rV : Int64) (qe : Nat → Int32) (qi : Nat → Int32) (qp : Nat → Int32) (qg : Nat → Int32) (qC : Nat → Int64) (G : Nat) (K : Nat) (M : Nat) (N : Nat) (b : Nat) (s : Nat) (hpre : b < 10 ∧ K ≤ 3 ∧ s ≤ 8 ∧ qe b = nI s) : pz_Ct l g yX9_chances cX9_chances 6 (some .long) rmX9_chances [.ref h0, .int (nI b)] [(h0, .inr (8, [.ref yt, .int rT, .int rH, .int (nI G), .ref yw, .int (nI K), .ref yp, .ref yg, .int (nI M), .ref yu, .int (nI N), .ref ysl, .ref yin, .ref yse, .ref ysp, .ref ypa, .int rA, .ref yb, .ref ybd, .ref ybc, .ref yr, .int rF, .int rP, .ref ywd, .int rS, .int rN, .int rO, .int rW, .int rL, .int rD, .ref yd, .int rI, .int rX, .int rY, .int rZ, .int rU, .ref yro, .ref yc, .ref ybe, .ref yco, .long rC, .long rV])), (yse, .inl (g.2.1 1, 10, .inl qe)), (yin, .inl (g.2.1 1, 10, .inl qi)), (yp, .inl (g.2.1 1, 3, .inl qp)), (yg, .inl (g.2.1 1, 12, .inl qg)), (yc, .inl (g.2.1 2, 3, .inr (.inl qC)))] (pz_pl (fun (r : Int64) (u : (Nat → Int64)) => r = (pu_wa qp qg (qi b) s K) ∧ ∀ a, a < K → u a = pu_wg qp qg (qi b) a s) (fun (u : (Nat → Int64)) => [(h0, .inr (8, [.ref yt, .int rT, .int rH, .int (nI G), .ref yw, .int (nI K), .ref yp, .ref yg, .int (nI M), .ref yu, .int (nI N), .ref ysl, .ref yin, .ref yse, .ref ysp, .ref ypa, .int rA, .ref yb, .ref ybd, .ref ybc, .ref yr, .int rF, .int rP, .ref ywd, .int rS, .int rN, .int rO, .int rW, .int rL, .int rD, .ref yd, .int rI, .int rX, .int rY, .int rZ, .int rU, .ref yro, .ref yc, .ref ybe, .ref yco, .long rC, .long rV])), (yse, .inl (g.2.1 1, 10, .inl qe)), (yin, .inl (g.2.1 1, 10, .inl qi)), (yp, .inl (g.2.1 1, 3, .inl qp)), (yg, .inl (g.2.1 1, 12, .inl qg)), (yc, .inl (g.2.1 2, 3, .inr (.inl u)))])) := by
  refine pz_ofAt (by decide +kernel) (Nat.le_of_ble_eq_true rfl) (fun B F Rt hme => ?_)
  obtain ⟨hb, hK, hs, he⟩ := hpre
  have hbin : vp_in (nI b) 10 := vp_in_nI hb (by omega)
  have key : ∀ (m : Nat) (ki : Int32) (ao1 : Int64) (od1 : Nat → Int64), (∃ j, j + m = K ∧ ki = nI j ∧ ao1 = pu_wa qp qg (qi b) s j ∧ ∀ a, a < j → od1 a = pu_wg qp qg (qi b) a s) → paX9_chances_5 B g h0 yt rT rH yw yp yg yu ysl yin yse ysp ypa rA yb ybd ybc yr rF rP ywd rS rN rO rW rL rD yd rI rX rY rZ rU yro yc ybe yco rC rV qe qi qp qg qC G K M N b s ki ao1 od1 := by
    intro m
    induction m using Nat.strongRecOn with
    | _ m ih =>
      rintro ki ao1 od1 ⟨j, hj, rfl, rfl, hod⟩
      refine sgX9_chances_5 F Rt h0 yt rT rH yw yp yg yu ysl yin yse ysp ypa rA yb ybd ybc yr rF rP ywd rS rN rO rW rL rD yd rI rX rY rZ rU yro yc ybe yco rC rV qe qi qp qg qC G K M N b s (fun ki s1 ao1 od1 => ki = nI j ∧ j < K ∧ ao1 = pu_wa qp qg (qi b) s j ∧ (∀ a, a < j → od1 a = pu_wg qp qg (qi b) a s) ∧ ∃ i, i ≤ s ∧ s1 = nI i ∧ od1 j = pu_wg qp qg (qi b) j i) ?_ (nI j) _ od1 ?_
      · rintro ki s1 ao1 od1 ⟨rfl, hjk, rfl, hod, i, hi, rfl, hw⟩
        refine lpX9_chances_32 F Rt h0 yt rT rH yw yp yg yu ysl yin yse ysp ypa rA yb ybd ybc yr rF rP ywd rS rN rO rW rL rD yd rI rX rY rZ rU yro yc ybe yco rC rV qe qi qp qg qC G K M N b s (fun ki ao1 od1 => ∃ m', m' < m ∧ ∃ j, j + m' = K ∧ ki = nI j ∧ ao1 = pu_wa qp qg (qi b) s j ∧ ∀ a, a < j → od1 a = pu_wg qp qg (qi b) a s) (fun ki ao1 od1 ⟨m', h1, h2⟩ => ih m' h1 ki ao1 od1 h2) (fun z ki s1 ao1 od1 => ki = nI j ∧ ao1 = pu_wa qp qg (qi b) s j ∧ (∀ a, a < j → od1 a = pu_wg qp qg (qi b) a s) ∧ ∃ i, i + z = s ∧ s1 = nI i ∧ od1 j = pu_wg qp qg (qi b) j i) ?_ (s - i) _ _ _ od1 ⟨rfl, rfl, hod, i, by omega, rfl, hw⟩
        rintro z ki s1 ao1 od1 ⟨rfl, rfl, hod, i, hi, rfl, hw⟩ TT rfl
        have hjin : vp_in (nI j) 3 := vp_in_nI (by omega) (by omega)
        rw [nI_clamp (by omega), he]
        refine ⟨hbin, fun q => ?_, fun q => ?_⟩
        · have h1 := pu_ge (by omega) q
          have ei : i = s := by omega
          subst ei
          rw [nI_clamp (by omega), hw]
          refine ⟨hjin, ?_⟩
          rintro x rfl y rfl
          refine ⟨m - 1, by omega, j + 1, by omega, nI_1 j, rfl, fun a ha => ?_⟩
          by_cases h2 : a = j
          · rw [h2, hw]
          · exact hod a (by omega)
        · have h1 := pu_lt (by omega) (by omega) q
          refine ⟨hjin, hb, fun r hr => ?_⟩
          obtain ⟨v, hv, hv2⟩ := pu_gi4 (qi b) (nI i)
          rw [hr, hv2, pu_4]
          refine ⟨vp_in_nI (by omega) (by omega), ?_⟩
          rw [nI_clamp (by omega), nI_clamp (by omega), hw]
          rintro x rfl
          refine ⟨hjin, ?_⟩
          rintro f rfl y rfl
          refine ⟨z - 1, by omega, rfl, rfl, fun a ha => ?_, i + 1, by omega, nI_1 i, ?_⟩
          · rw [pk_uLn (by omega)]; exact hod a ha
          · rw [pk_uLs, pu_wg, hv2, nI_clamp (by omega)]
      · refine ⟨fun q => ?_, fun q => ?_⟩
        · have h1 := pu_ge (by omega) q
          have e : j = K := by omega
          subst e
          exact ⟨_, _, rfl, rfl, rfl, hod⟩
        · have h1 := pu_lt (by omega) (by omega) q
          have hjin : vp_in (nI j) 3 := vp_in_nI (by omega) (by omega)
          refine ⟨hjin, ?_⟩
          rintro x rfl
          refine ⟨hjin, ?_⟩
          rw [nI_clamp (by omega)]
          rintro f rfl
          refine ⟨rfl, h1, rfl, fun a ha => ?_, 0, by omega, nI_0.symm, pk_uLs⟩
          rw [pk_uLn (by omega)]; exact hod a ha
  exact sgX9_chances_0 F Rt h0 yt rT rH yw yp yg yu ysl yin yse ysp ypa rA yb ybd ybc yr rF rP ywd rS rN rO rW rL rD yd rI rX rY rZ rU yro yc ybe yco rC rV qe qi qp qg qC G K M N b s _ (fun ki ao1 od1 => key K ki ao1 od1) ⟨0, by omega, nI_0.symm, rfl, fun a ha => absurd ha (by omega)⟩
abbrev rmX9_divisor : Room := { frames := 0, cells := 0, slots := 0, locals := 0 }
abbrev paX9_divisor_6 (B : pz_B) (g : pz_G) (x : Int64) (y : Int64) (A : Nat) (C : Nat) (u : Int64) (v : Int64) : Prop := pz_At B 0 0 6 [(0, .long x), (2, .long y), (4, .long u), (6, .long v)] [] []
set_option maxHeartbeats 4000000 in
set_option maxRecDepth 100000 in
theorem sgX9_divisor_0 {B : pz_B} {g : pz_G} {wc : va_W} {Post : Option Value → va_W → Prop} (F : pz_F B cX9_divisor 10 (some .long) yX9_divisor.cls g rmX9_divisor) (Rt : pz_Rt B g wc Post rmX9_divisor) (x : Int64) (y : Int64) (A : Nat) (C : Nat) (T6 : Int64 → Int64 → Prop) (hT6 : ∀ (u : Int64) (v : Int64), T6 u v → paX9_divisor_6 B g x y A C u v)  (vc : T6 x y) : pz_At B 0 0 0 [(0, .long x), (2, .long y)] [] [] := by
  refine pz_lload_n 0 F rfl dX9_divisor_0 rfl ?_
  refine pz_lstore (lv' := [(4, .long x), (0, .long x), (2, .long y)]) F dX9_divisor_1 (by decide) rfl ?_
  refine pz_lload_n 2 F rfl dX9_divisor_3 rfl ?_
  refine pz_lstore (lv' := [(6, .long y), (4, .long x), (0, .long x), (2, .long y)]) F dX9_divisor_4 (by decide) rfl ?_
  exact pz_sub [2, 3, 1, 0] [] rfl rfl rfl (hT6 x y vc)
set_option maxHeartbeats 4000000 in
set_option maxRecDepth 100000 in
theorem sgX9_divisor_6 {B : pz_B} {g : pz_G} {wc : va_W} {Post : Option Value → va_W → Prop} (F : pz_F B cX9_divisor 10 (some .long) yX9_divisor.cls g rmX9_divisor) (Rt : pz_Rt B g wc Post rmX9_divisor) (x : Int64) (y : Int64) (A : Nat) (C : Nat) (T6 : Int64 → Int64 → Prop) (hT6 : ∀ (u : Int64) (v : Int64), T6 u v → paX9_divisor_6 B g x y A C u v) (u : Int64) (v : Int64) (vc : (((lg_cmp v 0) = 0 → (((0 : Int32) ≤ (lg_cmp u 1) → Post (some (.long u)) []) ∧ (¬ (0 : Int32) ≤ (lg_cmp u 1) → Post (some (.long 1)) []))) ∧ (¬ (lg_cmp v 0) = 0 → (¬ v = 0) ∧ ∀ x_4 : Int64, x_4 = (u - u / v * v) → T6 v x_4))) : pz_At B 0 0 6 [(0, .long x), (2, .long y), (4, .long u), (6, .long v)] [] [] := by
  refine pz_lload 3 F rfl dX9_divisor_6 ?_
  refine pz_lconst (v := 0) F dX9_divisor_8 rfl ?_
  refine pz_lcmp F dX9_divisor_9 ?_
  refine pz_if_eq (tgt := 31) F dX9_divisor_10 (by decide) (fun q_1 => ?_) (fun q_1 => ?_)
  · replace vc := vc.1 q_1
    refine pz_lload 2 F rfl dX9_divisor_31 ?_
    refine pz_lconst (v := 1) F dX9_divisor_33 rfl ?_
    refine pz_lcmp F dX9_divisor_34 ?_
    refine pz_if_ge (tgt := 42) F dX9_divisor_35 (by decide) (fun q_2 => ?_) (fun q_2 => ?_)
    · replace vc := vc.1 q_2
      refine pz_lload 2 F rfl dX9_divisor_42 ?_
      exact pz_lreturn (w1 := []) F Rt (by decide) (by decide) dX9_divisor_44 [] rfl rfl vc
    · replace vc := vc.2 q_2
      refine pz_lconst (v := 1) F dX9_divisor_38 rfl ?_
      refine pz_goto (tgt := 44) F dX9_divisor_39 (by decide) ?_
      exact pz_lreturn (w1 := []) F Rt (by decide) (by decide) dX9_divisor_44 [] rfl rfl vc
  · replace vc := vc.2 q_1
    refine pz_lload 2 F rfl dX9_divisor_13 ?_
    refine pz_lload 3 F rfl dX9_divisor_15 ?_
    obtain ⟨h_3, vc⟩ := vc
    refine pz_lrem F h_3 dX9_divisor_17 ?_
    refine pz_topl (fun x_4 ex_4 => ?_)
    replace vc := vc x_4 ex_4
    refine pz_lstore (lv' := [(8, .long x_4), (0, .long x), (2, .long y), (4, .long u), (6, .long v)]) F dX9_divisor_18 (by decide) rfl ?_
    refine pz_lload 4 F rfl dX9_divisor_20 ?_
    refine pz_lstore (lv' := [(4, .long v), (8, .long x_4), (0, .long x), (2, .long y), (6, .long v)]) F dX9_divisor_22 (by decide) rfl ?_
    refine pz_lload 1 F rfl dX9_divisor_24 ?_
    refine pz_lstore (lv' := [(6, .long x_4), (4, .long v), (8, .long x_4), (0, .long x), (2, .long y)]) F dX9_divisor_26 (by decide) rfl ?_
    refine pz_goto (tgt := 6) F dX9_divisor_28 (by decide) ?_
    exact pz_sub [3, 4, 1, 0] [] rfl rfl rfl (hT6 v x_4 vc)
theorem lpX9_divisor_6 {B : pz_B} {g : pz_G} {wc : va_W} {Post : Option Value → va_W → Prop} (F : pz_F B cX9_divisor 10 (some .long) yX9_divisor.cls g rmX9_divisor) (Rt : pz_Rt B g wc Post rmX9_divisor) (x : Int64) (y : Int64) (A : Nat) (C : Nat) (Inv : Nat → Int64 → Int64 → Prop) (step : ∀ (mz : Nat) (u : Int64) (v : Int64), Inv mz u v → ∀ TT : Int64 → Int64 → Prop, TT = (fun u v => ∃ mz', mz' < mz ∧ Inv mz' u v) → (((lg_cmp v 0) = 0 → (((0 : Int32) ≤ (lg_cmp u 1) → Post (some (.long u)) []) ∧ (¬ (0 : Int32) ≤ (lg_cmp u 1) → Post (some (.long 1)) []))) ∧ (¬ (lg_cmp v 0) = 0 → (¬ v = 0) ∧ ∀ x_4 : Int64, x_4 = (u - u / v * v) → TT v x_4))) : ∀ (mz : Nat) (u : Int64) (v : Int64), Inv mz u v → paX9_divisor_6 B g x y A C u v := by
  intro mz
  induction mz using Nat.strongRecOn with
  | _ mz ih =>
    intro u v hI
    exact sgX9_divisor_6 F Rt x y A C (fun u v => ∃ mz', mz' < mz ∧ Inv mz' u v) (fun u v ⟨mz', h1, h2⟩ => ih mz' h1 u v h2) u v (step mz u v hI _ rfl)
set_option maxHeartbeats 4000000 in
set_option maxRecDepth 100000 in
theorem ctX9_divisor (l : Launch) (g : pz_G) (x : Int64) (y : Int64) (A : Nat) (C : Nat) (hpre : A < 2 ^ 63 ∧ C < 2 ^ 63 ∧ x = lN A ∧ y = lN C) : pz_Ct l g yX9_divisor cX9_divisor 10 (some .long) rmX9_divisor [.long x, .long y] [] (pz_pl (fun (r : Int64) (u : Unit) => r = lN (rd_g A C)) (fun (u : Unit) => [])) := by
  refine pz_ofAt (by decide +kernel) (Nat.le_of_ble_eq_true rfl) (fun B F Rt hme => ?_)
  obtain ⟨hA, hC, h1, h2⟩ := hpre
  subst h1; subst h2
  refine sgX9_divisor_0 F Rt (lN A) (lN C) A C _ (fun u v h => lpX9_divisor_6 F Rt (lN A) (lN C) A C (fun z u v => ∃ U V, u = lN U ∧ v = lN V ∧ U < 2 ^ 63 ∧ V < 2 ^ 63 ∧ z = V ∧ Nat.gcd U V = Nat.gcd A C) ?_ C u v h) ⟨A, C, rfl, rfl, hA, hC, rfl, rfl⟩
  rintro z u v ⟨U, V, rfl, rfl, hU, hV, rfl, hg⟩ TT rfl
  rw [lg_cmp_eq, lg_cmp_ge]
  have z0 : (lN z = 0) ↔ z = 0 := pk_lEQ (b := 0) hV (by decide)
  refine ⟨fun q => ?_, fun q => ⟨q, ?_⟩⟩
  · have ez := z0.mp q
    rw [ez, Nat.gcd_zero_right] at hg
    have k1 : ((1 : Int64) ≤ lN U) ↔ 1 ≤ U := pk_lLE (a := 1) (by decide) hU
    refine ⟨fun q2 => ⟨_, (), rfl, rfl, ?_⟩, fun q2 => ⟨_, (), rfl, rfl, ?_⟩⟩
    · have := k1.mp q2
      unfold rd_g
      rw [← hg, if_neg (by omega)]
    · have : U = 0 := by
        have h3 : ¬ 1 ≤ U := fun h => q2 (k1.mpr h)
        omega
      unfold rd_g
      rw [← hg, if_pos this]
      rfl
  · have hz : 0 < z := by
      rcases Nat.eq_zero_or_pos z with h | h
      · exact absurd (z0.mpr h) q
      · exact h
    rw [pk_lRem hU hz hV]
    rintro w rfl
    refine ⟨U % z, Nat.mod_lt _ hz, z, U % z, rfl, rfl, hV, by have := Nat.mod_lt U hz; omega, rfl, ?_⟩
    rw [← hg, Nat.gcd_comm U z, Nat.gcd_rec z U, Nat.gcd_comm z (U % z)]
abbrev rmX9_least : Room := { frames := 1, cells := 0, slots := 0, locals := 29 }
set_option maxHeartbeats 4000000 in
set_option maxRecDepth 100000 in
theorem sgX9_least_0 {B : pz_B} {g : pz_G} {wc : va_W} {Post : Option Value → va_W → Prop} (F : pz_F B cX9_least 7 (some .long) yX9_least.cls g rmX9_least) (Rt : pz_Rt B g wc Post rmX9_least) (x : Int64) (y : Int64) (w : Int32) (A : Nat) (C : Nat)  (vc : (A < 2 ^ 63 ∧ C < 2 ^ 63 ∧ x = lN A ∧ y = lN C) ∧ ∀ r_2 : Int64, ∀ _ : (r_2 = lN (rd_g A C)), ((¬ w = 0 → (¬ r_2 = 0) ∧ ∀ x_6 : Int64, x_6 = (y / r_2) → Post (some (.long x_6)) []) ∧ (w = 0 → (¬ r_2 = 0) ∧ ∀ x_8 : Int64, x_8 = (x / r_2) → Post (some (.long x_8)) []))) : pz_At B 0 0 0 [(0, .long x), (2, .long y), (4, .int w)] [] [] := by
  refine pz_lload_n 0 F rfl dX9_least_0 rfl ?_
  refine pz_lload_n 1 F rfl dX9_least_1 rfl ?_
  obtain ⟨h_1, vc⟩ := vc
  refine pz_callS (nA := 2) (As := [.long x, .long y]) (rest := []) (wr := []) F (ctX9_divisor _ g x y A C h_1) pw_1105 pw_1106 pw_8 pw_1107 (by decide +kernel) (by decide) (by decide) rfl rfl (Nat.le_of_ble_eq_true rfl) [] [] rfl rfl rfl rfl (by decide) dX9_least_2 (fun r0 w0 hp0 => ?_)
  obtain ⟨r_2, _, rfl, rfl, hq_3⟩ := hp0
  replace vc := vc r_2  hq_3
  refine pz_eq (st' := [.long r_2]) (ws' := []) rfl rfl ?_
  refine pz_lstore (lv' := [(5, .long r_2), (0, .long x), (2, .long y), (4, .int w)]) F dX9_least_5 (by decide) rfl ?_
  refine pz_iload 3 F rfl dX9_least_7 ?_
  refine pz_if_ne (tgt := 19) F dX9_least_9 (by decide) (fun q_4 => ?_) (fun q_4 => ?_)
  · replace vc := vc.1 q_4
    refine pz_lload_n 2 F rfl dX9_least_19 rfl ?_
    refine pz_lload 0 F rfl dX9_least_20 ?_
    obtain ⟨h_5, vc⟩ := vc
    refine pz_ldiv F h_5 dX9_least_22 ?_
    refine pz_topl (fun x_6 ex_6 => ?_)
    replace vc := vc x_6 ex_6
    exact pz_lreturn (w1 := []) F Rt (by decide) (by decide) dX9_least_23 [] rfl rfl vc
  · replace vc := vc.2 q_4
    refine pz_lload_n 1 F rfl dX9_least_12 rfl ?_
    refine pz_lload 0 F rfl dX9_least_13 ?_
    obtain ⟨h_7, vc⟩ := vc
    refine pz_ldiv F h_7 dX9_least_15 ?_
    refine pz_goto (tgt := 23) F dX9_least_16 (by decide) ?_
    refine pz_topl (fun x_8 ex_8 => ?_)
    replace vc := vc x_8 ex_8
    exact pz_lreturn (w1 := []) F Rt (by decide) (by decide) dX9_least_23 [] rfl rfl vc
set_option maxHeartbeats 4000000 in
set_option maxRecDepth 100000 in
theorem ctX9_least (l : Launch) (g : pz_G) (x : Int64) (y : Int64) (w : Int32) (A : Nat) (C : Nat) (hpre : A < 2 ^ 63 ∧ C < 2 ^ 63 ∧ x = lN A ∧ y = lN C) : pz_Ct l g yX9_least cX9_least 7 (some .long) rmX9_least [.long x, .long y, .int w] [] (pz_pl (fun (r : Int64) (u : Unit) => r = rd_a A C w) (fun (u : Unit) => [])) := by
  refine pz_ofAt (by decide +kernel) (Nat.le_of_ble_eq_true rfl) (fun B F Rt hme => ?_)
  obtain ⟨hA, hC, h1, h2⟩ := hpre
  subst h1; subst h2
  refine sgX9_least_0 F Rt (lN A) (lN C) w A C ?_
  clear F Rt hme
  refine ⟨⟨hA, hC, rfl, rfl⟩, fun r hr => ?_⟩
  subst hr
  have hg := rd_g1 A C
  have hl := rd_lt hA hC
  have hn : ¬ lN (rd_g A C) = 0 := fun h => absurd ((pk_lEQ (b := 0) hl (by decide)).mp h) (by omega)
  unfold rd_a
  refine ⟨fun q => ⟨hn, ?_⟩, fun q => ⟨hn, ?_⟩⟩
  · rw [pk_lDiv hC hg hl]
    first | exact ⟨_, (), rfl, rfl, by rw [if_neg q]⟩ | (rintro x rfl; exact ⟨_, (), rfl, rfl, by rw [if_neg q]⟩)
  · rw [pk_lDiv hA hg hl]
    first | exact ⟨_, (), rfl, rfl, by rw [if_pos q]⟩ | (rintro x rfl; exact ⟨_, (), rfl, rfl, by rw [if_pos q]⟩)
abbrev rmX9_rest_R : Room := { frames := 2, cells := 0, slots := 0, locals := 42 }
set_option maxHeartbeats 4000000 in
set_option maxRecDepth 100000 in
theorem sgX9_rest_R_0 {B : pz_B} {g : pz_G} {wc : va_W} {Post : Option Value → va_W → Prop} (F : pz_F B cX9_rest 11 (some .long) yX9_rest.cls g rmX9_rest_R) (Rt : pz_Rt B g wc Post rmX9_rest_R) (x : Int32) (w : Int32) (h0 : Nat) (yt : Nat) (rT : Int32) (rH : Int32) (yw : Nat) (yp : Nat) (yg : Nat) (yu : Nat) (ysl : Nat) (yin : Nat) (yse : Nat) (ysp : Nat) (ypa : Nat) (rA : Int32) (yb : Nat) (ybd : Nat) (ybc : Nat) (yr : Nat) (rF : Int32) (rP : Int32) (ywd : Nat) (rS : Int32) (rN : Int32) (rO : Int32) (rW : Int32) (rL : Int32) (rD : Int32) (yd : Nat) (rI : Int32) (rX : Int32) (rY : Int32) (rZ : Int32) (rU : Int32) (yro : Nat) (yc : Nat) (ybe : Nat) (yco : Nat) (rC : Int64) (rV : Int64) (qk : Nat → Int32) (G : Nat) (K : Nat) (M : Nat) (N : Nat)  (vc : (N ≤ 10) ∧ ∀ r_2 : Int32, ∀ _ : ((wh_ok x N qk ∧ r_2 = 1) ∨ (¬ wh_ok x N qk ∧ r_2 = 0)), ((r_2 = 0 → Post (some (.long (-1))) [(h0, .inr (8, [.ref yt, .int rT, .int 0, .int (nI G), .ref yw, .int (nI K), .ref yp, .ref yg, .int (nI M), .ref yu, .int (nI N), .ref ysl, .ref yin, .ref yse, .ref ysp, .ref ypa, .int rA, .ref yb, .ref ybd, .ref ybc, .ref yr, .int rF, .int rP, .ref ywd, .int rS, .int rN, .int rO, .int rW, .int rL, .int rD, .ref yd, .int rI, .int rX, .int rY, .int rZ, .int rU, .ref yro, .ref yc, .ref ybe, .ref yco, .long rC, .long rV])), (ysp, .inl (g.2.1 3, 10, .inl qk))]) ∧ (¬ r_2 = 0 → False))) : pz_At B 0 0 0 [(0, .ref h0), (1, .int x), (2, .int w)] [] [(h0, .inr (8, [.ref yt, .int rT, .int rH, .int (nI G), .ref yw, .int (nI K), .ref yp, .ref yg, .int (nI M), .ref yu, .int (nI N), .ref ysl, .ref yin, .ref yse, .ref ysp, .ref ypa, .int rA, .ref yb, .ref ybd, .ref ybc, .ref yr, .int rF, .int rP, .ref ywd, .int rS, .int rN, .int rO, .int rW, .int rL, .int rD, .ref yd, .int rI, .int rX, .int rY, .int rZ, .int rU, .ref yro, .ref yc, .ref ybe, .ref yco, .long rC, .long rV])), (ysp, .inl (g.2.1 3, 10, .inl qk))] := by
  refine pz_aload_n 0 F rfl dX9_rest_0 rfl ?_
  refine pz_iconst (v := 0) F dX9_rest_1 rfl ?_
  refine pz_put (ws' := [(h0, .inr (8, [.ref yt, .int rT, .int 0, .int (nI G), .ref yw, .int (nI K), .ref yp, .ref yg, .int (nI M), .ref yu, .int (nI N), .ref ysl, .ref yin, .ref yse, .ref ysp, .ref ypa, .int rA, .ref yb, .ref ybd, .ref ybc, .ref yr, .int rF, .int rP, .ref ywd, .int rS, .int rN, .int rO, .int rW, .int rL, .int rD, .ref yd, .int rI, .int rX, .int rY, .int rZ, .int rU, .ref yro, .ref yc, .ref ybe, .ref yco, .long rC, .long rV])), (ysp, .inl (g.2.1 3, 10, .inl qk))]) (ci := 8) (C := RX9) (T := TX9) (N := 42) (v := .int 0) (ty := .int) 0 F rfl rfl pz_inX9 2 (by decide) pw_810 tyX9_ok nmX9 rfl rfl rfl rfl (Nat.le_of_ble_eq_true rfl) dX9_rest_2 rfl ?_
  refine pz_aload_n 0 F rfl dX9_rest_5 rfl ?_
  refine pz_iload_n 1 F rfl dX9_rest_6 rfl ?_
  obtain ⟨h_1, vc⟩ := vc
  refine pz_callV (nA := 1) (ci := 8) (C := RX9) (T := TX9) (N := 42) (As := [.int x]) (rest := []) (wr := []) F (ctX9_isWhole _ g x h0 yt rT 0 yw yp yg yu ysl yin yse ysp ypa rA yb ybd ybc yr rF rP ywd rS rN rO rW rL rD yd rI rX rY rZ rU yro yc ybe yco rC rV qk G K M N h_1) 0 rfl rfl pw_1012 pw_1014 pv_36 pw_8 pw_1015 (by decide +kernel) (by decide) (by decide) rfl rfl (Nat.le_of_ble_eq_true rfl) [0, 1] [] rfl rfl rfl rfl (by decide) dX9_rest_7 (fun r0 w0 hp0 => ?_)
  obtain ⟨r_2, _, rfl, rfl, hq_3⟩ := hp0
  replace vc := vc r_2  hq_3
  refine pz_eq (st' := [.int r_2]) (ws' := [(h0, .inr (8, [.ref yt, .int rT, .int 0, .int (nI G), .ref yw, .int (nI K), .ref yp, .ref yg, .int (nI M), .ref yu, .int (nI N), .ref ysl, .ref yin, .ref yse, .ref ysp, .ref ypa, .int rA, .ref yb, .ref ybd, .ref ybc, .ref yr, .int rF, .int rP, .ref ywd, .int rS, .int rN, .int rO, .int rW, .int rL, .int rD, .ref yd, .int rI, .int rX, .int rY, .int rZ, .int rU, .ref yro, .ref yc, .ref ybe, .ref yco, .long rC, .long rV])), (ysp, .inl (g.2.1 3, 10, .inl qk))]) rfl rfl ?_
  refine pz_if_eq (tgt := 22) F dX9_rest_10 (by decide) (fun q_4 => ?_) (fun q_4 => ?_)
  · replace vc := vc.1 q_4
    refine pz_ldc2 (v := (-1)) F pw_1096 dX9_rest_22 ?_
    exact pz_lreturn (w1 := [(h0, .inr (8, [.ref yt, .int rT, .int 0, .int (nI G), .ref yw, .int (nI K), .ref yp, .ref yg, .int (nI M), .ref yu, .int (nI N), .ref ysl, .ref yin, .ref yse, .ref ysp, .ref ypa, .int rA, .ref yb, .ref ybd, .ref ybc, .ref yr, .int rF, .int rP, .ref ywd, .int rS, .int rN, .int rO, .int rW, .int rL, .int rD, .ref yd, .int rI, .int rX, .int rY, .int rZ, .int rU, .ref yro, .ref yc, .ref ybe, .ref yco, .long rC, .long rV])), (ysp, .inl (g.2.1 3, 10, .inl qk))]) F Rt (by decide) (by decide) dX9_rest_25 [0, 1] rfl rfl vc
  · replace vc := vc.2 q_4
    exact vc.elim
set_option maxHeartbeats 4000000 in
set_option maxRecDepth 100000 in
theorem ctX9_rest_R (l : Launch) (g : pz_G) (x : Int32) (w : Int32) (h0 : Nat) (yt : Nat) (rT : Int32) (rH : Int32) (yw : Nat) (yp : Nat) (yg : Nat) (yu : Nat) (ysl : Nat) (yin : Nat) (yse : Nat) (ysp : Nat) (ypa : Nat) (rA : Int32) (yb : Nat) (ybd : Nat) (ybc : Nat) (yr : Nat) (rF : Int32) (rP : Int32) (ywd : Nat) (rS : Int32) (rN : Int32) (rO : Int32) (rW : Int32) (rL : Int32) (rD : Int32) (yd : Nat) (rI : Int32) (rX : Int32) (rY : Int32) (rZ : Int32) (rU : Int32) (yro : Nat) (yc : Nat) (ybe : Nat) (yco : Nat) (rC : Int64) (rV : Int64) (qk : Nat → Int32) (G : Nat) (K : Nat) (M : Nat) (N : Nat) (hpre : N ≤ 10 ∧ ¬ wh_ok x N qk) : pz_Ct l g yX9_rest cX9_rest 11 (some .long) rmX9_rest_R [.ref h0, .int x, .int w] [(h0, .inr (8, [.ref yt, .int rT, .int rH, .int (nI G), .ref yw, .int (nI K), .ref yp, .ref yg, .int (nI M), .ref yu, .int (nI N), .ref ysl, .ref yin, .ref yse, .ref ysp, .ref ypa, .int rA, .ref yb, .ref ybd, .ref ybc, .ref yr, .int rF, .int rP, .ref ywd, .int rS, .int rN, .int rO, .int rW, .int rL, .int rD, .ref yd, .int rI, .int rX, .int rY, .int rZ, .int rU, .ref yro, .ref yc, .ref ybe, .ref yco, .long rC, .long rV])), (ysp, .inl (g.2.1 3, 10, .inl qk))] (pz_pl (fun (r : Int64) (u : Unit) => r = -1) (fun (u : Unit) => [(h0, .inr (8, [.ref yt, .int rT, .int 0, .int (nI G), .ref yw, .int (nI K), .ref yp, .ref yg, .int (nI M), .ref yu, .int (nI N), .ref ysl, .ref yin, .ref yse, .ref ysp, .ref ypa, .int rA, .ref yb, .ref ybd, .ref ybc, .ref yr, .int rF, .int rP, .ref ywd, .int rS, .int rN, .int rO, .int rW, .int rL, .int rD, .ref yd, .int rI, .int rX, .int rY, .int rZ, .int rU, .ref yro, .ref yc, .ref ybe, .ref yco, .long rC, .long rV])), (ysp, .inl (g.2.1 3, 10, .inl qk))])) := by
  refine pz_ofAt (by decide +kernel) (Nat.le_of_ble_eq_true rfl) (fun B F Rt hme => ?_)
  refine sgX9_rest_R_0 F Rt x w h0 yt rT rH yw yp yg yu ysl yin yse ysp ypa rA yb ybd ybc yr rF rP ywd rS rN rO rW rL rD yd rI rX rY rZ rU yro yc ybe yco rC rV qk G K M N ?_
  clear F Rt hme
  obtain ⟨hN, hno⟩ := hpre
  refine ⟨hN, fun r h => ?_⟩
  rcases h with ⟨h, _⟩ | ⟨_, rfl⟩
  · exact absurd h hno
  · exact ⟨fun _ => ⟨_, (), rfl, rfl, rfl⟩, fun q => absurd rfl q⟩
abbrev rmX9_best_R : Room := { frames := 2, cells := 0, slots := 0, locals := 42 }
set_option maxHeartbeats 4000000 in
set_option maxRecDepth 100000 in
theorem sgX9_best_R_0 {B : pz_B} {g : pz_G} {wc : va_W} {Post : Option Value → va_W → Prop} (F : pz_F B cX9_best 13 (some .long) yX9_best.cls g rmX9_best_R) (Rt : pz_Rt B g wc Post rmX9_best_R) (x : Int32) (w : Int32) (h0 : Nat) (yt : Nat) (rT : Int32) (rH : Int32) (yw : Nat) (yp : Nat) (yg : Nat) (yu : Nat) (ysl : Nat) (yin : Nat) (yse : Nat) (ysp : Nat) (ypa : Nat) (rA : Int32) (yb : Nat) (ybd : Nat) (ybc : Nat) (yr : Nat) (rF : Int32) (rP : Int32) (ywd : Nat) (rS : Int32) (rN : Int32) (rO : Int32) (rW : Int32) (rL : Int32) (rD : Int32) (yd : Nat) (rI : Int32) (rX : Int32) (rY : Int32) (rZ : Int32) (rU : Int32) (yro : Nat) (yc : Nat) (ybe : Nat) (yco : Nat) (rC : Int64) (rV : Int64) (qk : Nat → Int32) (G : Nat) (K : Nat) (M : Nat) (N : Nat)  (vc : (N ≤ 10) ∧ ∀ r_2 : Int32, ∀ _ : ((wh_ok x N qk ∧ r_2 = 1) ∨ (¬ wh_ok x N qk ∧ r_2 = 0)), ((r_2 = 0 → Post (some (.long (-9223372036854775808))) [(h0, .inr (8, [.ref yt, .int rT, .int 0, .int (nI G), .ref yw, .int (nI K), .ref yp, .ref yg, .int (nI M), .ref yu, .int (nI N), .ref ysl, .ref yin, .ref yse, .ref ysp, .ref ypa, .int rA, .ref yb, .ref ybd, .ref ybc, .ref yr, .int rF, .int rP, .ref ywd, .int rS, .int rN, .int rO, .int rW, .int rL, .int rD, .ref yd, .int rI, .int rX, .int rY, .int rZ, .int rU, .ref yro, .ref yc, .ref ybe, .ref yco, .long rC, .long rV])), (ysp, .inl (g.2.1 3, 10, .inl qk))]) ∧ (¬ r_2 = 0 → False))) : pz_At B 0 0 0 [(0, .ref h0), (1, .int x), (2, .int w)] [] [(h0, .inr (8, [.ref yt, .int rT, .int rH, .int (nI G), .ref yw, .int (nI K), .ref yp, .ref yg, .int (nI M), .ref yu, .int (nI N), .ref ysl, .ref yin, .ref yse, .ref ysp, .ref ypa, .int rA, .ref yb, .ref ybd, .ref ybc, .ref yr, .int rF, .int rP, .ref ywd, .int rS, .int rN, .int rO, .int rW, .int rL, .int rD, .ref yd, .int rI, .int rX, .int rY, .int rZ, .int rU, .ref yro, .ref yc, .ref ybe, .ref yco, .long rC, .long rV])), (ysp, .inl (g.2.1 3, 10, .inl qk))] := by
  refine pz_aload_n 0 F rfl dX9_best_0 rfl ?_
  refine pz_iconst (v := 0) F dX9_best_1 rfl ?_
  refine pz_put (ws' := [(h0, .inr (8, [.ref yt, .int rT, .int 0, .int (nI G), .ref yw, .int (nI K), .ref yp, .ref yg, .int (nI M), .ref yu, .int (nI N), .ref ysl, .ref yin, .ref yse, .ref ysp, .ref ypa, .int rA, .ref yb, .ref ybd, .ref ybc, .ref yr, .int rF, .int rP, .ref ywd, .int rS, .int rN, .int rO, .int rW, .int rL, .int rD, .ref yd, .int rI, .int rX, .int rY, .int rZ, .int rU, .ref yro, .ref yc, .ref ybe, .ref yco, .long rC, .long rV])), (ysp, .inl (g.2.1 3, 10, .inl qk))]) (ci := 8) (C := RX9) (T := TX9) (N := 42) (v := .int 0) (ty := .int) 0 F rfl rfl pz_inX9 2 (by decide) pw_810 tyX9_ok nmX9 rfl rfl rfl rfl (Nat.le_of_ble_eq_true rfl) dX9_best_2 rfl ?_
  refine pz_aload_n 0 F rfl dX9_best_5 rfl ?_
  refine pz_iload_n 1 F rfl dX9_best_6 rfl ?_
  obtain ⟨h_1, vc⟩ := vc
  refine pz_callV (nA := 1) (ci := 8) (C := RX9) (T := TX9) (N := 42) (As := [.int x]) (rest := []) (wr := []) F (ctX9_isWhole _ g x h0 yt rT 0 yw yp yg yu ysl yin yse ysp ypa rA yb ybd ybc yr rF rP ywd rS rN rO rW rL rD yd rI rX rY rZ rU yro yc ybe yco rC rV qk G K M N h_1) 0 rfl rfl pw_1012 pw_1014 pv_36 pw_8 pw_1015 (by decide +kernel) (by decide) (by decide) rfl rfl (Nat.le_of_ble_eq_true rfl) [0, 1] [] rfl rfl rfl rfl (by decide) dX9_best_7 (fun r0 w0 hp0 => ?_)
  obtain ⟨r_2, _, rfl, rfl, hq_3⟩ := hp0
  replace vc := vc r_2  hq_3
  refine pz_eq (st' := [.int r_2]) (ws' := [(h0, .inr (8, [.ref yt, .int rT, .int 0, .int (nI G), .ref yw, .int (nI K), .ref yp, .ref yg, .int (nI M), .ref yu, .int (nI N), .ref ysl, .ref yin, .ref yse, .ref ysp, .ref ypa, .int rA, .ref yb, .ref ybd, .ref ybc, .ref yr, .int rF, .int rP, .ref ywd, .int rS, .int rN, .int rO, .int rW, .int rL, .int rD, .ref yd, .int rI, .int rX, .int rY, .int rZ, .int rU, .ref yro, .ref yc, .ref ybe, .ref yco, .long rC, .long rV])), (ysp, .inl (g.2.1 3, 10, .inl qk))]) rfl rfl ?_
  refine pz_if_eq (tgt := 22) F dX9_best_10 (by decide) (fun q_4 => ?_) (fun q_4 => ?_)
  · replace vc := vc.1 q_4
    refine pz_ldc2 (v := (-9223372036854775808)) F pw_1116 dX9_best_22 ?_
    exact pz_lreturn (w1 := [(h0, .inr (8, [.ref yt, .int rT, .int 0, .int (nI G), .ref yw, .int (nI K), .ref yp, .ref yg, .int (nI M), .ref yu, .int (nI N), .ref ysl, .ref yin, .ref yse, .ref ysp, .ref ypa, .int rA, .ref yb, .ref ybd, .ref ybc, .ref yr, .int rF, .int rP, .ref ywd, .int rS, .int rN, .int rO, .int rW, .int rL, .int rD, .ref yd, .int rI, .int rX, .int rY, .int rZ, .int rU, .ref yro, .ref yc, .ref ybe, .ref yco, .long rC, .long rV])), (ysp, .inl (g.2.1 3, 10, .inl qk))]) F Rt (by decide) (by decide) dX9_best_25 [0, 1] rfl rfl vc
  · replace vc := vc.2 q_4
    exact vc.elim
set_option maxHeartbeats 4000000 in
set_option maxRecDepth 100000 in
theorem ctX9_best_R (l : Launch) (g : pz_G) (x : Int32) (w : Int32) (h0 : Nat) (yt : Nat) (rT : Int32) (rH : Int32) (yw : Nat) (yp : Nat) (yg : Nat) (yu : Nat) (ysl : Nat) (yin : Nat) (yse : Nat) (ysp : Nat) (ypa : Nat) (rA : Int32) (yb : Nat) (ybd : Nat) (ybc : Nat) (yr : Nat) (rF : Int32) (rP : Int32) (ywd : Nat) (rS : Int32) (rN : Int32) (rO : Int32) (rW : Int32) (rL : Int32) (rD : Int32) (yd : Nat) (rI : Int32) (rX : Int32) (rY : Int32) (rZ : Int32) (rU : Int32) (yro : Nat) (yc : Nat) (ybe : Nat) (yco : Nat) (rC : Int64) (rV : Int64) (qk : Nat → Int32) (G : Nat) (K : Nat) (M : Nat) (N : Nat) (hpre : N ≤ 10 ∧ ¬ wh_ok x N qk) : pz_Ct l g yX9_best cX9_best 13 (some .long) rmX9_best_R [.ref h0, .int x, .int w] [(h0, .inr (8, [.ref yt, .int rT, .int rH, .int (nI G), .ref yw, .int (nI K), .ref yp, .ref yg, .int (nI M), .ref yu, .int (nI N), .ref ysl, .ref yin, .ref yse, .ref ysp, .ref ypa, .int rA, .ref yb, .ref ybd, .ref ybc, .ref yr, .int rF, .int rP, .ref ywd, .int rS, .int rN, .int rO, .int rW, .int rL, .int rD, .ref yd, .int rI, .int rX, .int rY, .int rZ, .int rU, .ref yro, .ref yc, .ref ybe, .ref yco, .long rC, .long rV])), (ysp, .inl (g.2.1 3, 10, .inl qk))] (pz_pl (fun (r : Int64) (u : Unit) => r = -9223372036854775808) (fun (u : Unit) => [(h0, .inr (8, [.ref yt, .int rT, .int 0, .int (nI G), .ref yw, .int (nI K), .ref yp, .ref yg, .int (nI M), .ref yu, .int (nI N), .ref ysl, .ref yin, .ref yse, .ref ysp, .ref ypa, .int rA, .ref yb, .ref ybd, .ref ybc, .ref yr, .int rF, .int rP, .ref ywd, .int rS, .int rN, .int rO, .int rW, .int rL, .int rD, .ref yd, .int rI, .int rX, .int rY, .int rZ, .int rU, .ref yro, .ref yc, .ref ybe, .ref yco, .long rC, .long rV])), (ysp, .inl (g.2.1 3, 10, .inl qk))])) := by
  refine pz_ofAt (by decide +kernel) (Nat.le_of_ble_eq_true rfl) (fun B F Rt hme => ?_)
  refine sgX9_best_R_0 F Rt x w h0 yt rT rH yw yp yg yu ysl yin yse ysp ypa rA yb ybd ybc yr rF rP ywd rS rN rO rW rL rD yd rI rX rY rZ rU yro yc ybe yco rC rV qk G K M N ?_
  clear F Rt hme
  obtain ⟨hN, hno⟩ := hpre
  refine ⟨hN, fun r h => ?_⟩
  rcases h with ⟨h, _⟩ | ⟨_, rfl⟩
  · exact absurd h hno
  · exact ⟨fun _ => ⟨_, (), rfl, rfl, rfl⟩, fun q => absurd rfl q⟩
abbrev rmX9_likely_R : Room := { frames := 2, cells := 0, slots := 0, locals := 42 }
set_option maxHeartbeats 4000000 in
set_option maxRecDepth 100000 in
theorem sgX9_likely_R_0 {B : pz_B} {g : pz_G} {wc : va_W} {Post : Option Value → va_W → Prop} (F : pz_F B cX9_likely 6 (some .long) yX9_likely.cls g rmX9_likely_R) (Rt : pz_Rt B g wc Post rmX9_likely_R) (x : Int32) (kk : Int32) (w : Int32) (h0 : Nat) (yt : Nat) (rT : Int32) (rH : Int32) (yw : Nat) (yp : Nat) (yg : Nat) (yu : Nat) (ysl : Nat) (yin : Nat) (yse : Nat) (ysp : Nat) (ypa : Nat) (rA : Int32) (yb : Nat) (ybd : Nat) (ybc : Nat) (yr : Nat) (rF : Int32) (rP : Int32) (ywd : Nat) (rS : Int32) (rN : Int32) (rO : Int32) (rW : Int32) (rL : Int32) (rD : Int32) (yd : Nat) (rI : Int32) (rX : Int32) (rY : Int32) (rZ : Int32) (rU : Int32) (yro : Nat) (yc : Nat) (ybe : Nat) (yco : Nat) (rC : Int64) (rV : Int64) (qk : Nat → Int32) (G : Nat) (K : Nat) (M : Nat) (N : Nat)  (vc : (N ≤ 10) ∧ ∀ r_2 : Int32, ∀ _ : ((wh_ok x N qk ∧ r_2 = 1) ∨ (¬ wh_ok x N qk ∧ r_2 = 0)), ((r_2 = 0 → Post (some (.long (-1))) [(h0, .inr (8, [.ref yt, .int rT, .int 0, .int (nI G), .ref yw, .int (nI K), .ref yp, .ref yg, .int (nI M), .ref yu, .int (nI N), .ref ysl, .ref yin, .ref yse, .ref ysp, .ref ypa, .int rA, .ref yb, .ref ybd, .ref ybc, .ref yr, .int rF, .int rP, .ref ywd, .int rS, .int rN, .int rO, .int rW, .int rL, .int rD, .ref yd, .int rI, .int rX, .int rY, .int rZ, .int rU, .ref yro, .ref yc, .ref ybe, .ref yco, .long rC, .long rV])), (ysp, .inl (g.2.1 3, 10, .inl qk))]) ∧ (¬ r_2 = 0 → False))) : pz_At B 0 0 0 [(0, .ref h0), (1, .int x), (2, .int kk), (3, .int w)] [] [(h0, .inr (8, [.ref yt, .int rT, .int rH, .int (nI G), .ref yw, .int (nI K), .ref yp, .ref yg, .int (nI M), .ref yu, .int (nI N), .ref ysl, .ref yin, .ref yse, .ref ysp, .ref ypa, .int rA, .ref yb, .ref ybd, .ref ybc, .ref yr, .int rF, .int rP, .ref ywd, .int rS, .int rN, .int rO, .int rW, .int rL, .int rD, .ref yd, .int rI, .int rX, .int rY, .int rZ, .int rU, .ref yro, .ref yc, .ref ybe, .ref yco, .long rC, .long rV])), (ysp, .inl (g.2.1 3, 10, .inl qk))] := by
  refine pz_aload_n 0 F rfl dX9_likely_0 rfl ?_
  refine pz_iconst (v := 0) F dX9_likely_1 rfl ?_
  refine pz_put (ws' := [(h0, .inr (8, [.ref yt, .int rT, .int 0, .int (nI G), .ref yw, .int (nI K), .ref yp, .ref yg, .int (nI M), .ref yu, .int (nI N), .ref ysl, .ref yin, .ref yse, .ref ysp, .ref ypa, .int rA, .ref yb, .ref ybd, .ref ybc, .ref yr, .int rF, .int rP, .ref ywd, .int rS, .int rN, .int rO, .int rW, .int rL, .int rD, .ref yd, .int rI, .int rX, .int rY, .int rZ, .int rU, .ref yro, .ref yc, .ref ybe, .ref yco, .long rC, .long rV])), (ysp, .inl (g.2.1 3, 10, .inl qk))]) (ci := 8) (C := RX9) (T := TX9) (N := 42) (v := .int 0) (ty := .int) 0 F rfl rfl pz_inX9 2 (by decide) pw_810 tyX9_ok nmX9 rfl rfl rfl rfl (Nat.le_of_ble_eq_true rfl) dX9_likely_2 rfl ?_
  refine pz_aload_n 0 F rfl dX9_likely_5 rfl ?_
  refine pz_iload_n 1 F rfl dX9_likely_6 rfl ?_
  obtain ⟨h_1, vc⟩ := vc
  refine pz_callV (nA := 1) (ci := 8) (C := RX9) (T := TX9) (N := 42) (As := [.int x]) (rest := []) (wr := []) F (ctX9_isWhole _ g x h0 yt rT 0 yw yp yg yu ysl yin yse ysp ypa rA yb ybd ybc yr rF rP ywd rS rN rO rW rL rD yd rI rX rY rZ rU yro yc ybe yco rC rV qk G K M N h_1) 0 rfl rfl pw_1012 pw_1014 pv_36 pw_8 pw_1015 (by decide +kernel) (by decide) (by decide) rfl rfl (Nat.le_of_ble_eq_true rfl) [0, 1] [] rfl rfl rfl rfl (by decide) dX9_likely_7 (fun r0 w0 hp0 => ?_)
  obtain ⟨r_2, _, rfl, rfl, hq_3⟩ := hp0
  replace vc := vc r_2  hq_3
  refine pz_eq (st' := [.int r_2]) (ws' := [(h0, .inr (8, [.ref yt, .int rT, .int 0, .int (nI G), .ref yw, .int (nI K), .ref yp, .ref yg, .int (nI M), .ref yu, .int (nI N), .ref ysl, .ref yin, .ref yse, .ref ysp, .ref ypa, .int rA, .ref yb, .ref ybd, .ref ybc, .ref yr, .int rF, .int rP, .ref ywd, .int rS, .int rN, .int rO, .int rW, .int rL, .int rD, .ref yd, .int rI, .int rX, .int rY, .int rZ, .int rU, .ref yro, .ref yc, .ref ybe, .ref yco, .long rC, .long rV])), (ysp, .inl (g.2.1 3, 10, .inl qk))]) rfl rfl ?_
  refine pz_if_eq (tgt := 34) F dX9_likely_10 (by decide) (fun q_4 => ?_) (fun q_4 => ?_)
  · replace vc := vc.1 q_4
    refine pz_ldc2 (v := (-1)) F pw_1096 dX9_likely_34 ?_
    exact pz_lreturn (w1 := [(h0, .inr (8, [.ref yt, .int rT, .int 0, .int (nI G), .ref yw, .int (nI K), .ref yp, .ref yg, .int (nI M), .ref yu, .int (nI N), .ref ysl, .ref yin, .ref yse, .ref ysp, .ref ypa, .int rA, .ref yb, .ref ybd, .ref ybc, .ref yr, .int rF, .int rP, .ref ywd, .int rS, .int rN, .int rO, .int rW, .int rL, .int rD, .ref yd, .int rI, .int rX, .int rY, .int rZ, .int rU, .ref yro, .ref yc, .ref ybe, .ref yco, .long rC, .long rV])), (ysp, .inl (g.2.1 3, 10, .inl qk))]) F Rt (by decide) (by decide) dX9_likely_37 [0, 1] rfl rfl vc
  · replace vc := vc.2 q_4
    exact vc.elim
set_option maxHeartbeats 4000000 in
set_option maxRecDepth 100000 in
theorem ctX9_likely_R (l : Launch) (g : pz_G) (x : Int32) (kk : Int32) (w : Int32) (h0 : Nat) (yt : Nat) (rT : Int32) (rH : Int32) (yw : Nat) (yp : Nat) (yg : Nat) (yu : Nat) (ysl : Nat) (yin : Nat) (yse : Nat) (ysp : Nat) (ypa : Nat) (rA : Int32) (yb : Nat) (ybd : Nat) (ybc : Nat) (yr : Nat) (rF : Int32) (rP : Int32) (ywd : Nat) (rS : Int32) (rN : Int32) (rO : Int32) (rW : Int32) (rL : Int32) (rD : Int32) (yd : Nat) (rI : Int32) (rX : Int32) (rY : Int32) (rZ : Int32) (rU : Int32) (yro : Nat) (yc : Nat) (ybe : Nat) (yco : Nat) (rC : Int64) (rV : Int64) (qk : Nat → Int32) (G : Nat) (K : Nat) (M : Nat) (N : Nat) (hpre : N ≤ 10 ∧ ¬ wh_ok x N qk) : pz_Ct l g yX9_likely cX9_likely 6 (some .long) rmX9_likely_R [.ref h0, .int x, .int kk, .int w] [(h0, .inr (8, [.ref yt, .int rT, .int rH, .int (nI G), .ref yw, .int (nI K), .ref yp, .ref yg, .int (nI M), .ref yu, .int (nI N), .ref ysl, .ref yin, .ref yse, .ref ysp, .ref ypa, .int rA, .ref yb, .ref ybd, .ref ybc, .ref yr, .int rF, .int rP, .ref ywd, .int rS, .int rN, .int rO, .int rW, .int rL, .int rD, .ref yd, .int rI, .int rX, .int rY, .int rZ, .int rU, .ref yro, .ref yc, .ref ybe, .ref yco, .long rC, .long rV])), (ysp, .inl (g.2.1 3, 10, .inl qk))] (pz_pl (fun (r : Int64) (u : Unit) => r = -1) (fun (u : Unit) => [(h0, .inr (8, [.ref yt, .int rT, .int 0, .int (nI G), .ref yw, .int (nI K), .ref yp, .ref yg, .int (nI M), .ref yu, .int (nI N), .ref ysl, .ref yin, .ref yse, .ref ysp, .ref ypa, .int rA, .ref yb, .ref ybd, .ref ybc, .ref yr, .int rF, .int rP, .ref ywd, .int rS, .int rN, .int rO, .int rW, .int rL, .int rD, .ref yd, .int rI, .int rX, .int rY, .int rZ, .int rU, .ref yro, .ref yc, .ref ybe, .ref yco, .long rC, .long rV])), (ysp, .inl (g.2.1 3, 10, .inl qk))])) := by
  refine pz_ofAt (by decide +kernel) (Nat.le_of_ble_eq_true rfl) (fun B F Rt hme => ?_)
  refine sgX9_likely_R_0 F Rt x kk w h0 yt rT rH yw yp yg yu ysl yin yse ysp ypa rA yb ybd ybc yr rF rP ywd rS rN rO rW rL rD yd rI rX rY rZ rU yro yc ybe yco rC rV qk G K M N ?_
  clear F Rt hme
  obtain ⟨hN, hno⟩ := hpre
  refine ⟨hN, fun r h => ?_⟩
  rcases h with ⟨h, _⟩ | ⟨_, rfl⟩
  · exact absurd h hno
  · exact ⟨fun _ => ⟨_, (), rfl, rfl, rfl⟩, fun q => absurd rfl q⟩
abbrev rmX9_likely_T : Room := { frames := 2, cells := 0, slots := 0, locals := 55 }
set_option maxHeartbeats 4000000 in
set_option maxRecDepth 100000 in
theorem sgX9_likely_T_0 {B : pz_B} {g : pz_G} {wc : va_W} {Post : Option Value → va_W → Prop} (F : pz_F B cX9_likely 6 (some .long) yX9_likely.cls g rmX9_likely_T) (Rt : pz_Rt B g wc Post rmX9_likely_T) (kk : Int32) (w : Int32) (h0 : Nat) (yt : Nat) (rT : Int32) (rH : Int32) (yw : Nat) (yp : Nat) (yg : Nat) (yu : Nat) (ysl : Nat) (yin : Nat) (yse : Nat) (ysp : Nat) (ypa : Nat) (rA : Int32) (yb : Nat) (ybd : Nat) (ybc : Nat) (yr : Nat) (rF : Int32) (rP : Int32) (ywd : Nat) (rS : Int32) (rN : Int32) (rO : Int32) (rW : Int32) (rL : Int32) (rD : Int32) (yd : Nat) (rI : Int32) (rX : Int32) (rY : Int32) (rZ : Int32) (rU : Int32) (yro : Nat) (yc : Nat) (ybe : Nat) (yco : Nat) (rC : Int64) (rV : Int64) (qk : Nat → Int32) (qe : Nat → Int32) (qi : Nat → Int32) (qp : Nat → Int32) (qg : Nat → Int32) (qC : Nat → Int64) (G : Nat) (K : Nat) (M : Nat) (N : Nat) (b : Nat) (s : Nat) (A : Nat) (C : Nat)  (vc : (N ≤ 10) ∧ ∀ r_2 : Int32, ∀ _ : ((wh_ok (nI b) N qk ∧ r_2 = 1) ∨ (¬ wh_ok (nI b) N qk ∧ r_2 = 0)), ((r_2 = 0 → Post (some (.long (-1))) [(h0, .inr (8, [.ref yt, .int rT, .int 0, .int (nI G), .ref yw, .int (nI K), .ref yp, .ref yg, .int (nI M), .ref yu, .int (nI N), .ref ysl, .ref yin, .ref yse, .ref ysp, .ref ypa, .int rA, .ref yb, .ref ybd, .ref ybc, .ref yr, .int rF, .int rP, .ref ywd, .int rS, .int rN, .int rO, .int rW, .int rL, .int rD, .ref yd, .int rI, .int rX, .int rY, .int rZ, .int rU, .ref yro, .ref yc, .ref ybe, .ref yco, .long rC, .long rV])), (ysp, .inl (g.2.1 3, 10, .inl qk)), (yse, .inl (g.2.1 1, 10, .inl qe)), (yin, .inl (g.2.1 1, 10, .inl qi)), (yp, .inl (g.2.1 1, 3, .inl qp)), (yg, .inl (g.2.1 1, 12, .inl qg)), (yc, .inl (g.2.1 2, 3, .inr (.inl qC)))]) ∧ (¬ r_2 = 0 → ((kk < 0 → Post (some (.long (-1))) [(h0, .inr (8, [.ref yt, .int rT, .int 0, .int (nI G), .ref yw, .int (nI K), .ref yp, .ref yg, .int (nI M), .ref yu, .int (nI N), .ref ysl, .ref yin, .ref yse, .ref ysp, .ref ypa, .int rA, .ref yb, .ref ybd, .ref ybc, .ref yr, .int rF, .int rP, .ref ywd, .int rS, .int rN, .int rO, .int rW, .int rL, .int rD, .ref yd, .int rI, .int rX, .int rY, .int rZ, .int rU, .ref yro, .ref yc, .ref ybe, .ref yco, .long rC, .long rV])), (ysp, .inl (g.2.1 3, 10, .inl qk)), (yse, .inl (g.2.1 1, 10, .inl qe)), (yin, .inl (g.2.1 1, 10, .inl qi)), (yp, .inl (g.2.1 1, 3, .inl qp)), (yg, .inl (g.2.1 1, 12, .inl qg)), (yc, .inl (g.2.1 2, 3, .inr (.inl qC)))]) ∧ (¬ kk < 0 → (((nI K) ≤ kk → Post (some (.long (-1))) [(h0, .inr (8, [.ref yt, .int rT, .int 0, .int (nI G), .ref yw, .int (nI K), .ref yp, .ref yg, .int (nI M), .ref yu, .int (nI N), .ref ysl, .ref yin, .ref yse, .ref ysp, .ref ypa, .int rA, .ref yb, .ref ybd, .ref ybc, .ref yr, .int rF, .int rP, .ref ywd, .int rS, .int rN, .int rO, .int rW, .int rL, .int rD, .ref yd, .int rI, .int rX, .int rY, .int rZ, .int rU, .ref yro, .ref yc, .ref ybe, .ref yco, .long rC, .long rV])), (ysp, .inl (g.2.1 3, 10, .inl qk)), (yse, .inl (g.2.1 1, 10, .inl qe)), (yin, .inl (g.2.1 1, 10, .inl qi)), (yp, .inl (g.2.1 1, 3, .inl qp)), (yg, .inl (g.2.1 1, 12, .inl qg)), (yc, .inl (g.2.1 2, 3, .inr (.inl qC)))]) ∧ (¬ (nI K) ≤ kk → ((w < 0 → Post (some (.long (-1))) [(h0, .inr (8, [.ref yt, .int rT, .int 0, .int (nI G), .ref yw, .int (nI K), .ref yp, .ref yg, .int (nI M), .ref yu, .int (nI N), .ref ysl, .ref yin, .ref yse, .ref ysp, .ref ypa, .int rA, .ref yb, .ref ybd, .ref ybc, .ref yr, .int rF, .int rP, .ref ywd, .int rS, .int rN, .int rO, .int rW, .int rL, .int rD, .ref yd, .int rI, .int rX, .int rY, .int rZ, .int rU, .ref yro, .ref yc, .ref ybe, .ref yco, .long rC, .long rV])), (ysp, .inl (g.2.1 3, 10, .inl qk)), (yse, .inl (g.2.1 1, 10, .inl qe)), (yin, .inl (g.2.1 1, 10, .inl qi)), (yp, .inl (g.2.1 1, 3, .inl qp)), (yg, .inl (g.2.1 1, 12, .inl qg)), (yc, .inl (g.2.1 2, 3, .inr (.inl qC)))]) ∧ (¬ w < 0 → ((w ≤ 1 → (b < 10 ∧ K ≤ 3 ∧ s ≤ 8 ∧ qe b = nI s) ∧ ∀ r_11 : Int64, ∀ c2_10 : Nat → Int64, ∀ _ : (r_11 = (pu_wa qp qg (qi b) s K) ∧ ∀ a, a < K → c2_10 a = pu_wg qp qg (qi b) a s), ((¬ (lg_cmp r_11 0) = 0 → vp_in kk 3 ∧ ∃ A_15 : Nat, ∃ C_16 : Nat, (A_15 < 2 ^ 63 ∧ C_16 < 2 ^ 63 ∧ (c2_10 kk.toNatClampNeg) = lN A_15 ∧ r_11 = lN C_16) ∧ ∀ r_18 : Int64, ∀ _ : (r_18 = rd_a A_15 C_16 w), Post (some (.long r_18)) [(h0, .inr (8, [.ref yt, .int rT, .int 0, .int (nI G), .ref yw, .int (nI K), .ref yp, .ref yg, .int (nI M), .ref yu, .int (nI N), .ref ysl, .ref yin, .ref yse, .ref ysp, .ref ypa, .int rA, .ref yb, .ref ybd, .ref ybc, .ref yr, .int rF, .int rP, .ref ywd, .int rS, .int rN, .int rO, .int rW, .int rL, .int rD, .ref yd, .int rI, .int rX, .int rY, .int rZ, .int rU, .ref yro, .ref yc, .ref ybe, .ref yco, .long rC, .long rV])), (ysp, .inl (g.2.1 3, 10, .inl qk)), (yse, .inl (g.2.1 1, 10, .inl qe)), (yin, .inl (g.2.1 1, 10, .inl qi)), (yp, .inl (g.2.1 1, 3, .inl qp)), (yg, .inl (g.2.1 1, 12, .inl qg)), (yc, .inl (g.2.1 2, 3, .inr (.inl c2_10)))]) ∧ ((lg_cmp r_11 0) = 0 → Post (some (.long (-1))) [(h0, .inr (8, [.ref yt, .int rT, .int 0, .int (nI G), .ref yw, .int (nI K), .ref yp, .ref yg, .int (nI M), .ref yu, .int (nI N), .ref ysl, .ref yin, .ref yse, .ref ysp, .ref ypa, .int rA, .ref yb, .ref ybd, .ref ybc, .ref yr, .int rF, .int rP, .ref ywd, .int rS, .int rN, .int rO, .int rW, .int rL, .int rD, .ref yd, .int rI, .int rX, .int rY, .int rZ, .int rU, .ref yro, .ref yc, .ref ybe, .ref yco, .long rC, .long rV])), (ysp, .inl (g.2.1 3, 10, .inl qk)), (yse, .inl (g.2.1 1, 10, .inl qe)), (yin, .inl (g.2.1 1, 10, .inl qi)), (yp, .inl (g.2.1 1, 3, .inl qp)), (yg, .inl (g.2.1 1, 12, .inl qg)), (yc, .inl (g.2.1 2, 3, .inr (.inl c2_10)))]))) ∧ (¬ w ≤ 1 → Post (some (.long (-1))) [(h0, .inr (8, [.ref yt, .int rT, .int 0, .int (nI G), .ref yw, .int (nI K), .ref yp, .ref yg, .int (nI M), .ref yu, .int (nI N), .ref ysl, .ref yin, .ref yse, .ref ysp, .ref ypa, .int rA, .ref yb, .ref ybd, .ref ybc, .ref yr, .int rF, .int rP, .ref ywd, .int rS, .int rN, .int rO, .int rW, .int rL, .int rD, .ref yd, .int rI, .int rX, .int rY, .int rZ, .int rU, .ref yro, .ref yc, .ref ybe, .ref yco, .long rC, .long rV])), (ysp, .inl (g.2.1 3, 10, .inl qk)), (yse, .inl (g.2.1 1, 10, .inl qe)), (yin, .inl (g.2.1 1, 10, .inl qi)), (yp, .inl (g.2.1 1, 3, .inl qp)), (yg, .inl (g.2.1 1, 12, .inl qg)), (yc, .inl (g.2.1 2, 3, .inr (.inl qC)))]))))))))))) : pz_At B 0 0 0 [(0, .ref h0), (1, .int (nI b)), (2, .int kk), (3, .int w)] [] [(h0, .inr (8, [.ref yt, .int rT, .int rH, .int (nI G), .ref yw, .int (nI K), .ref yp, .ref yg, .int (nI M), .ref yu, .int (nI N), .ref ysl, .ref yin, .ref yse, .ref ysp, .ref ypa, .int rA, .ref yb, .ref ybd, .ref ybc, .ref yr, .int rF, .int rP, .ref ywd, .int rS, .int rN, .int rO, .int rW, .int rL, .int rD, .ref yd, .int rI, .int rX, .int rY, .int rZ, .int rU, .ref yro, .ref yc, .ref ybe, .ref yco, .long rC, .long rV])), (ysp, .inl (g.2.1 3, 10, .inl qk)), (yse, .inl (g.2.1 1, 10, .inl qe)), (yin, .inl (g.2.1 1, 10, .inl qi)), (yp, .inl (g.2.1 1, 3, .inl qp)), (yg, .inl (g.2.1 1, 12, .inl qg)), (yc, .inl (g.2.1 2, 3, .inr (.inl qC)))] := by
  refine pz_aload_n 0 F rfl dX9_likely_0 rfl ?_
  refine pz_iconst (v := 0) F dX9_likely_1 rfl ?_
  refine pz_put (ws' := [(h0, .inr (8, [.ref yt, .int rT, .int 0, .int (nI G), .ref yw, .int (nI K), .ref yp, .ref yg, .int (nI M), .ref yu, .int (nI N), .ref ysl, .ref yin, .ref yse, .ref ysp, .ref ypa, .int rA, .ref yb, .ref ybd, .ref ybc, .ref yr, .int rF, .int rP, .ref ywd, .int rS, .int rN, .int rO, .int rW, .int rL, .int rD, .ref yd, .int rI, .int rX, .int rY, .int rZ, .int rU, .ref yro, .ref yc, .ref ybe, .ref yco, .long rC, .long rV])), (ysp, .inl (g.2.1 3, 10, .inl qk)), (yse, .inl (g.2.1 1, 10, .inl qe)), (yin, .inl (g.2.1 1, 10, .inl qi)), (yp, .inl (g.2.1 1, 3, .inl qp)), (yg, .inl (g.2.1 1, 12, .inl qg)), (yc, .inl (g.2.1 2, 3, .inr (.inl qC)))]) (ci := 8) (C := RX9) (T := TX9) (N := 42) (v := .int 0) (ty := .int) 0 F rfl rfl pz_inX9 2 (by decide) pw_810 tyX9_ok nmX9 rfl rfl rfl rfl (Nat.le_of_ble_eq_true rfl) dX9_likely_2 rfl ?_
  refine pz_aload_n 0 F rfl dX9_likely_5 rfl ?_
  refine pz_iload_n 1 F rfl dX9_likely_6 rfl ?_
  obtain ⟨h_1, vc⟩ := vc
  refine pz_callV (nA := 1) (ci := 8) (C := RX9) (T := TX9) (N := 42) (As := [.int (nI b)]) (rest := []) (wr := [(yse, .inl (g.2.1 1, 10, .inl qe)), (yin, .inl (g.2.1 1, 10, .inl qi)), (yp, .inl (g.2.1 1, 3, .inl qp)), (yg, .inl (g.2.1 1, 12, .inl qg)), (yc, .inl (g.2.1 2, 3, .inr (.inl qC)))]) F (ctX9_isWhole _ g (nI b) h0 yt rT 0 yw yp yg yu ysl yin yse ysp ypa rA yb ybd ybc yr rF rP ywd rS rN rO rW rL rD yd rI rX rY rZ rU yro yc ybe yco rC rV qk G K M N h_1) 0 rfl rfl pw_1012 pw_1014 pv_36 pw_8 pw_1015 (by decide +kernel) (by decide) (by decide) rfl rfl (Nat.le_of_ble_eq_true rfl) [0, 1] [2, 3, 4, 5, 6] rfl rfl rfl rfl (by decide) dX9_likely_7 (fun r0 w0 hp0 => ?_)
  obtain ⟨r_2, _, rfl, rfl, hq_3⟩ := hp0
  replace vc := vc r_2  hq_3
  refine pz_eq (st' := [.int r_2]) (ws' := [(yse, .inl (g.2.1 1, 10, .inl qe)), (yin, .inl (g.2.1 1, 10, .inl qi)), (yp, .inl (g.2.1 1, 3, .inl qp)), (yg, .inl (g.2.1 1, 12, .inl qg)), (yc, .inl (g.2.1 2, 3, .inr (.inl qC))), (h0, .inr (8, [.ref yt, .int rT, .int 0, .int (nI G), .ref yw, .int (nI K), .ref yp, .ref yg, .int (nI M), .ref yu, .int (nI N), .ref ysl, .ref yin, .ref yse, .ref ysp, .ref ypa, .int rA, .ref yb, .ref ybd, .ref ybc, .ref yr, .int rF, .int rP, .ref ywd, .int rS, .int rN, .int rO, .int rW, .int rL, .int rD, .ref yd, .int rI, .int rX, .int rY, .int rZ, .int rU, .ref yro, .ref yc, .ref ybe, .ref yco, .long rC, .long rV])), (ysp, .inl (g.2.1 3, 10, .inl qk))]) rfl rfl ?_
  refine pz_if_eq (tgt := 34) F dX9_likely_10 (by decide) (fun q_4 => ?_) (fun q_4 => ?_)
  · replace vc := vc.1 q_4
    refine pz_ldc2 (v := (-1)) F pw_1096 dX9_likely_34 ?_
    exact pz_lreturn (w1 := [(h0, .inr (8, [.ref yt, .int rT, .int 0, .int (nI G), .ref yw, .int (nI K), .ref yp, .ref yg, .int (nI M), .ref yu, .int (nI N), .ref ysl, .ref yin, .ref yse, .ref ysp, .ref ypa, .int rA, .ref yb, .ref ybd, .ref ybc, .ref yr, .int rF, .int rP, .ref ywd, .int rS, .int rN, .int rO, .int rW, .int rL, .int rD, .ref yd, .int rI, .int rX, .int rY, .int rZ, .int rU, .ref yro, .ref yc, .ref ybe, .ref yco, .long rC, .long rV])), (ysp, .inl (g.2.1 3, 10, .inl qk)), (yse, .inl (g.2.1 1, 10, .inl qe)), (yin, .inl (g.2.1 1, 10, .inl qi)), (yp, .inl (g.2.1 1, 3, .inl qp)), (yg, .inl (g.2.1 1, 12, .inl qg)), (yc, .inl (g.2.1 2, 3, .inr (.inl qC)))]) F Rt (by decide) (by decide) dX9_likely_37 [5, 6, 0, 1, 2, 3, 4] rfl rfl vc
  · replace vc := vc.2 q_4
    refine pz_iload_n 2 F rfl dX9_likely_13 rfl ?_
    refine pz_if_lt (tgt := 34) F dX9_likely_14 (by decide) (fun q_5 => ?_) (fun q_5 => ?_)
    · replace vc := vc.1 q_5
      refine pz_ldc2 (v := (-1)) F pw_1096 dX9_likely_34 ?_
      exact pz_lreturn (w1 := [(h0, .inr (8, [.ref yt, .int rT, .int 0, .int (nI G), .ref yw, .int (nI K), .ref yp, .ref yg, .int (nI M), .ref yu, .int (nI N), .ref ysl, .ref yin, .ref yse, .ref ysp, .ref ypa, .int rA, .ref yb, .ref ybd, .ref ybc, .ref yr, .int rF, .int rP, .ref ywd, .int rS, .int rN, .int rO, .int rW, .int rL, .int rD, .ref yd, .int rI, .int rX, .int rY, .int rZ, .int rU, .ref yro, .ref yc, .ref ybe, .ref yco, .long rC, .long rV])), (ysp, .inl (g.2.1 3, 10, .inl qk)), (yse, .inl (g.2.1 1, 10, .inl qe)), (yin, .inl (g.2.1 1, 10, .inl qi)), (yp, .inl (g.2.1 1, 3, .inl qp)), (yg, .inl (g.2.1 1, 12, .inl qg)), (yc, .inl (g.2.1 2, 3, .inr (.inl qC)))]) F Rt (by decide) (by decide) dX9_likely_37 [5, 6, 0, 1, 2, 3, 4] rfl rfl vc
    · replace vc := vc.2 q_5
      refine pz_iload_n 2 F rfl dX9_likely_17 rfl ?_
      refine pz_aload_n 0 F rfl dX9_likely_18 rfl ?_
      refine pz_get (ci := 8) (C := RX9) (T := TX9) (N := 42) (v := .int (nI K)) 5 F rfl rfl pz_inX9 5 (by decide) pw_813 rfl dX9_likely_19 ?_
      refine pz_icmp_ge (tgt := 34) F dX9_likely_22 (by decide) (fun q_6 => ?_) (fun q_6 => ?_)
      · replace vc := vc.1 q_6
        refine pz_ldc2 (v := (-1)) F pw_1096 dX9_likely_34 ?_
        exact pz_lreturn (w1 := [(h0, .inr (8, [.ref yt, .int rT, .int 0, .int (nI G), .ref yw, .int (nI K), .ref yp, .ref yg, .int (nI M), .ref yu, .int (nI N), .ref ysl, .ref yin, .ref yse, .ref ysp, .ref ypa, .int rA, .ref yb, .ref ybd, .ref ybc, .ref yr, .int rF, .int rP, .ref ywd, .int rS, .int rN, .int rO, .int rW, .int rL, .int rD, .ref yd, .int rI, .int rX, .int rY, .int rZ, .int rU, .ref yro, .ref yc, .ref ybe, .ref yco, .long rC, .long rV])), (ysp, .inl (g.2.1 3, 10, .inl qk)), (yse, .inl (g.2.1 1, 10, .inl qe)), (yin, .inl (g.2.1 1, 10, .inl qi)), (yp, .inl (g.2.1 1, 3, .inl qp)), (yg, .inl (g.2.1 1, 12, .inl qg)), (yc, .inl (g.2.1 2, 3, .inr (.inl qC)))]) F Rt (by decide) (by decide) dX9_likely_37 [5, 6, 0, 1, 2, 3, 4] rfl rfl vc
      · replace vc := vc.2 q_6
        refine pz_iload_n 3 F rfl dX9_likely_25 rfl ?_
        refine pz_if_lt (tgt := 34) F dX9_likely_26 (by decide) (fun q_7 => ?_) (fun q_7 => ?_)
        · replace vc := vc.1 q_7
          refine pz_ldc2 (v := (-1)) F pw_1096 dX9_likely_34 ?_
          exact pz_lreturn (w1 := [(h0, .inr (8, [.ref yt, .int rT, .int 0, .int (nI G), .ref yw, .int (nI K), .ref yp, .ref yg, .int (nI M), .ref yu, .int (nI N), .ref ysl, .ref yin, .ref yse, .ref ysp, .ref ypa, .int rA, .ref yb, .ref ybd, .ref ybc, .ref yr, .int rF, .int rP, .ref ywd, .int rS, .int rN, .int rO, .int rW, .int rL, .int rD, .ref yd, .int rI, .int rX, .int rY, .int rZ, .int rU, .ref yro, .ref yc, .ref ybe, .ref yco, .long rC, .long rV])), (ysp, .inl (g.2.1 3, 10, .inl qk)), (yse, .inl (g.2.1 1, 10, .inl qe)), (yin, .inl (g.2.1 1, 10, .inl qi)), (yp, .inl (g.2.1 1, 3, .inl qp)), (yg, .inl (g.2.1 1, 12, .inl qg)), (yc, .inl (g.2.1 2, 3, .inr (.inl qC)))]) F Rt (by decide) (by decide) dX9_likely_37 [5, 6, 0, 1, 2, 3, 4] rfl rfl vc
        · replace vc := vc.2 q_7
          refine pz_iload_n 3 F rfl dX9_likely_29 rfl ?_
          refine pz_iconst (v := 1) F dX9_likely_30 rfl ?_
          refine pz_icmp_le (tgt := 38) F dX9_likely_31 (by decide) (fun q_8 => ?_) (fun q_8 => ?_)
          · replace vc := vc.1 q_8
            refine pz_aload_n 0 F rfl dX9_likely_38 rfl ?_
            refine pz_iload_n 1 F rfl dX9_likely_39 rfl ?_
            obtain ⟨h_9, vc⟩ := vc
            refine pz_callV (nA := 1) (ci := 8) (C := RX9) (T := TX9) (N := 42) (As := [.int (nI b)]) (rest := []) (wr := [(ysp, .inl (g.2.1 3, 10, .inl qk))]) F (ctX9_chances _ g h0 yt rT 0 yw yp yg yu ysl yin yse ysp ypa rA yb ybd ybc yr rF rP ywd rS rN rO rW rL rD yd rI rX rY rZ rU yro yc ybe yco rC rV qe qi qp qg qC G K M N b s h_9) 5 rfl rfl pw_1097 pw_1099 pv_47 pw_8 pw_1100 (by decide +kernel) (by decide) (by decide) rfl rfl (Nat.le_of_ble_eq_true rfl) [5, 0, 1, 2, 3, 4] [6] rfl rfl rfl rfl (by decide) dX9_likely_40 (fun r0 w0 hp0 => ?_)
            obtain ⟨r_11, c2_10, rfl, rfl, hq_12⟩ := hp0
            replace vc := vc r_11 c2_10 hq_12
            refine pz_eq (st' := [.long r_11]) (ws' := [(ysp, .inl (g.2.1 3, 10, .inl qk)), (h0, .inr (8, [.ref yt, .int rT, .int 0, .int (nI G), .ref yw, .int (nI K), .ref yp, .ref yg, .int (nI M), .ref yu, .int (nI N), .ref ysl, .ref yin, .ref yse, .ref ysp, .ref ypa, .int rA, .ref yb, .ref ybd, .ref ybc, .ref yr, .int rF, .int rP, .ref ywd, .int rS, .int rN, .int rO, .int rW, .int rL, .int rD, .ref yd, .int rI, .int rX, .int rY, .int rZ, .int rU, .ref yro, .ref yc, .ref ybe, .ref yco, .long rC, .long rV])), (yse, .inl (g.2.1 1, 10, .inl qe)), (yin, .inl (g.2.1 1, 10, .inl qi)), (yp, .inl (g.2.1 1, 3, .inl qp)), (yg, .inl (g.2.1 1, 12, .inl qg)), (yc, .inl (g.2.1 2, 3, .inr (.inl c2_10)))]) rfl rfl ?_
            refine pz_lstore (lv' := [(4, .long r_11), (0, .ref h0), (1, .int (nI b)), (2, .int kk), (3, .int w)]) F dX9_likely_43 (by decide) rfl ?_
            refine pz_lload 0 F rfl dX9_likely_45 ?_
            refine pz_lconst (v := 0) F dX9_likely_47 rfl ?_
            refine pz_lcmp F dX9_likely_48 ?_
            refine pz_if_ne (tgt := 58) F dX9_likely_49 (by decide) (fun q_13 => ?_) (fun q_13 => ?_)
            · replace vc := vc.1 q_13
              refine pz_aload_n 1 F rfl dX9_likely_58 rfl ?_
              refine pz_get (ci := 8) (C := RX9) (T := TX9) (N := 42) (v := .ref yc) 1 F rfl rfl pz_inX9 37 (by decide) pw_845 rfl dX9_likely_59 ?_
              refine pz_iload_n 3 F rfl dX9_likely_62 rfl ?_
              obtain ⟨h_14, vc⟩ := vc
              refine pz_laload 6 F rfl h_14 dX9_likely_63 ?_
              refine pz_lload 0 F rfl dX9_likely_64 ?_
              refine pz_iload_n 4 F rfl dX9_likely_66 rfl ?_
              obtain ⟨A_15, vc⟩ := vc
              obtain ⟨C_16, vc⟩ := vc
              obtain ⟨h_17, vc⟩ := vc
              refine pz_callS (nA := 3) (As := [.long (c2_10 kk.toNatClampNeg), .long r_11, .int w]) (rest := []) (wr := [(ysp, .inl (g.2.1 3, 10, .inl qk)), (h0, .inr (8, [.ref yt, .int rT, .int 0, .int (nI G), .ref yw, .int (nI K), .ref yp, .ref yg, .int (nI M), .ref yu, .int (nI N), .ref ysl, .ref yin, .ref yse, .ref ysp, .ref ypa, .int rA, .ref yb, .ref ybd, .ref ybc, .ref yr, .int rF, .int rP, .ref ywd, .int rS, .int rN, .int rO, .int rW, .int rL, .int rD, .ref yd, .int rI, .int rX, .int rY, .int rZ, .int rU, .ref yro, .ref yc, .ref ybe, .ref yco, .long rC, .long rV])), (yse, .inl (g.2.1 1, 10, .inl qe)), (yin, .inl (g.2.1 1, 10, .inl qi)), (yp, .inl (g.2.1 1, 3, .inl qp)), (yg, .inl (g.2.1 1, 12, .inl qg)), (yc, .inl (g.2.1 2, 3, .inr (.inl c2_10)))]) F (ctX9_least _ g (c2_10 kk.toNatClampNeg) r_11 w A_15 C_16 h_17) pw_1102 pw_1103 pw_8 pw_1104 (by decide +kernel) (by decide) (by decide) rfl rfl (Nat.le_of_ble_eq_true rfl) [] [0, 1, 2, 3, 4, 5, 6] rfl rfl rfl rfl (by decide) dX9_likely_67 (fun r0 w0 hp0 => ?_)
              obtain ⟨r_18, _, rfl, rfl, hq_19⟩ := hp0
              replace vc := vc r_18  hq_19
              refine pz_eq (st' := [.long r_18]) (ws' := [(ysp, .inl (g.2.1 3, 10, .inl qk)), (h0, .inr (8, [.ref yt, .int rT, .int 0, .int (nI G), .ref yw, .int (nI K), .ref yp, .ref yg, .int (nI M), .ref yu, .int (nI N), .ref ysl, .ref yin, .ref yse, .ref ysp, .ref ypa, .int rA, .ref yb, .ref ybd, .ref ybc, .ref yr, .int rF, .int rP, .ref ywd, .int rS, .int rN, .int rO, .int rW, .int rL, .int rD, .ref yd, .int rI, .int rX, .int rY, .int rZ, .int rU, .ref yro, .ref yc, .ref ybe, .ref yco, .long rC, .long rV])), (yse, .inl (g.2.1 1, 10, .inl qe)), (yin, .inl (g.2.1 1, 10, .inl qi)), (yp, .inl (g.2.1 1, 3, .inl qp)), (yg, .inl (g.2.1 1, 12, .inl qg)), (yc, .inl (g.2.1 2, 3, .inr (.inl c2_10)))]) rfl rfl ?_
              exact pz_lreturn (w1 := [(h0, .inr (8, [.ref yt, .int rT, .int 0, .int (nI G), .ref yw, .int (nI K), .ref yp, .ref yg, .int (nI M), .ref yu, .int (nI N), .ref ysl, .ref yin, .ref yse, .ref ysp, .ref ypa, .int rA, .ref yb, .ref ybd, .ref ybc, .ref yr, .int rF, .int rP, .ref ywd, .int rS, .int rN, .int rO, .int rW, .int rL, .int rD, .ref yd, .int rI, .int rX, .int rY, .int rZ, .int rU, .ref yro, .ref yc, .ref ybe, .ref yco, .long rC, .long rV])), (ysp, .inl (g.2.1 3, 10, .inl qk)), (yse, .inl (g.2.1 1, 10, .inl qe)), (yin, .inl (g.2.1 1, 10, .inl qi)), (yp, .inl (g.2.1 1, 3, .inl qp)), (yg, .inl (g.2.1 1, 12, .inl qg)), (yc, .inl (g.2.1 2, 3, .inr (.inl c2_10)))]) F Rt (by decide) (by decide) dX9_likely_70 [1, 0, 2, 3, 4, 5, 6] rfl rfl vc
            · replace vc := vc.2 q_13
              refine pz_ldc2 (v := (-1)) F pw_1096 dX9_likely_52 ?_
              refine pz_goto (tgt := 70) F dX9_likely_55 (by decide) ?_
              exact pz_lreturn (w1 := [(h0, .inr (8, [.ref yt, .int rT, .int 0, .int (nI G), .ref yw, .int (nI K), .ref yp, .ref yg, .int (nI M), .ref yu, .int (nI N), .ref ysl, .ref yin, .ref yse, .ref ysp, .ref ypa, .int rA, .ref yb, .ref ybd, .ref ybc, .ref yr, .int rF, .int rP, .ref ywd, .int rS, .int rN, .int rO, .int rW, .int rL, .int rD, .ref yd, .int rI, .int rX, .int rY, .int rZ, .int rU, .ref yro, .ref yc, .ref ybe, .ref yco, .long rC, .long rV])), (ysp, .inl (g.2.1 3, 10, .inl qk)), (yse, .inl (g.2.1 1, 10, .inl qe)), (yin, .inl (g.2.1 1, 10, .inl qi)), (yp, .inl (g.2.1 1, 3, .inl qp)), (yg, .inl (g.2.1 1, 12, .inl qg)), (yc, .inl (g.2.1 2, 3, .inr (.inl c2_10)))]) F Rt (by decide) (by decide) dX9_likely_70 [1, 0, 2, 3, 4, 5, 6] rfl rfl vc
          · replace vc := vc.2 q_8
            refine pz_ldc2 (v := (-1)) F pw_1096 dX9_likely_34 ?_
            exact pz_lreturn (w1 := [(h0, .inr (8, [.ref yt, .int rT, .int 0, .int (nI G), .ref yw, .int (nI K), .ref yp, .ref yg, .int (nI M), .ref yu, .int (nI N), .ref ysl, .ref yin, .ref yse, .ref ysp, .ref ypa, .int rA, .ref yb, .ref ybd, .ref ybc, .ref yr, .int rF, .int rP, .ref ywd, .int rS, .int rN, .int rO, .int rW, .int rL, .int rD, .ref yd, .int rI, .int rX, .int rY, .int rZ, .int rU, .ref yro, .ref yc, .ref ybe, .ref yco, .long rC, .long rV])), (ysp, .inl (g.2.1 3, 10, .inl qk)), (yse, .inl (g.2.1 1, 10, .inl qe)), (yin, .inl (g.2.1 1, 10, .inl qi)), (yp, .inl (g.2.1 1, 3, .inl qp)), (yg, .inl (g.2.1 1, 12, .inl qg)), (yc, .inl (g.2.1 2, 3, .inr (.inl qC)))]) F Rt (by decide) (by decide) dX9_likely_37 [5, 6, 0, 1, 2, 3, 4] rfl rfl vc
set_option maxHeartbeats 4000000 in
set_option maxRecDepth 100000 in
theorem ctX9_likely_T (l : Launch) (g : pz_G) (kk : Int32) (w : Int32) (h0 : Nat) (yt : Nat) (rT : Int32) (rH : Int32) (yw : Nat) (yp : Nat) (yg : Nat) (yu : Nat) (ysl : Nat) (yin : Nat) (yse : Nat) (ysp : Nat) (ypa : Nat) (rA : Int32) (yb : Nat) (ybd : Nat) (ybc : Nat) (yr : Nat) (rF : Int32) (rP : Int32) (ywd : Nat) (rS : Int32) (rN : Int32) (rO : Int32) (rW : Int32) (rL : Int32) (rD : Int32) (yd : Nat) (rI : Int32) (rX : Int32) (rY : Int32) (rZ : Int32) (rU : Int32) (yro : Nat) (yc : Nat) (ybe : Nat) (yco : Nat) (rC : Int64) (rV : Int64) (qk : Nat → Int32) (qe : Nat → Int32) (qi : Nat → Int32) (qp : Nat → Int32) (qg : Nat → Int32) (qC : Nat → Int64) (G : Nat) (K : Nat) (M : Nat) (N : Nat) (b : Nat) (s : Nat) (A : Nat) (C : Nat) (hpre : (b < N ∧ N ≤ 10 ∧ K ≤ 3 ∧ s ≤ 8 ∧ qe b = nI s ∧ qk b = 0) ∧ A < 2 ^ 63 ∧ C < 2 ^ 63 ∧ (hs_in kk K → pu_wg qp qg (qi b) kk.toNatClampNeg s = lN A) ∧ (pu_wa qp qg (qi b) s K) = lN C) : pz_Ct l g yX9_likely cX9_likely 6 (some .long) rmX9_likely_T [.ref h0, .int (nI b), .int kk, .int w] [(h0, .inr (8, [.ref yt, .int rT, .int rH, .int (nI G), .ref yw, .int (nI K), .ref yp, .ref yg, .int (nI M), .ref yu, .int (nI N), .ref ysl, .ref yin, .ref yse, .ref ysp, .ref ypa, .int rA, .ref yb, .ref ybd, .ref ybc, .ref yr, .int rF, .int rP, .ref ywd, .int rS, .int rN, .int rO, .int rW, .int rL, .int rD, .ref yd, .int rI, .int rX, .int rY, .int rZ, .int rU, .ref yro, .ref yc, .ref ybe, .ref yco, .long rC, .long rV])), (ysp, .inl (g.2.1 3, 10, .inl qk)), (yse, .inl (g.2.1 1, 10, .inl qe)), (yin, .inl (g.2.1 1, 10, .inl qi)), (yp, .inl (g.2.1 1, 3, .inl qp)), (yg, .inl (g.2.1 1, 12, .inl qg)), (yc, .inl (g.2.1 2, 3, .inr (.inl qC)))] (pz_pl (fun (r : Int64) (u : (Nat → Int64)) => (¬ (hs_in kk K ∧ ¬ w < 0 ∧ ¬ (1 : Int32) < w) ∧ r = -1) ∨ ((hs_in kk K ∧ ¬ w < 0 ∧ ¬ (1 : Int32) < w) ∧ (pu_wa qp qg (qi b) s K) = 0 ∧ r = -1) ∨ ((hs_in kk K ∧ ¬ w < 0 ∧ ¬ (1 : Int32) < w) ∧ ¬ (pu_wa qp qg (qi b) s K) = 0 ∧ r = rd_a A C w)) (fun (u : (Nat → Int64)) => [(h0, .inr (8, [.ref yt, .int rT, .int 0, .int (nI G), .ref yw, .int (nI K), .ref yp, .ref yg, .int (nI M), .ref yu, .int (nI N), .ref ysl, .ref yin, .ref yse, .ref ysp, .ref ypa, .int rA, .ref yb, .ref ybd, .ref ybc, .ref yr, .int rF, .int rP, .ref ywd, .int rS, .int rN, .int rO, .int rW, .int rL, .int rD, .ref yd, .int rI, .int rX, .int rY, .int rZ, .int rU, .ref yro, .ref yc, .ref ybe, .ref yco, .long rC, .long rV])), (ysp, .inl (g.2.1 3, 10, .inl qk)), (yse, .inl (g.2.1 1, 10, .inl qe)), (yin, .inl (g.2.1 1, 10, .inl qi)), (yp, .inl (g.2.1 1, 3, .inl qp)), (yg, .inl (g.2.1 1, 12, .inl qg)), (yc, .inl (g.2.1 2, 3, .inr (.inl u)))])) := by
  refine pz_ofAt (by decide +kernel) (Nat.le_of_ble_eq_true rfl) (fun B F Rt hme => ?_)
  obtain ⟨⟨hb, hN, hK, hs, he, hk⟩, hA, hC, hA2, hC2⟩ := hpre
  have hwh : wh_ok (nI b) N qk := ⟨⟨nI_pos (by omega), nI_lt hb (by omega)⟩, by rw [nI_clamp (by omega)]; exact hk⟩
  refine sgX9_likely_T_0 F Rt kk w h0 yt rT rH yw yp yg yu ysl yin yse ysp ypa rA yb ybd ybc yr rF rP ywd rS rN rO rW rL rD yd rI rX rY rZ rU yro yc ybe yco rC rV qk qe qi qp qg qC G K M N b s A C ?_
  clear F Rt hme
  refine ⟨hN, fun r h => ?_⟩
  rcases h with ⟨_, rfl⟩ | ⟨h, _⟩
  · refine ⟨fun q => absurd q (by decide), fun _ => ⟨fun q => ⟨_, _, rfl, rfl, Or.inl ⟨fun h => h.1.1 q, rfl⟩⟩, fun q => ⟨fun q2 => ⟨_, _, rfl, rfl, Or.inl ⟨fun h => absurd q2 (Int32.not_le.mpr h.1.2), rfl⟩⟩, fun q2 => ⟨fun q3 => ⟨_, _, rfl, rfl, Or.inl ⟨fun h => h.2.1 q3, rfl⟩⟩, fun q3 => ⟨fun q4 => ?_, fun q4 => ⟨_, _, rfl, rfl, Or.inl ⟨fun h => q4 (Int32.not_lt.mp h.2.2), rfl⟩⟩⟩⟩⟩⟩⟩
    have hin : hs_in kk K := ⟨q, Int32.not_le.mp q2⟩
    have hok : (hs_in kk K ∧ ¬ w < 0 ∧ ¬ (1 : Int32) < w) := ⟨hin, q3, Int32.not_lt.mpr q4⟩
    refine ⟨⟨by omega, hK, hs, he⟩, fun r c2 hr => ?_⟩
    rw [lg_cmp_eq]
    refine ⟨fun q5 => ⟨hs_vp hK (by decide) hin, A, C, ⟨hA, hC, ?_, hr.1.trans hC2⟩, ?_⟩, fun q5 => ⟨_, _, rfl, rfl, Or.inr (Or.inl ⟨hok, hr.1.symm.trans q5, rfl⟩)⟩⟩
    · rw [hr.2 _ (hs_cl (by omega) hin).1]; exact hA2 hin
    · rintro r2 rfl
      exact ⟨_, _, rfl, rfl, Or.inr (Or.inr ⟨hok, fun e => q5 (hr.1.trans e), rfl⟩)⟩
  · exact absurd hwh h
abbrev rmX9_indexOf : Room := { frames := 0, cells := 0, slots := 0, locals := 0 }
set_option maxHeartbeats 4000000 in
set_option maxRecDepth 100000 in
theorem sgX9_indexOf_0 {B : pz_B} {g : pz_G} {wc : va_W} {Post : Option Value → va_W → Prop} (F : pz_F B cX9_indexOf 2 (some .int) yX9_indexOf.cls g rmX9_indexOf) (Rt : pz_Rt B g wc Post rmX9_indexOf) (lx : Int32) (h0 : Nat) (yt : Nat) (rT : Int32) (rH : Int32) (yw : Nat) (yp : Nat) (yg : Nat) (yu : Nat) (ysl : Nat) (yin : Nat) (yse : Nat) (ysp : Nat) (ypa : Nat) (rA : Int32) (yb : Nat) (ybd : Nat) (ybc : Nat) (yr : Nat) (rF : Int32) (rP : Int32) (ywd : Nat) (rS : Int32) (rN : Int32) (rO : Int32) (rW : Int32) (rL : Int32) (rD : Int32) (yd : Nat) (rI : Int32) (rX : Int32) (rY : Int32) (rZ : Int32) (rU : Int32) (yro : Nat) (yc : Nat) (ybe : Nat) (yco : Nat) (rC : Int64) (rV : Int64) (qn : Nat → Int32) (G : Nat) (K : Nat) (M : Nat) (N : Nat) (la : Nat) (cn : Nat → Nat)  (vc : vp_in 0 4 ∧ vp_in 1 4 ∧ vp_in 2 4 ∧ vp_in 3 4 ∧ ∀ x_5 : Int32, x_5 = (((5 * ((((qn (0 : Int32).toNatClampNeg) + (9 * (qn (1 : Int32).toNatClampNeg))) + (81 * (qn (2 : Int32).toNatClampNeg))) + (729 * (qn (3 : Int32).toNatClampNeg)))) + lx) + 1) → Post (some (.int x_5)) [(h0, .inr (8, [.ref yt, .int rT, .int rH, .int (nI G), .ref yw, .int (nI K), .ref yp, .ref yg, .int (nI M), .ref yu, .int (nI N), .ref ysl, .ref yin, .ref yse, .ref ysp, .ref ypa, .int rA, .ref yb, .ref ybd, .ref ybc, .ref yr, .int rF, .int rP, .ref ywd, .int rS, .int rN, .int rO, .int rW, .int rL, .int rD, .ref yd, .int rI, .int rX, .int rY, .int rZ, .int rU, .ref yro, .ref yc, .ref ybe, .ref yco, .long rC, .long rV])), (yco, .inl (g.2.1 1, 4, .inl qn))]) : pz_At B 0 0 0 [(0, .ref h0), (1, .int lx)] [] [(h0, .inr (8, [.ref yt, .int rT, .int rH, .int (nI G), .ref yw, .int (nI K), .ref yp, .ref yg, .int (nI M), .ref yu, .int (nI N), .ref ysl, .ref yin, .ref yse, .ref ysp, .ref ypa, .int rA, .ref yb, .ref ybd, .ref ybc, .ref yr, .int rF, .int rP, .ref ywd, .int rS, .int rN, .int rO, .int rW, .int rL, .int rD, .ref yd, .int rI, .int rX, .int rY, .int rZ, .int rU, .ref yro, .ref yc, .ref ybe, .ref yco, .long rC, .long rV])), (yco, .inl (g.2.1 1, 4, .inl qn))] := by
  refine pz_iconst (v := 5) F dX9_indexOf_0 rfl ?_
  refine pz_aload_n 0 F rfl dX9_indexOf_1 rfl ?_
  refine pz_get (ci := 8) (C := RX9) (T := TX9) (N := 42) (v := .ref yco) 0 F rfl rfl pz_inX9 39 (by decide) pw_847 rfl dX9_indexOf_2 ?_
  refine pz_iconst (v := 0) F dX9_indexOf_5 rfl ?_
  obtain ⟨h_1, vc⟩ := vc
  refine pz_iaload 1 F rfl h_1 dX9_indexOf_6 ?_
  refine pz_bipush (v := 9) F dX9_indexOf_7 rfl ?_
  refine pz_aload_n 0 F rfl dX9_indexOf_9 rfl ?_
  refine pz_get (ci := 8) (C := RX9) (T := TX9) (N := 42) (v := .ref yco) 0 F rfl rfl pz_inX9 39 (by decide) pw_847 rfl dX9_indexOf_10 ?_
  refine pz_iconst (v := 1) F dX9_indexOf_13 rfl ?_
  obtain ⟨h_2, vc⟩ := vc
  refine pz_iaload 1 F rfl h_2 dX9_indexOf_14 ?_
  refine pz_imul F dX9_indexOf_15 ?_
  refine pz_iadd F dX9_indexOf_16 ?_
  refine pz_bipush (v := 81) F dX9_indexOf_17 rfl ?_
  refine pz_aload_n 0 F rfl dX9_indexOf_19 rfl ?_
  refine pz_get (ci := 8) (C := RX9) (T := TX9) (N := 42) (v := .ref yco) 0 F rfl rfl pz_inX9 39 (by decide) pw_847 rfl dX9_indexOf_20 ?_
  refine pz_iconst (v := 2) F dX9_indexOf_23 rfl ?_
  obtain ⟨h_3, vc⟩ := vc
  refine pz_iaload 1 F rfl h_3 dX9_indexOf_24 ?_
  refine pz_imul F dX9_indexOf_25 ?_
  refine pz_iadd F dX9_indexOf_26 ?_
  refine pz_sipush (v := 729) F dX9_indexOf_27 rfl ?_
  refine pz_aload_n 0 F rfl dX9_indexOf_30 rfl ?_
  refine pz_get (ci := 8) (C := RX9) (T := TX9) (N := 42) (v := .ref yco) 0 F rfl rfl pz_inX9 39 (by decide) pw_847 rfl dX9_indexOf_31 ?_
  refine pz_iconst (v := 3) F dX9_indexOf_34 rfl ?_
  obtain ⟨h_4, vc⟩ := vc
  refine pz_iaload 1 F rfl h_4 dX9_indexOf_35 ?_
  refine pz_imul F dX9_indexOf_36 ?_
  refine pz_iadd F dX9_indexOf_37 ?_
  refine pz_imul F dX9_indexOf_38 ?_
  refine pz_iload_n 1 F rfl dX9_indexOf_39 rfl ?_
  refine pz_iadd F dX9_indexOf_40 ?_
  refine pz_iconst (v := 1) F dX9_indexOf_41 rfl ?_
  refine pz_iadd F dX9_indexOf_42 ?_
  refine pz_topi (fun x_5 ex_5 => ?_)
  replace vc := vc x_5 ex_5
  exact pz_ireturn (w1 := [(h0, .inr (8, [.ref yt, .int rT, .int rH, .int (nI G), .ref yw, .int (nI K), .ref yp, .ref yg, .int (nI M), .ref yu, .int (nI N), .ref ysl, .ref yin, .ref yse, .ref ysp, .ref ypa, .int rA, .ref yb, .ref ybd, .ref ybc, .ref yr, .int rF, .int rP, .ref ywd, .int rS, .int rN, .int rO, .int rW, .int rL, .int rD, .ref yd, .int rI, .int rX, .int rY, .int rZ, .int rU, .ref yro, .ref yc, .ref ybe, .ref yco, .long rC, .long rV])), (yco, .inl (g.2.1 1, 4, .inl qn))]) F Rt (by decide) (by decide) dX9_indexOf_43 [0, 1] rfl rfl rfl vc
set_option maxHeartbeats 4000000 in
set_option maxRecDepth 100000 in
theorem ctX9_indexOf (l : Launch) (g : pz_G) (lx : Int32) (h0 : Nat) (yt : Nat) (rT : Int32) (rH : Int32) (yw : Nat) (yp : Nat) (yg : Nat) (yu : Nat) (ysl : Nat) (yin : Nat) (yse : Nat) (ysp : Nat) (ypa : Nat) (rA : Int32) (yb : Nat) (ybd : Nat) (ybc : Nat) (yr : Nat) (rF : Int32) (rP : Int32) (ywd : Nat) (rS : Int32) (rN : Int32) (rO : Int32) (rW : Int32) (rL : Int32) (rD : Int32) (yd : Nat) (rI : Int32) (rX : Int32) (rY : Int32) (rZ : Int32) (rU : Int32) (yro : Nat) (yc : Nat) (ybe : Nat) (yco : Nat) (rC : Int64) (rV : Int64) (qn : Nat → Int32) (G : Nat) (K : Nat) (M : Nat) (N : Nat) (la : Nat) (cn : Nat → Nat) (hpre : la < 4 ∧ (∀ q, q < 4 → qn q = nI (cn q)) ∧ lx = nI la) : pz_Ct l g yX9_indexOf cX9_indexOf 2 (some .int) rmX9_indexOf [.ref h0, .int lx] [(h0, .inr (8, [.ref yt, .int rT, .int rH, .int (nI G), .ref yw, .int (nI K), .ref yp, .ref yg, .int (nI M), .ref yu, .int (nI N), .ref ysl, .ref yin, .ref yse, .ref ysp, .ref ypa, .int rA, .ref yb, .ref ybd, .ref ybc, .ref yr, .int rF, .int rP, .ref ywd, .int rS, .int rN, .int rO, .int rW, .int rL, .int rD, .ref yd, .int rI, .int rX, .int rY, .int rZ, .int rU, .ref yro, .ref yc, .ref ybe, .ref yco, .long rC, .long rV])), (yco, .inl (g.2.1 1, 4, .inl qn))] (pz_pi (fun (r : Int32) (u : Unit) => r = nI (ix_b cn la)) (fun (u : Unit) => [(h0, .inr (8, [.ref yt, .int rT, .int rH, .int (nI G), .ref yw, .int (nI K), .ref yp, .ref yg, .int (nI M), .ref yu, .int (nI N), .ref ysl, .ref yin, .ref yse, .ref ysp, .ref ypa, .int rA, .ref yb, .ref ybd, .ref ybc, .ref yr, .int rF, .int rP, .ref ywd, .int rS, .int rN, .int rO, .int rW, .int rL, .int rD, .ref yd, .int rI, .int rX, .int rY, .int rZ, .int rU, .ref yro, .ref yc, .ref ybe, .ref yco, .long rC, .long rV])), (yco, .inl (g.2.1 1, 4, .inl qn))])) := by
  refine pz_ofAt (by decide +kernel) (Nat.le_of_ble_eq_true rfl) (fun B F Rt hme => ?_)
  obtain ⟨hla, hn, hlx⟩ := hpre
  subst hlx
  refine sgX9_indexOf_0 F Rt (nI la) h0 yt rT rH yw yp yg yu ysl yin yse ysp ypa rA yb ybd ybc yr rF rP ywd rS rN rO rW rL rD yd rI rX rY rZ rU yro yc ybe yco rC rV qn G K M N la cn ?_
  clear F Rt hme
  have e0 : ((0 : Int32).toNatClampNeg) = 0 := by decide
  have e1 : ((1 : Int32).toNatClampNeg) = 1 := by decide
  have e2 : ((2 : Int32).toNatClampNeg) = 2 := by decide
  have e3 : ((3 : Int32).toNatClampNeg) = 3 := by decide
  rw [e0, e1, e2, e3, hn 0 (by omega), hn 1 (by omega), hn 2 (by omega), hn 3 (by omega)]
  refine ⟨vp_in_nI (n := 0) (N := 4) (by omega) (by omega), vp_in_nI (n := 1) (N := 4) (by omega) (by omega), vp_in_nI (n := 2) (N := 4) (by omega) (by omega), vp_in_nI (n := 3) (N := 4) (by omega) (by omega), ?_⟩
  rintro x rfl
  refine ⟨_, (), rfl, rfl, ?_⟩
  show nI 5 * (nI (cn 0) + nI 9 * nI (cn 1) + nI 81 * nI (cn 2) + nI 729 * nI (cn 3)) + nI la + nI 1 = _
  rw [pu_mulN, pu_mulN, pu_mulN, nI_add, nI_add, nI_add, pu_mulN, nI_add, nI_add]
  rfl
