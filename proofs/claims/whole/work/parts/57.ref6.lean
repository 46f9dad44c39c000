
abbrev rmX9_together : Room := { frames := 0, cells := 0, slots := 0, locals := 0 }
abbrev paX9_together_4 (B : pz_B) (g : pz_G) (h0 : Nat) (yt : Nat) (rT : Int32) (rH : Int32) (yw : Nat) (yp : Nat) (yg : Nat) (yu : Nat) (ysl : Nat) (yin : Nat) (yse : Nat) (ysp : Nat) (ypa : Nat) (rA : Int32) (yb : Nat) (ybd : Nat) (ybc : Nat) (yr : Nat) (rF : Int32) (rP : Int32) (ywd : Nat) (rS : Int32) (rN : Int32) (rO : Int32) (rW : Int32) (rL : Int32) (rD : Int32) (yd : Nat) (rI : Int32) (rX : Int32) (rY : Int32) (rZ : Int32) (rU : Int32) (yro : Nat) (yc : Nat) (ybe : Nat) (yco : Nat) (rC : Int64) (rV : Int64) (qC : Nat → Int64) (qg : Nat → Int32) (qn : Nat → Int32) (G : Nat) (K : Nat) (M : Nat) (N : Nat) (cn : Nat → Nat) (al : Int64) (ki : Int32) : Prop := pz_At B 0 0 4 [(0, .ref h0), (1, .long al), (3, .int ki)] [] [(h0, .inr (8, [.ref yt, .int rT, .int rH, .int (nI G), .ref yw, .int (nI K), .ref yp, .ref yg, .int (nI M), .ref yu, .int (nI N), .ref ysl, .ref yin, .ref yse, .ref ysp, .ref ypa, .int rA, .ref yb, .ref ybd, .ref ybc, .ref yr, .int rF, .int rP, .ref ywd, .int rS, .int rN, .int rO, .int rW, .int rL, .int rD, .ref yd, .int rI, .int rX, .int rY, .int rZ, .int rU, .ref yro, .ref yc, .ref ybe, .ref yco, .long rC, .long rV])), (yc, .inl (g.2.1 2, 3, .inr (.inl qC))), (yg, .inl (g.2.1 1, 12, .inl qg)), (yco, .inl (g.2.1 1, 4, .inl qn))]
abbrev paX9_together_23 (B : pz_B) (g : pz_G) (h0 : Nat) (yt : Nat) (rT : Int32) (rH : Int32) (yw : Nat) (yp : Nat) (yg : Nat) (yu : Nat) (ysl : Nat) (yin : Nat) (yse : Nat) (ysp : Nat) (ypa : Nat) (rA : Int32) (yb : Nat) (ybd : Nat) (ybc : Nat) (yr : Nat) (rF : Int32) (rP : Int32) (ywd : Nat) (rS : Int32) (rN : Int32) (rO : Int32) (rW : Int32) (rL : Int32) (rD : Int32) (yd : Nat) (rI : Int32) (rX : Int32) (rY : Int32) (rZ : Int32) (rU : Int32) (yro : Nat) (yc : Nat) (ybe : Nat) (yco : Nat) (rC : Int64) (rV : Int64) (qC : Nat → Int64) (qg : Nat → Int32) (qn : Nat → Int32) (G : Nat) (K : Nat) (M : Nat) (N : Nat) (cn : Nat → Nat) (al : Int64) (ki : Int32) (c1 : Int64) (gi : Int32) : Prop := pz_At B 0 0 23 [(0, .ref h0), (1, .long al), (3, .int ki), (4, .long c1), (6, .int gi)] [] [(h0, .inr (8, [.ref yt, .int rT, .int rH, .int (nI G), .ref yw, .int (nI K), .ref yp, .ref yg, .int (nI M), .ref yu, .int (nI N), .ref ysl, .ref yin, .ref yse, .ref ysp, .ref ypa, .int rA, .ref yb, .ref ybd, .ref ybc, .ref yr, .int rF, .int rP, .ref ywd, .int rS, .int rN, .int rO, .int rW, .int rL, .int rD, .ref yd, .int rI, .int rX, .int rY, .int rZ, .int rU, .ref yro, .ref yc, .ref ybe, .ref yco, .long rC, .long rV])), (yc, .inl (g.2.1 2, 3, .inr (.inl qC))), (yg, .inl (g.2.1 1, 12, .inl qg)), (yco, .inl (g.2.1 1, 4, .inl qn))]
abbrev paX9_together_32 (B : pz_B) (g : pz_G) (h0 : Nat) (yt : Nat) (rT : Int32) (rH : Int32) (yw : Nat) (yp : Nat) (yg : Nat) (yu : Nat) (ysl : Nat) (yin : Nat) (yse : Nat) (ysp : Nat) (ypa : Nat) (rA : Int32) (yb : Nat) (ybd : Nat) (ybc : Nat) (yr : Nat) (rF : Int32) (rP : Int32) (ywd : Nat) (rS : Int32) (rN : Int32) (rO : Int32) (rW : Int32) (rL : Int32) (rD : Int32) (yd : Nat) (rI : Int32) (rX : Int32) (rY : Int32) (rZ : Int32) (rU : Int32) (yro : Nat) (yc : Nat) (ybe : Nat) (yco : Nat) (rC : Int64) (rV : Int64) (qC : Nat → Int64) (qg : Nat → Int32) (qn : Nat → Int32) (G : Nat) (K : Nat) (M : Nat) (N : Nat) (cn : Nat → Nat) (al : Int64) (ki : Int32) (c1 : Int64) (gi : Int32) (ii : Int32) : Prop := pz_At B 0 0 32 [(0, .ref h0), (1, .long al), (3, .int ki), (4, .long c1), (6, .int gi), (7, .int ii)] [] [(h0, .inr (8, [.ref yt, .int rT, .int rH, .int (nI G), .ref yw, .int (nI K), .ref yp, .ref yg, .int (nI M), .ref yu, .int (nI N), .ref ysl, .ref yin, .ref yse, .ref ysp, .ref ypa, .int rA, .ref yb, .ref ybd, .ref ybc, .ref yr, .int rF, .int rP, .ref ywd, .int rS, .int rN, .int rO, .int rW, .int rL, .int rD, .ref yd, .int rI, .int rX, .int rY, .int rZ, .int rU, .ref yro, .ref yc, .ref ybe, .ref yco, .long rC, .long rV])), (yc, .inl (g.2.1 2, 3, .inr (.inl qC))), (yg, .inl (g.2.1 1, 12, .inl qg)), (yco, .inl (g.2.1 1, 4, .inl qn))]
set_option maxHeartbeats 4000000 in
set_option maxRecDepth 100000 in
theorem sgX9_together_0 {B : pz_B} {g : pz_G} {wc : va_W} {Post : Option Value → va_W → Prop} (F : pz_F B cX9_together 8 (some .long) yX9_together.cls g rmX9_together) (Rt : pz_Rt B g wc Post rmX9_together) (h0 : Nat) (yt : Nat) (rT : Int32) (rH : Int32) (yw : Nat) (yp : Nat) (yg : Nat) (yu : Nat) (ysl : Nat) (yin : Nat) (yse : Nat) (ysp : Nat) (ypa : Nat) (rA : Int32) (yb : Nat) (ybd : Nat) (ybc : Nat) (yr : Nat) (rF : Int32) (rP : Int32) (ywd : Nat) (rS : Int32) (rN : Int32) (rO : Int32) (rW : Int32) (rL : Int32) (rD : Int32) (yd : Nat) (rI : Int32) (rX : Int32) (rY : Int32) (rZ : Int32) (rU : Int32) (yro : Nat) (yc : Nat) (ybe : Nat) (yco : Nat) (rC : Int64) (rV : Int64) (qC : Nat → Int64) (qg : Nat → Int32) (qn : Nat → Int32) (G : Nat) (K : Nat) (M : Nat) (N : Nat) (cn : Nat → Nat) (T4 : Int64 → Int32 → Prop) (hT4 : ∀ (al : Int64) (ki : Int32), T4 al ki → paX9_together_4 B g h0 yt rT rH yw yp yg yu ysl yin yse ysp ypa rA yb ybd ybc yr rF rP ywd rS rN rO rW rL rD yd rI rX rY rZ rU yro yc ybe yco rC rV qC qg qn G K M N cn al ki)  (vc : T4 0 0) : pz_At B 0 0 0 [(0, .ref h0)] [] [(h0, .inr (8, [.ref yt, .int rT, .int rH, .int (nI G), .ref yw, .int (nI K), .ref yp, .ref yg, .int (nI M), .ref yu, .int (nI N), .ref ysl, .ref yin, .ref yse, .ref ysp, .ref ypa, .int rA, .ref yb, .ref ybd, .ref ybc, .ref yr, .int rF, .int rP, .ref ywd, .int rS, .int rN, .int rO, .int rW, .int rL, .int rD, .ref yd, .int rI, .int rX, .int rY, .int rZ, .int rU, .ref yro, .ref yc, .ref ybe, .ref yco, .long rC, .long rV])), (yc, .inl (g.2.1 2, 3, .inr (.inl qC))), (yg, .inl (g.2.1 1, 12, .inl qg)), (yco, .inl (g.2.1 1, 4, .inl qn))] := by
  refine pz_lconst (v := 0) F dX9_together_0 rfl ?_
  refine pz_lstore_n (lv' := [(1, .long 0), (0, .ref h0)]) F dX9_together_1 rfl (by decide) rfl ?_
  refine pz_iconst (v := 0) F dX9_together_2 rfl ?_
  refine pz_istore_n (lv' := [(3, .int 0), (1, .long 0), (0, .ref h0)]) F dX9_together_3 rfl (by decide) rfl ?_
  exact pz_sub [2, 1, 0] [0, 1, 2, 3] rfl rfl rfl (hT4 0 0 vc)
set_option maxHeartbeats 4000000 in
set_option maxRecDepth 100000 in
theorem sgX9_together_4 {B : pz_B} {g : pz_G} {wc : va_W} {Post : Option Value → va_W → Prop} (F : pz_F B cX9_together 8 (some .long) yX9_together.cls g rmX9_together) (Rt : pz_Rt B g wc Post rmX9_together) (h0 : Nat) (yt : Nat) (rT : Int32) (rH : Int32) (yw : Nat) (yp : Nat) (yg : Nat) (yu : Nat) (ysl : Nat) (yin : Nat) (yse : Nat) (ysp : Nat) (ypa : Nat) (rA : Int32) (yb : Nat) (ybd : Nat) (ybc : Nat) (yr : Nat) (rF : Int32) (rP : Int32) (ywd : Nat) (rS : Int32) (rN : Int32) (rO : Int32) (rW : Int32) (rL : Int32) (rD : Int32) (yd : Nat) (rI : Int32) (rX : Int32) (rY : Int32) (rZ : Int32) (rU : Int32) (yro : Nat) (yc : Nat) (ybe : Nat) (yco : Nat) (rC : Int64) (rV : Int64) (qC : Nat → Int64) (qg : Nat → Int32) (qn : Nat → Int32) (G : Nat) (K : Nat) (M : Nat) (N : Nat) (cn : Nat → Nat) (T23 : Int64 → Int32 → Int64 → Int32 → Prop) (hT23 : ∀ (al : Int64) (ki : Int32) (c1 : Int64) (gi : Int32), T23 al ki c1 gi → paX9_together_23 B g h0 yt rT rH yw yp yg yu ysl yin yse ysp ypa rA yb ybd ybc yr rF rP ywd rS rN rO rW rL rD yd rI rX rY rZ rU yro yc ybe yco rC rV qC qg qn G K M N cn al ki c1 gi) (al : Int64) (ki : Int32) (vc : (((nI K) ≤ ki → Post (some (.long al)) [(h0, .inr (8, [.ref yt, .int rT, .int rH, .int (nI G), .ref yw, .int (nI K), .ref yp, .ref yg, .int (nI M), .ref yu, .int (nI N), .ref ysl, .ref yin, .ref yse, .ref ysp, .ref ypa, .int rA, .ref yb, .ref ybd, .ref ybc, .ref yr, .int rF, .int rP, .ref ywd, .int rS, .int rN, .int rO, .int rW, .int rL, .int rD, .ref yd, .int rI, .int rX, .int rY, .int rZ, .int rU, .ref yro, .ref yc, .ref ybe, .ref yco, .long rC, .long rV])), (yc, .inl (g.2.1 2, 3, .inr (.inl qC))), (yg, .inl (g.2.1 1, 12, .inl qg)), (yco, .inl (g.2.1 1, 4, .inl qn))]) ∧ (¬ (nI K) ≤ ki → vp_in ki 3 ∧ ∀ x_3 : Int64, x_3 = (qC ki.toNatClampNeg) → T23 al ki x_3 0))) : pz_At B 0 0 4 [(0, .ref h0), (1, .long al), (3, .int ki)] [] [(h0, .inr (8, [.ref yt, .int rT, .int rH, .int (nI G), .ref yw, .int (nI K), .ref yp, .ref yg, .int (nI M), .ref yu, .int (nI N), .ref ysl, .ref yin, .ref yse, .ref ysp, .ref ypa, .int rA, .ref yb, .ref ybd, .ref ybc, .ref yr, .int rF, .int rP, .ref ywd, .int rS, .int rN, .int rO, .int rW, .int rL, .int rD, .ref yd, .int rI, .int rX, .int rY, .int rZ, .int rU, .ref yro, .ref yc, .ref ybe, .ref yco, .long rC, .long rV])), (yc, .inl (g.2.1 2, 3, .inr (.inl qC))), (yg, .inl (g.2.1 1, 12, .inl qg)), (yco, .inl (g.2.1 1, 4, .inl qn))] := by
  refine pz_iload_n 2 F rfl dX9_together_4 rfl ?_
  refine pz_aload_n 0 F rfl dX9_together_5 rfl ?_
  refine pz_get (ci := 8) (C := RX9) (T := TX9) (N := 42) (v := .int (nI K)) 0 F rfl rfl pz_inX9 5 (by decide) pw_813 rfl dX9_together_6 ?_
  refine pz_icmp_ge (tgt := 84) F dX9_together_9 (by decide) (fun q_1 => ?_) (fun q_1 => ?_)
  · replace vc := vc.1 q_1
    refine pz_lload_n 1 F rfl dX9_together_84 rfl ?_
    exact pz_lreturn (w1 := [(h0, .inr (8, [.ref yt, .int rT, .int rH, .int (nI G), .ref yw, .int (nI K), .ref yp, .ref yg, .int (nI M), .ref yu, .int (nI N), .ref ysl, .ref yin, .ref yse, .ref ysp, .ref ypa, .int rA, .ref yb, .ref ybd, .ref ybc, .ref yr, .int rF, .int rP, .ref ywd, .int rS, .int rN, .int rO, .int rW, .int rL, .int rD, .ref yd, .int rI, .int rX, .int rY, .int rZ, .int rU, .ref yro, .ref yc, .ref ybe, .ref yco, .long rC, .long rV])), (yc, .inl (g.2.1 2, 3, .inr (.inl qC))), (yg, .inl (g.2.1 1, 12, .inl qg)), (yco, .inl (g.2.1 1, 4, .inl qn))]) F Rt (by decide) (by decide) dX9_together_85 [0, 1, 2, 3] rfl rfl vc
  · replace vc := vc.2 q_1
    refine pz_aload_n 0 F rfl dX9_together_12 rfl ?_
    refine pz_get (ci := 8) (C := RX9) (T := TX9) (N := 42) (v := .ref yc) 0 F rfl rfl pz_inX9 37 (by decide) pw_845 rfl dX9_together_13 ?_
    refine pz_iload_n 2 F rfl dX9_together_16 rfl ?_
    obtain ⟨h_2, vc⟩ := vc
    refine pz_laload 1 F rfl h_2 dX9_together_17 ?_
    refine pz_topl (fun x_3 ex_3 => ?_)
    replace vc := vc x_3 ex_3
    refine pz_lstore (lv' := [(4, .long x_3), (0, .ref h0), (1, .long al), (3, .int ki)]) F dX9_together_18 (by decide) rfl ?_
    refine pz_iconst (v := 0) F dX9_together_20 rfl ?_
    refine pz_istore (lv' := [(6, .int 0), (4, .long x_3), (0, .ref h0), (1, .long al), (3, .int ki)]) F dX9_together_21 (by decide) rfl ?_
    exact pz_sub [2, 3, 4, 1, 0] [0, 1, 2, 3] rfl rfl rfl (hT23 al ki x_3 0 vc)
set_option maxHeartbeats 4000000 in
set_option maxRecDepth 100000 in
theorem sgX9_together_23 {B : pz_B} {g : pz_G} {wc : va_W} {Post : Option Value → va_W → Prop} (F : pz_F B cX9_together 8 (some .long) yX9_together.cls g rmX9_together) (Rt : pz_Rt B g wc Post rmX9_together) (h0 : Nat) (yt : Nat) (rT : Int32) (rH : Int32) (yw : Nat) (yp : Nat) (yg : Nat) (yu : Nat) (ysl : Nat) (yin : Nat) (yse : Nat) (ysp : Nat) (ypa : Nat) (rA : Int32) (yb : Nat) (ybd : Nat) (ybc : Nat) (yr : Nat) (rF : Int32) (rP : Int32) (ywd : Nat) (rS : Int32) (rN : Int32) (rO : Int32) (rW : Int32) (rL : Int32) (rD : Int32) (yd : Nat) (rI : Int32) (rX : Int32) (rY : Int32) (rZ : Int32) (rU : Int32) (yro : Nat) (yc : Nat) (ybe : Nat) (yco : Nat) (rC : Int64) (rV : Int64) (qC : Nat → Int64) (qg : Nat → Int32) (qn : Nat → Int32) (G : Nat) (K : Nat) (M : Nat) (N : Nat) (cn : Nat → Nat) (T4 : Int64 → Int32 → Prop) (hT4 : ∀ (al : Int64) (ki : Int32), T4 al ki → paX9_together_4 B g h0 yt rT rH yw yp yg yu ysl yin yse ysp ypa rA yb ybd ybc yr rF rP ywd rS rN rO rW rL rD yd rI rX rY rZ rU yro yc ybe yco rC rV qC qg qn G K M N cn al ki) (T32 : Int64 → Int32 → Int64 → Int32 → Int32 → Prop) (hT32 : ∀ (al : Int64) (ki : Int32) (c1 : Int64) (gi : Int32) (ii : Int32), T32 al ki c1 gi ii → paX9_together_32 B g h0 yt rT rH yw yp yg yu ysl yin yse ysp ypa rA yb ybd ybc yr rF rP ywd rS rN rO rW rL rD yd rI rX rY rZ rU yro yc ybe yco rC rV qC qg qn G K M N cn al ki c1 gi ii) (al : Int64) (ki : Int32) (c1 : Int64) (gi : Int32) (vc : (((4 : Int32) ≤ gi → ∀ x_2 : Int64, x_2 = (al + c1) → ∀ x_3 : Int32, x_3 = ki + 1 → T4 x_2 x_3) ∧ (¬ (4 : Int32) ≤ gi → T32 al ki c1 gi 0))) : pz_At B 0 0 23 [(0, .ref h0), (1, .long al), (3, .int ki), (4, .long c1), (6, .int gi)] [] [(h0, .inr (8, [.ref yt, .int rT, .int rH, .int (nI G), .ref yw, .int (nI K), .ref yp, .ref yg, .int (nI M), .ref yu, .int (nI N), .ref ysl, .ref yin, .ref yse, .ref ysp, .ref ypa, .int rA, .ref yb, .ref ybd, .ref ybc, .ref yr, .int rF, .int rP, .ref ywd, .int rS, .int rN, .int rO, .int rW, .int rL, .int rD, .ref yd, .int rI, .int rX, .int rY, .int rZ, .int rU, .ref yro, .ref yc, .ref ybe, .ref yco, .long rC, .long rV])), (yc, .inl (g.2.1 2, 3, .inr (.inl qC))), (yg, .inl (g.2.1 1, 12, .inl qg)), (yco, .inl (g.2.1 1, 4, .inl qn))] := by
  refine pz_iload 4 F rfl dX9_together_23 ?_
  refine pz_iconst (v := 4) F dX9_together_25 rfl ?_
  refine pz_icmp_ge (tgt := 73) F dX9_together_26 (by decide) (fun q_1 => ?_) (fun q_1 => ?_)
  · replace vc := vc.1 q_1
    refine pz_lload_n 1 F rfl dX9_together_73 rfl ?_
    refine pz_lload 3 F rfl dX9_together_74 ?_
    refine pz_ladd F dX9_together_76 ?_
    refine pz_topl (fun x_2 ex_2 => ?_)
    replace vc := vc x_2 ex_2
    refine pz_lstore_n (lv' := [(1, .long x_2), (0, .ref h0), (3, .int ki), (4, .long c1), (6, .int gi)]) F dX9_together_77 rfl (by decide) rfl ?_
    obtain ⟨x_3, ex_3⟩ : ∃ z : Int32, z = ki + 1 := ⟨_, rfl⟩
    replace vc := vc x_3 ex_3
    refine pz_iinc (v := x_3) (lv' := [(3, .int x_3), (1, .long x_2), (0, .ref h0), (4, .long c1), (6, .int gi)]) 2 F rfl dX9_together_78 (by rw [ex_3]; rfl) (by decide) rfl ?_
    refine pz_goto (tgt := 4) F dX9_together_81 (by decide) ?_
    exact pz_sub [2, 1, 0] [0, 1, 2, 3] rfl rfl rfl (hT4 x_2 x_3 vc)
  · replace vc := vc.2 q_1
    refine pz_iconst (v := 0) F dX9_together_29 rfl ?_
    refine pz_istore (lv' := [(7, .int 0), (0, .ref h0), (1, .long al), (3, .int ki), (4, .long c1), (6, .int gi)]) F dX9_together_30 (by decide) rfl ?_
    exact pz_sub [1, 2, 3, 4, 5, 0] [0, 1, 2, 3] rfl rfl rfl (hT32 al ki c1 gi 0 vc)
set_option maxHeartbeats 4000000 in
set_option maxRecDepth 100000 in
theorem sgX9_together_32 {B : pz_B} {g : pz_G} {wc : va_W} {Post : Option Value → va_W → Prop} (F : pz_F B cX9_together 8 (some .long) yX9_together.cls g rmX9_together) (Rt : pz_Rt B g wc Post rmX9_together) (h0 : Nat) (yt : Nat) (rT : Int32) (rH : Int32) (yw : Nat) (yp : Nat) (yg : Nat) (yu : Nat) (ysl : Nat) (yin : Nat) (yse : Nat) (ysp : Nat) (ypa : Nat) (rA : Int32) (yb : Nat) (ybd : Nat) (ybc : Nat) (yr : Nat) (rF : Int32) (rP : Int32) (ywd : Nat) (rS : Int32) (rN : Int32) (rO : Int32) (rW : Int32) (rL : Int32) (rD : Int32) (yd : Nat) (rI : Int32) (rX : Int32) (rY : Int32) (rZ : Int32) (rU : Int32) (yro : Nat) (yc : Nat) (ybe : Nat) (yco : Nat) (rC : Int64) (rV : Int64) (qC : Nat → Int64) (qg : Nat → Int32) (qn : Nat → Int32) (G : Nat) (K : Nat) (M : Nat) (N : Nat) (cn : Nat → Nat) (T23 : Int64 → Int32 → Int64 → Int32 → Prop) (hT23 : ∀ (al : Int64) (ki : Int32) (c1 : Int64) (gi : Int32), T23 al ki c1 gi → paX9_together_23 B g h0 yt rT rH yw yp yg yu ysl yin yse ysp ypa rA yb ybd ybc yr rF rP ywd rS rN rO rW rL rD yd rI rX rY rZ rU yro yc ybe yco rC rV qC qg qn G K M N cn al ki c1 gi) (T32 : Int64 → Int32 → Int64 → Int32 → Int32 → Prop) (hT32 : ∀ (al : Int64) (ki : Int32) (c1 : Int64) (gi : Int32) (ii : Int32), T32 al ki c1 gi ii → paX9_together_32 B g h0 yt rT rH yw yp yg yu ysl yin yse ysp ypa rA yb ybd ybc yr rF rP ywd rS rN rO rW rL rD yd rI rX rY rZ rU yro yc ybe yco rC rV qC qg qn G K M N cn al ki c1 gi ii) (al : Int64) (ki : Int32) (c1 : Int64) (gi : Int32) (ii : Int32) (vc : vp_in gi 4 ∧ (((qn gi.toNatClampNeg) ≤ ii → ∀ x_3 : Int32, x_3 = gi + 1 → T23 al ki c1 x_3) ∧ (¬ (qn gi.toNatClampNeg) ≤ ii → vp_in ((4 * ki) + gi) 12 ∧ ∀ x_5 : Int64, x_5 = (c1 * ((qg ((4 * ki) + gi).toNatClampNeg).toInt64)) → ∀ x_6 : Int32, x_6 = ii + 1 → T32 al ki x_5 gi x_6))) : pz_At B 0 0 32 [(0, .ref h0), (1, .long al), (3, .int ki), (4, .long c1), (6, .int gi), (7, .int ii)] [] [(h0, .inr (8, [.ref yt, .int rT, .int rH, .int (nI G), .ref yw, .int (nI K), .ref yp, .ref yg, .int (nI M), .ref yu, .int (nI N), .ref ysl, .ref yin, .ref yse, .ref ysp, .ref ypa, .int rA, .ref yb, .ref ybd, .ref ybc, .ref yr, .int rF, .int rP, .ref ywd, .int rS, .int rN, .int rO, .int rW, .int rL, .int rD, .ref yd, .int rI, .int rX, .int rY, .int rZ, .int rU, .ref yro, .ref yc, .ref ybe, .ref yco, .long rC, .long rV])), (yc, .inl (g.2.1 2, 3, .inr (.inl qC))), (yg, .inl (g.2.1 1, 12, .inl qg)), (yco, .inl (g.2.1 1, 4, .inl qn))] := by
  refine pz_iload 5 F rfl dX9_together_32 ?_
  refine pz_aload_n 0 F rfl dX9_together_34 rfl ?_
  refine pz_get (ci := 8) (C := RX9) (T := TX9) (N := 42) (v := .ref yco) 0 F rfl rfl pz_inX9 39 (by decide) pw_847 rfl dX9_together_35 ?_
  refine pz_iload 4 F rfl dX9_together_38 ?_
  obtain ⟨h_1, vc⟩ := vc
  refine pz_iaload 3 F rfl h_1 dX9_together_40 ?_
  refine pz_icmp_ge (tgt := 67) F dX9_together_41 (by decide) (fun q_2 => ?_) (fun q_2 => ?_)
  · replace vc := vc.1 q_2
    obtain ⟨x_3, ex_3⟩ : ∃ z : Int32, z = gi + 1 := ⟨_, rfl⟩
    replace vc := vc x_3 ex_3
    refine pz_iinc (v := x_3) (lv' := [(6, .int x_3), (0, .ref h0), (1, .long al), (3, .int ki), (4, .long c1), (7, .int ii)]) 4 F rfl dX9_together_67 (by rw [ex_3]; rfl) (by decide) rfl ?_
    refine pz_goto (tgt := 23) F dX9_together_70 (by decide) ?_
    exact pz_sub [1, 2, 3, 4, 0] [0, 1, 2, 3] rfl rfl rfl (hT23 al ki c1 x_3 vc)
  · replace vc := vc.2 q_2
    refine pz_lload 3 F rfl dX9_together_44 ?_
    refine pz_aload_n 0 F rfl dX9_together_46 rfl ?_
    refine pz_get (ci := 8) (C := RX9) (T := TX9) (N := 42) (v := .ref yg) 0 F rfl rfl pz_inX9 7 (by decide) pw_815 rfl dX9_together_47 ?_
    refine pz_iconst (v := 4) F dX9_together_50 rfl ?_
    refine pz_iload_n 2 F rfl dX9_together_51 rfl ?_
    refine pz_imul F dX9_together_52 ?_
    refine pz_iload 4 F rfl dX9_together_53 ?_
    refine pz_iadd F dX9_together_55 ?_
    obtain ⟨h_4, vc⟩ := vc
    refine pz_iaload 2 F rfl h_4 dX9_together_56 ?_
    refine pz_i2l F dX9_together_57 ?_
    refine pz_lmul F dX9_together_58 ?_
    refine pz_topl (fun x_5 ex_5 => ?_)
    replace vc := vc x_5 ex_5
    refine pz_lstore (lv' := [(4, .long x_5), (0, .ref h0), (1, .long al), (3, .int ki), (6, .int gi), (7, .int ii)]) F dX9_together_59 (by decide) rfl ?_
    obtain ⟨x_6, ex_6⟩ : ∃ z : Int32, z = ii + 1 := ⟨_, rfl⟩
    replace vc := vc x_6 ex_6
    refine pz_iinc (v := x_6) (lv' := [(7, .int x_6), (4, .long x_5), (0, .ref h0), (1, .long al), (3, .int ki), (6, .int gi)]) 5 F rfl dX9_together_61 (by rw [ex_6]; rfl) (by decide) rfl ?_
    refine pz_goto (tgt := 32) F dX9_together_64 (by decide) ?_
    exact pz_sub [2, 3, 4, 1, 5, 0] [0, 1, 2, 3] rfl rfl rfl (hT32 al ki x_5 gi x_6 vc)
theorem lpX9_together_32 {B : pz_B} {g : pz_G} {wc : va_W} {Post : Option Value → va_W → Prop} (F : pz_F B cX9_together 8 (some .long) yX9_together.cls g rmX9_together) (Rt : pz_Rt B g wc Post rmX9_together) (h0 : Nat) (yt : Nat) (rT : Int32) (rH : Int32) (yw : Nat) (yp : Nat) (yg : Nat) (yu : Nat) (ysl : Nat) (yin : Nat) (yse : Nat) (ysp : Nat) (ypa : Nat) (rA : Int32) (yb : Nat) (ybd : Nat) (ybc : Nat) (yr : Nat) (rF : Int32) (rP : Int32) (ywd : Nat) (rS : Int32) (rN : Int32) (rO : Int32) (rW : Int32) (rL : Int32) (rD : Int32) (yd : Nat) (rI : Int32) (rX : Int32) (rY : Int32) (rZ : Int32) (rU : Int32) (yro : Nat) (yc : Nat) (ybe : Nat) (yco : Nat) (rC : Int64) (rV : Int64) (qC : Nat → Int64) (qg : Nat → Int32) (qn : Nat → Int32) (G : Nat) (K : Nat) (M : Nat) (N : Nat) (cn : Nat → Nat) (T23 : Int64 → Int32 → Int64 → Int32 → Prop) (hT23 : ∀ (al : Int64) (ki : Int32) (c1 : Int64) (gi : Int32), T23 al ki c1 gi → paX9_together_23 B g h0 yt rT rH yw yp yg yu ysl yin yse ysp ypa rA yb ybd ybc yr rF rP ywd rS rN rO rW rL rD yd rI rX rY rZ rU yro yc ybe yco rC rV qC qg qn G K M N cn al ki c1 gi) (Inv : Nat → Int64 → Int32 → Int64 → Int32 → Int32 → Prop) (step : ∀ (mz : Nat) (al : Int64) (ki : Int32) (c1 : Int64) (gi : Int32) (ii : Int32), Inv mz al ki c1 gi ii → ∀ TT : Int64 → Int32 → Int64 → Int32 → Int32 → Prop, TT = (fun al ki c1 gi ii => ∃ mz', mz' < mz ∧ Inv mz' al ki c1 gi ii) → vp_in gi 4 ∧ (((qn gi.toNatClampNeg) ≤ ii → ∀ x_3 : Int32, x_3 = gi + 1 → T23 al ki c1 x_3) ∧ (¬ (qn gi.toNatClampNeg) ≤ ii → vp_in ((4 * ki) + gi) 12 ∧ ∀ x_5 : Int64, x_5 = (c1 * ((qg ((4 * ki) + gi).toNatClampNeg).toInt64)) → ∀ x_6 : Int32, x_6 = ii + 1 → TT al ki x_5 gi x_6))) : ∀ (mz : Nat) (al : Int64) (ki : Int32) (c1 : Int64) (gi : Int32) (ii : Int32), Inv mz al ki c1 gi ii → paX9_together_32 B g h0 yt rT rH yw yp yg yu ysl yin yse ysp ypa rA yb ybd ybc yr rF rP ywd rS rN rO rW rL rD yd rI rX rY rZ rU yro yc ybe yco rC rV qC qg qn G K M N cn al ki c1 gi ii := by
  intro mz
  induction mz using Nat.strongRecOn with
  | _ mz ih =>
    intro al ki c1 gi ii hI
    exact sgX9_together_32 F Rt h0 yt rT rH yw yp yg yu ysl yin yse ysp ypa rA yb ybd ybc yr rF rP ywd rS rN rO rW rL rD yd rI rX rY rZ rU yro yc ybe yco rC rV qC qg qn G K M N cn T23 hT23 (fun al ki c1 gi ii => ∃ mz', mz' < mz ∧ Inv mz' al ki c1 gi ii) (fun al ki c1 gi ii ⟨mz', h1, h2⟩ => ih mz' h1 al ki c1 gi ii h2) al ki c1 gi ii (step mz al ki c1 gi ii hI _ rfl)
set_option maxHeartbeats 4000000 in
set_option maxRecDepth 100000 in
theorem ctX9_together (l : Launch) (g : pz_G) (h0 : Nat) (yt : Nat) (rT : Int32) (rH : Int32) (yw : Nat) (yp : Nat) (yg : Nat) (yu : Nat) (ysl : Nat) (yin : Nat) (yse : Nat) (ysp : Nat) (ypa : Nat) (rA : Int32) (yb : Nat) (ybd : Nat) (ybc : Nat) (yr : Nat) (rF : Int32) (rP : Int32) (ywd : Nat) (rS : Int32) (rN : Int32) (rO : Int32) (rW : Int32) (rL : Int32) (rD : Int32) (yd : Nat) (rI : Int32) (rX : Int32) (rY : Int32) (rZ : Int32) (rU : Int32) (yro : Nat) (yc : Nat) (ybe : Nat) (yco : Nat) (rC : Int64) (rV : Int64) (qC : Nat → Int64) (qg : Nat → Int32) (qn : Nat → Int32) (G : Nat) (K : Nat) (M : Nat) (N : Nat) (cn : Nat → Nat) (hpre : K ≤ 3 ∧ ∀ q, q < 4 → qn q = nI (cn q) ∧ cn q ≤ 9) : pz_Ct l g yX9_together cX9_together 8 (some .long) rmX9_together [.ref h0] [(h0, .inr (8, [.ref yt, .int rT, .int rH, .int (nI G), .ref yw, .int (nI K), .ref yp, .ref yg, .int (nI M), .ref yu, .int (nI N), .ref ysl, .ref yin, .ref yse, .ref ysp, .ref ypa, .int rA, .ref yb, .ref ybd, .ref ybc, .ref yr, .int rF, .int rP, .ref ywd, .int rS, .int rN, .int rO, .int rW, .int rL, .int rD, .ref yd, .int rI, .int rX, .int rY, .int rZ, .int rU, .ref yro, .ref yc, .ref ybe, .ref yco, .long rC, .long rV])), (yc, .inl (g.2.1 2, 3, .inr (.inl qC))), (yg, .inl (g.2.1 1, 12, .inl qg)), (yco, .inl (g.2.1 1, 4, .inl qn))] (pz_pl (fun (r : Int64) (u : Unit) => r = rw_E qC qg cn K) (fun (u : Unit) => [(h0, .inr (8, [.ref yt, .int rT, .int rH, .int (nI G), .ref yw, .int (nI K), .ref yp, .ref yg, .int (nI M), .ref yu, .int (nI N), .ref ysl, .ref yin, .ref yse, .ref ysp, .ref ypa, .int rA, .ref yb, .ref ybd, .ref ybc, .ref yr, .int rF, .int rP, .ref ywd, .int rS, .int rN, .int rO, .int rW, .int rL, .int rD, .ref yd, .int rI, .int rX, .int rY, .int rZ, .int rU, .ref yro, .ref yc, .ref ybe, .ref yco, .long rC, .long rV])), (yc, .inl (g.2.1 2, 3, .inr (.inl qC))), (yg, .inl (g.2.1 1, 12, .inl qg)), (yco, .inl (g.2.1 1, 4, .inl qn))])) := by
  refine pz_ofAt (by decide +kernel) (Nat.le_of_ble_eq_true rfl) (fun B F Rt hme => ?_)
  obtain ⟨hK, hcn⟩ := hpre
  have key : ∀ (m : Nat) (al : Int64) (ki : Int32), (∃ j, j + m = K ∧ ki = nI j ∧ al = rw_E qC qg cn j) → paX9_together_4 B g h0 yt rT rH yw yp yg yu ysl yin yse ysp ypa rA yb ybd ybc yr rF rP ywd rS rN rO rW rL rD yd rI rX rY rZ rU yro yc ybe yco rC rV qC qg qn G K M N cn al ki := by
    intro m
    induction m using Nat.strongRecOn with
    | _ m ih =>
      rintro al ki ⟨j, hj, rfl, rfl⟩
      refine sgX9_together_4 F Rt h0 yt rT rH yw yp yg yu ysl yin yse ysp ypa rA yb ybd ybc yr rF rP ywd rS rN rO rW rL rD yd rI rX rY rZ rU yro yc ybe yco rC rV qC qg qn G K M N cn (fun al ki c1 gi => al = rw_E qC qg cn j ∧ ki = nI j ∧ j < K ∧ ∃ q, q ≤ 4 ∧ gi = nI q ∧ c1 = rw_k (qC j) qg j cn q) ?_ _ (nI j) ?_
      · rintro al ki c1 gi ⟨rfl, rfl, hjK, q, hq, rfl, rfl⟩
        have key2 : ∀ (m2 : Nat) (c1 : Int64) (gi : Int32), (∃ q, q + m2 = 4 ∧ gi = nI q ∧ c1 = rw_k (qC j) qg j cn q) → paX9_together_23 B g h0 yt rT rH yw yp yg yu ysl yin yse ysp ypa rA yb ybd ybc yr rF rP ywd rS rN rO rW rL rD yd rI rX rY rZ rU yro yc ybe yco rC rV qC qg qn G K M N cn (rw_E qC qg cn j) (nI j) c1 gi := by
          intro m2
          induction m2 using Nat.strongRecOn with
          | _ m2 ih2 =>
            rintro c1 gi ⟨q, hq, rfl, rfl⟩
            refine sgX9_together_23 F Rt h0 yt rT rH yw yp yg yu ysl yin yse ysp ypa rA yb ybd ybc yr rF rP ywd rS rN rO rW rL rD yd rI rX rY rZ rU yro yc ybe yco rC rV qC qg qn G K M N cn (fun al ki => ∃ m', m' < m ∧ ∃ j, j + m' = K ∧ ki = nI j ∧ al = rw_E qC qg cn j) (fun al ki ⟨m', h1, h2⟩ => ih m' h1 al ki h2) (fun al ki c1 gi ii => al = rw_E qC qg cn j ∧ ki = nI j ∧ gi = nI q ∧ q < 4 ∧ ∃ i, i + cn q = cn q ∧ ii = nI i ∧ c1 = rw_p (rw_k (qC j) qg j cn q) (qg (4 * j + q)).toInt64 i) ?_ _ _ _ _ ?_
            · rintro al ki c1 gi ii ⟨rfl, rfl, rfl, hq4, i, hi, rfl, rfl⟩
              refine lpX9_together_32 F Rt h0 yt rT rH yw yp yg yu ysl yin yse ysp ypa rA yb ybd ybc yr rF rP ywd rS rN rO rW rL rD yd rI rX rY rZ rU yro yc ybe yco rC rV qC qg qn G K M N cn (fun al ki c1 gi => al = rw_E qC qg cn j ∧ ki = nI j ∧ ∃ m', m' < m2 ∧ ∃ q, q + m' = 4 ∧ gi = nI q ∧ c1 = rw_k (qC j) qg j cn q) (fun al ki c1 gi ⟨h1, h2, m', h3, h4⟩ => by rw [h1, h2]; exact ih2 m' h3 c1 gi h4) (fun z al ki c1 gi ii => al = rw_E qC qg cn j ∧ ki = nI j ∧ gi = nI q ∧ ∃ i, i + z = cn q ∧ ii = nI i ∧ c1 = rw_p (rw_k (qC j) qg j cn q) (qg (4 * j + q)).toInt64 i) ?_ (cn q) _ _ _ _ _ ⟨rfl, rfl, rfl, i, hi, rfl, rfl⟩
              rintro z al ki c1 gi ii ⟨rfl, rfl, rfl, i, hi, rfl, rfl⟩ TT rfl
              have hc9 := (hcn q hq4).2
              rw [nI_clamp (by omega), (hcn q hq4).1]
              refine ⟨vp_in_nI hq4 (by omega), fun k1 => ?_, fun k1 => ?_⟩
              · have h1 := pu_ge (by omega) k1
                rintro y rfl
                refine ⟨rfl, rfl, m2 - 1, by omega, q + 1, by omega, nI_1 q, ?_⟩
                rw [rw_k, show i = cn q by omega]
              · have h1 := pu_lt (by omega) (by omega) k1
                rw [pu_4]
                refine ⟨vp_in_nI (by omega) (by omega), ?_⟩
                rw [nI_clamp (by omega)]
                rintro y rfl y2 rfl
                exact ⟨z - 1, by omega, rfl, rfl, rfl, i + 1, by omega, nI_1 i, rfl⟩
            · refine ⟨fun k1 => ?_, fun k1 => ?_⟩
              · have h1 := pu_ge (n := 4) (by omega) k1
                have e : q = 4 := by omega
                subst e
                rintro y rfl y2 rfl
                exact ⟨m - 1, by omega, j + 1, by omega, nI_1 j, rfl⟩
              · have h1 := pu_lt (n := 4) (by omega) (by omega) k1
                exact ⟨rfl, rfl, rfl, h1, 0, by omega, nI_0.symm, rfl⟩
        exact key2 (4 - q) _ _ ⟨q, by omega, rfl, rfl⟩
      · refine ⟨fun k1 => ?_, fun k1 => ?_⟩
        · have h1 := pu_ge (by omega) k1
          have e : j = K := by omega
          subst e
          exact ⟨_, (), rfl, rfl, rfl⟩
        · have h1 := pu_lt (by omega) (by omega) k1
          refine ⟨vp_in_nI (by omega) (by omega), ?_⟩
          rw [nI_clamp (by omega)]
          rintro y rfl
          exact ⟨rfl, rfl, h1, 0, by omega, nI_0.symm, rfl⟩
  exact sgX9_together_0 F Rt h0 yt rT rH yw yp yg yu ysl yin yse ysp ypa rA yb ybd ybc yr rF rP ywd rS rN rO rW rL rD yd rI rX rY rZ rU yro yc ybe yco rC rV qC qg qn G K M N cn _ (fun al ki => key K al ki) ⟨0, by omega, nI_0.symm, rfl⟩
abbrev rmX9_values : Room := { frames := 1, cells := 0, slots := 0, locals := 27 }
abbrev paX9_values_45 (B : pz_B) (g : pz_G) (tl : Int32) (la : Int32) (sc : Int64) (h0 : Nat) (yt : Nat) (rT : Int32) (rH : Int32) (yw : Nat) (yp : Nat) (yg : Nat) (yu : Nat) (ysl : Nat) (yin : Nat) (yse : Nat) (ysp : Nat) (ypa : Nat) (rA : Int32) (yb : Nat) (ybd : Nat) (ybc : Nat) (yr : Nat) (rF : Int32) (rP : Int32) (ywd : Nat) (rS : Int32) (rN : Int32) (rO : Int32) (rW : Int32) (rL : Int32) (rD : Int32) (yd : Nat) (rI : Int32) (rX : Int32) (rY : Int32) (rZ : Int32) (rU : Int32) (yro : Nat) (yc : Nat) (ybe : Nat) (yco : Nat) (rC : Int64) (rV : Int64) (qC : Nat → Int64) (qg : Nat → Int32) (qn : Nat → Int32) (qr : Nat → Int32) (qw : Nat → Int32) (qB : Nat → Int64) (G : Nat) (K : Nat) (M : Nat) (N : Nat) (cn : Nat → Nat) (al : Int64) (gi : Int32) (cv : Int64) (sv : Int64) (n1 : Nat → Int32) : Prop := pz_At B 0 0 45 [(0, .ref h0), (1, .int tl), (2, .int la), (3, .long sc), (5, .long al), (7, .int gi)] [] [(h0, .inr (8, [.ref yt, .int rT, .int rH, .int (nI G), .ref yw, .int (nI K), .ref yp, .ref yg, .int (nI M), .ref yu, .int (nI N), .ref ysl, .ref yin, .ref yse, .ref ysp, .ref ypa, .int rA, .ref yb, .ref ybd, .ref ybc, .ref yr, .int rF, .int rP, .ref ywd, .int rS, .int rN, .int rO, .int rW, .int rL, .int rD, .ref yd, .int rI, .int rX, .int rY, .int rZ, .int rU, .ref yro, .ref yc, .ref ybe, .ref yco, .long cv, .long sv])), (yc, .inl (g.2.1 2, 3, .inr (.inl qC))), (yg, .inl (g.2.1 1, 12, .inl qg)), (yco, .inl (g.2.1 1, 4, .inl n1)), (yr, .inl (g.2.1 1, 24, .inl qr)), (yw, .inl (g.2.1 1, 4, .inl qw)), (ybe, .inl (g.2.1 2, 32805, .inr (.inl qB)))]
set_option maxHeartbeats 4000000 in
set_option maxRecDepth 100000 in
theorem sgX9_values_0 {B : pz_B} {g : pz_G} {wc : va_W} {Post : Option Value → va_W → Prop} (F : pz_F B cX9_values 10 none yX9_values.cls g rmX9_values) (Rt : pz_Rt B g wc Post rmX9_values) (tl : Int32) (la : Int32) (sc : Int64) (h0 : Nat) (yt : Nat) (rT : Int32) (rH : Int32) (yw : Nat) (yp : Nat) (yg : Nat) (yu : Nat) (ysl : Nat) (yin : Nat) (yse : Nat) (ysp : Nat) (ypa : Nat) (rA : Int32) (yb : Nat) (ybd : Nat) (ybc : Nat) (yr : Nat) (rF : Int32) (rP : Int32) (ywd : Nat) (rS : Int32) (rN : Int32) (rO : Int32) (rW : Int32) (rL : Int32) (rD : Int32) (yd : Nat) (rI : Int32) (rX : Int32) (rY : Int32) (rZ : Int32) (rU : Int32) (yro : Nat) (yc : Nat) (ybe : Nat) (yco : Nat) (rC : Int64) (rV : Int64) (qC : Nat → Int64) (qg : Nat → Int32) (qn : Nat → Int32) (qr : Nat → Int32) (qw : Nat → Int32) (qB : Nat → Int64) (G : Nat) (K : Nat) (M : Nat) (N : Nat) (cn : Nat → Nat) (T45 : Int64 → Int32 → Int64 → Int64 → (Nat → Int32) → Prop) (hT45 : ∀ (al : Int64) (gi : Int32) (cv : Int64) (sv : Int64) (n1 : Nat → Int32), T45 al gi cv sv n1 → paX9_values_45 B g tl la sc h0 yt rT rH yw yp yg yu ysl yin yse ysp ypa rA yb ybd ybc yr rF rP ywd rS rN rO rW rL rD yd rI rX rY rZ rU yro yc ybe yco rC rV qC qg qn qr qw qB G K M N cn al gi cv sv n1)  (vc : ∃ cn_1 : Nat → Nat, (K ≤ 3 ∧ ∀ q, q < 4 → qn q = nI (cn_1 q) ∧ cn_1 q ≤ 9) ∧ ∀ r_3 : Int64, ∀ _ : (r_3 = rw_E qC qg cn_1 K), (la < 4) ∧ ∀ r_6 : Int32, ∀ _ : (r_6 = of_b qr la), ∀ x_8 : Int64, x_8 = (((tl.toInt64 * r_6.toInt64) * r_3) * sc) → vp_in 6 24 ∧ ∀ x_10 : Int64, x_10 = ((((-(qr (6 : Int32).toNatClampNeg)).toInt64) * r_3) * sc) → T45 r_3 0 x_10 x_8 qn) : pz_At B 0 0 0 [(0, .ref h0), (1, .int tl), (2, .int la), (3, .long sc)] [] [(h0, .inr (8, [.ref yt, .int rT, .int rH, .int (nI G), .ref yw, .int (nI K), .ref yp, .ref yg, .int (nI M), .ref yu, .int (nI N), .ref ysl, .ref yin, .ref yse, .ref ysp, .ref ypa, .int rA, .ref yb, .ref ybd, .ref ybc, .ref yr, .int rF, .int rP, .ref ywd, .int rS, .int rN, .int rO, .int rW, .int rL, .int rD, .ref yd, .int rI, .int rX, .int rY, .int rZ, .int rU, .ref yro, .ref yc, .ref ybe, .ref yco, .long rC, .long rV])), (yc, .inl (g.2.1 2, 3, .inr (.inl qC))), (yg, .inl (g.2.1 1, 12, .inl qg)), (yco, .inl (g.2.1 1, 4, .inl qn)), (yr, .inl (g.2.1 1, 24, .inl qr)), (yw, .inl (g.2.1 1, 4, .inl qw)), (ybe, .inl (g.2.1 2, 32805, .inr (.inl qB)))] := by
  refine pz_aload_n 0 F rfl dX9_values_0 rfl ?_
  obtain ⟨cn_1, vc⟩ := vc
  obtain ⟨h_2, vc⟩ := vc
  refine pz_callV (nA := 0) (ci := 8) (C := RX9) (T := TX9) (N := 42) (As := []) (rest := []) (wr := [(yr, .inl (g.2.1 1, 24, .inl qr)), (yw, .inl (g.2.1 1, 4, .inl qw)), (ybe, .inl (g.2.1 2, 32805, .inr (.inl qB)))]) F (ctX9_together _ g h0 yt rT rH yw yp yg yu ysl yin yse ysp ypa rA yb ybd ybc yr rF rP ywd rS rN rO rW rL rD yd rI rX rY rZ rU yro yc ybe yco rC rV qC qg qn G K M N cn_1 h_2) 0 rfl rfl pw_1117 pw_1119 pv_48 pw_8 pw_1120 (by decide +kernel) (by decide) (by decide) rfl rfl (Nat.le_of_ble_eq_true rfl) [0, 1, 2, 3] [4, 5, 6] rfl rfl rfl rfl (by decide) dX9_values_1 (fun r0 w0 hp0 => ?_)
  obtain ⟨r_3, _, rfl, rfl, hq_4⟩ := hp0
  replace vc := vc r_3  hq_4
  refine pz_eq (st' := [.long r_3]) (ws' := [(yr, .inl (g.2.1 1, 24, .inl qr)), (yw, .inl (g.2.1 1, 4, .inl qw)), (ybe, .inl (g.2.1 2, 32805, .inr (.inl qB))), (h0, .inr (8, [.ref yt, .int rT, .int rH, .int (nI G), .ref yw, .int (nI K), .ref yp, .ref yg, .int (nI M), .ref yu, .int (nI N), .ref ysl, .ref yin, .ref yse, .ref ysp, .ref ypa, .int rA, .ref yb, .ref ybd, .ref ybc, .ref yr, .int rF, .int rP, .ref ywd, .int rS, .int rN, .int rO, .int rW, .int rL, .int rD, .ref yd, .int rI, .int rX, .int rY, .int rZ, .int rU, .ref yro, .ref yc, .ref ybe, .ref yco, .long rC, .long rV])), (yc, .inl (g.2.1 2, 3, .inr (.inl qC))), (yg, .inl (g.2.1 1, 12, .inl qg)), (yco, .inl (g.2.1 1, 4, .inl qn))]) rfl rfl ?_
  refine pz_lstore (lv' := [(5, .long r_3), (0, .ref h0), (1, .int tl), (2, .int la), (3, .long sc)]) F dX9_values_4 (by decide) rfl ?_
  refine pz_aload_n 1 F rfl dX9_values_6 rfl ?_
  refine pz_iload_n 2 F rfl dX9_values_7 rfl ?_
  refine pz_i2l F dX9_values_8 ?_
  refine pz_aload_n 1 F rfl dX9_values_9 rfl ?_
  refine pz_iload_n 3 F rfl dX9_values_10 rfl ?_
  obtain ⟨h_5, vc⟩ := vc
  refine pz_callV (nA := 1) (ci := 8) (C := RX9) (T := TX9) (N := 42) (As := [.int la]) (rest := [.long tl.toInt64, .ref h0]) (wr := [(yw, .inl (g.2.1 1, 4, .inl qw)), (ybe, .inl (g.2.1 2, 32805, .inr (.inl qB))), (yc, .inl (g.2.1 2, 3, .inr (.inl qC))), (yg, .inl (g.2.1 1, 12, .inl qg)), (yco, .inl (g.2.1 1, 4, .inl qn))]) F (ctX9_offerOf _ g la h0 yt rT rH yw yp yg yu ysl yin yse ysp ypa rA yb ybd ybc yr rF rP ywd rS rN rO rW rL rD yd rI rX rY rZ rU yro yc ybe yco rC rV qr G K M N h_5) 3 rfl rfl pw_1072 pw_1074 pv_45 pw_8 pw_1075 (by decide +kernel) (by decide) (by decide) rfl rfl (Nat.le_of_ble_eq_true rfl) [3, 0] [1, 2, 4, 5, 6] rfl rfl rfl rfl (by decide) dX9_values_11 (fun r0 w0 hp0 => ?_)
  obtain ⟨r_6, _, rfl, rfl, hq_7⟩ := hp0
  replace vc := vc r_6  hq_7
  refine pz_eq (st' := [.int r_6, .long tl.toInt64, .ref h0]) (ws' := [(yw, .inl (g.2.1 1, 4, .inl qw)), (ybe, .inl (g.2.1 2, 32805, .inr (.inl qB))), (yc, .inl (g.2.1 2, 3, .inr (.inl qC))), (yg, .inl (g.2.1 1, 12, .inl qg)), (yco, .inl (g.2.1 1, 4, .inl qn)), (h0, .inr (8, [.ref yt, .int rT, .int rH, .int (nI G), .ref yw, .int (nI K), .ref yp, .ref yg, .int (nI M), .ref yu, .int (nI N), .ref ysl, .ref yin, .ref yse, .ref ysp, .ref ypa, .int rA, .ref yb, .ref ybd, .ref ybc, .ref yr, .int rF, .int rP, .ref ywd, .int rS, .int rN, .int rO, .int rW, .int rL, .int rD, .ref yd, .int rI, .int rX, .int rY, .int rZ, .int rU, .ref yro, .ref yc, .ref ybe, .ref yco, .long rC, .long rV])), (yr, .inl (g.2.1 1, 24, .inl qr))]) rfl rfl ?_
  refine pz_i2l F dX9_values_14 ?_
  refine pz_lmul F dX9_values_15 ?_
  refine pz_lload 0 F rfl dX9_values_16 ?_
  refine pz_lmul F dX9_values_18 ?_
  refine pz_lload_n 4 F rfl dX9_values_19 rfl ?_
  refine pz_lmul F dX9_values_20 ?_
  refine pz_topl (fun x_8 ex_8 => ?_)
  replace vc := vc x_8 ex_8
  refine pz_put (ws' := [(yw, .inl (g.2.1 1, 4, .inl qw)), (ybe, .inl (g.2.1 2, 32805, .inr (.inl qB))), (yc, .inl (g.2.1 2, 3, .inr (.inl qC))), (yg, .inl (g.2.1 1, 12, .inl qg)), (yco, .inl (g.2.1 1, 4, .inl qn)), (h0, .inr (8, [.ref yt, .int rT, .int rH, .int (nI G), .ref yw, .int (nI K), .ref yp, .ref yg, .int (nI M), .ref yu, .int (nI N), .ref ysl, .ref yin, .ref yse, .ref ysp, .ref ypa, .int rA, .ref yb, .ref ybd, .ref ybc, .ref yr, .int rF, .int rP, .ref ywd, .int rS, .int rN, .int rO, .int rW, .int rL, .int rD, .ref yd, .int rI, .int rX, .int rY, .int rZ, .int rU, .ref yro, .ref yc, .ref ybe, .ref yco, .long rC, .long x_8])), (yr, .inl (g.2.1 1, 24, .inl qr))]) (ci := 8) (C := RX9) (T := TX9) (N := 42) (v := .long x_8) (ty := .long) 5 F rfl rfl pz_inX9 41 (by decide) pw_849 tyX9_ok nmX9 rfl rfl rfl rfl (Nat.le_of_ble_eq_true rfl) dX9_values_21 rfl ?_
  refine pz_aload_n 1 F rfl dX9_values_24 rfl ?_
  refine pz_aload_n 1 F rfl dX9_values_25 rfl ?_
  refine pz_get (ci := 8) (C := RX9) (T := TX9) (N := 42) (v := .ref yr) 5 F rfl rfl pz_inX9 20 (by decide) pw_828 rfl dX9_values_26 ?_
  refine pz_bipush (v := 6) F dX9_values_29 rfl ?_
  obtain ⟨h_9, vc⟩ := vc
  refine pz_iaload 6 F rfl h_9 dX9_values_31 ?_
  refine pz_ineg F dX9_values_32 ?_
  refine pz_i2l F dX9_values_33 ?_
  refine pz_lload 0 F rfl dX9_values_34 ?_
  refine pz_lmul F dX9_values_36 ?_
  refine pz_lload_n 4 F rfl dX9_values_37 rfl ?_
  refine pz_lmul F dX9_values_38 ?_
  refine pz_topl (fun x_10 ex_10 => ?_)
  replace vc := vc x_10 ex_10
  refine pz_put (ws' := [(yw, .inl (g.2.1 1, 4, .inl qw)), (ybe, .inl (g.2.1 2, 32805, .inr (.inl qB))), (yc, .inl (g.2.1 2, 3, .inr (.inl qC))), (yg, .inl (g.2.1 1, 12, .inl qg)), (yco, .inl (g.2.1 1, 4, .inl qn)), (h0, .inr (8, [.ref yt, .int rT, .int rH, .int (nI G), .ref yw, .int (nI K), .ref yp, .ref yg, .int (nI M), .ref yu, .int (nI N), .ref ysl, .ref yin, .ref yse, .ref ysp, .ref ypa, .int rA, .ref yb, .ref ybd, .ref ybc, .ref yr, .int rF, .int rP, .ref ywd, .int rS, .int rN, .int rO, .int rW, .int rL, .int rD, .ref yd, .int rI, .int rX, .int rY, .int rZ, .int rU, .ref yro, .ref yc, .ref ybe, .ref yco, .long x_10, .long x_8])), (yr, .inl (g.2.1 1, 24, .inl qr))]) (ci := 8) (C := RX9) (T := TX9) (N := 42) (v := .long x_10) (ty := .long) 5 F rfl rfl pz_inX9 40 (by decide) pw_848 tyX9_ok nmX9 rfl rfl rfl rfl (Nat.le_of_ble_eq_true rfl) dX9_values_39 rfl ?_
  refine pz_iconst (v := 0) F dX9_values_42 rfl ?_
  refine pz_istore (lv' := [(7, .int 0), (5, .long r_3), (0, .ref h0), (1, .int tl), (2, .int la), (3, .long sc)]) F dX9_values_43 (by decide) rfl ?_
  exact pz_sub [2, 3, 4, 5, 1, 0] [5, 2, 3, 4, 6, 0, 1] rfl rfl rfl (hT45 r_3 0 x_10 x_8 qn vc)
set_option maxHeartbeats 4000000 in
set_option maxRecDepth 100000 in
theorem sgX9_values_45 {B : pz_B} {g : pz_G} {wc : va_W} {Post : Option Value → va_W → Prop} (F : pz_F B cX9_values 10 none yX9_values.cls g rmX9_values) (Rt : pz_Rt B g wc Post rmX9_values) (tl : Int32) (la : Int32) (sc : Int64) (h0 : Nat) (yt : Nat) (rT : Int32) (rH : Int32) (yw : Nat) (yp : Nat) (yg : Nat) (yu : Nat) (ysl : Nat) (yin : Nat) (yse : Nat) (ysp : Nat) (ypa : Nat) (rA : Int32) (yb : Nat) (ybd : Nat) (ybc : Nat) (yr : Nat) (rF : Int32) (rP : Int32) (ywd : Nat) (rS : Int32) (rN : Int32) (rO : Int32) (rW : Int32) (rL : Int32) (rD : Int32) (yd : Nat) (rI : Int32) (rX : Int32) (rY : Int32) (rZ : Int32) (rU : Int32) (yro : Nat) (yc : Nat) (ybe : Nat) (yco : Nat) (rC : Int64) (rV : Int64) (qC : Nat → Int64) (qg : Nat → Int32) (qn : Nat → Int32) (qr : Nat → Int32) (qw : Nat → Int32) (qB : Nat → Int64) (G : Nat) (K : Nat) (M : Nat) (N : Nat) (cn : Nat → Nat) (T45 : Int64 → Int32 → Int64 → Int64 → (Nat → Int32) → Prop) (hT45 : ∀ (al : Int64) (gi : Int32) (cv : Int64) (sv : Int64) (n1 : Nat → Int32), T45 al gi cv sv n1 → paX9_values_45 B g tl la sc h0 yt rT rH yw yp yg yu ysl yin yse ysp ypa rA yb ybd ybc yr rF rP ywd rS rN rO rW rL rD yd rI rX rY rZ rU yro yc ybe yco rC rV qC qg qn qr qw qB G K M N cn al gi cv sv n1) (al : Int64) (gi : Int32) (cv : Int64) (sv : Int64) (n1 : Nat → Int32) (vc : (((nI G) ≤ gi → Post none [(h0, .inr (8, [.ref yt, .int rT, .int rH, .int (nI G), .ref yw, .int (nI K), .ref yp, .ref yg, .int (nI M), .ref yu, .int (nI N), .ref ysl, .ref yin, .ref yse, .ref ysp, .ref ypa, .int rA, .ref yb, .ref ybd, .ref ybc, .ref yr, .int rF, .int rP, .ref ywd, .int rS, .int rN, .int rO, .int rW, .int rL, .int rD, .ref yd, .int rI, .int rX, .int rY, .int rZ, .int rU, .ref yro, .ref yc, .ref ybe, .ref yco, .long cv, .long sv])), (yc, .inl (g.2.1 2, 3, .inr (.inl qC))), (yg, .inl (g.2.1 1, 12, .inl qg)), (yco, .inl (g.2.1 1, 4, .inl n1)), (yr, .inl (g.2.1 1, 24, .inl qr)), (yw, .inl (g.2.1 1, 4, .inl qw)), (ybe, .inl (g.2.1 2, 32805, .inr (.inl qB)))]) ∧ (¬ (nI G) ≤ gi → vp_in gi 4 ∧ ∀ x_3 : Int32, x_3 = ((n1 gi.toNatClampNeg) + 1) → vp_in gi 4 ∧ ∀ f_5 : Nat → Int32, f_5 = upd n1 gi.toNatClampNeg x_3 → ∃ cn_6 : Nat → Nat, (K ≤ 3 ∧ ∀ q, q < 4 → f_5 q = nI (cn_6 q) ∧ cn_6 q ≤ 9) ∧ ∀ r_8 : Int64, ∀ _ : (r_8 = rw_E qC qg cn_6 K), (((lg_cmp r_8 0) ≤ 0 → vp_in gi 4 ∧ ∀ x_12 : Int32, x_12 = ((f_5 gi.toNatClampNeg) - 1) → vp_in gi 4 ∧ ∀ f_14 : Nat → Int32, f_14 = upd f_5 gi.toNatClampNeg x_12 → ∀ x_15 : Int32, x_15 = gi + 1 → T45 al x_15 cv sv f_14) ∧ (¬ (lg_cmp r_8 0) ≤ 0 → vp_in gi 4 ∧ ((tl ≤ 1 → ∀ x_18 : Int64, x_18 = (cv + (((((qw gi.toNatClampNeg).toInt64) * r_8) * (sc / 16)) + 0)) → vp_in gi 4 ∧ ∀ x_20 : Int32, x_20 = ((f_5 gi.toNatClampNeg) - 1) → vp_in gi 4 ∧ ∀ f_22 : Nat → Int32, f_22 = upd f_5 gi.toNatClampNeg x_20 → ∀ x_23 : Int32, x_23 = gi + 1 → T45 al x_23 x_18 sv f_22) ∧ (¬ tl ≤ 1 → ∃ la_24 : Nat, ∃ cn_25 : Nat → Nat, (la_24 < 4 ∧ (∀ q, q < 4 → f_5 q = nI (cn_25 q)) ∧ gi = nI la_24) ∧ ∀ r_27 : Int32, ∀ _ : (r_27 = nI (ix_b cn_25 la_24)), vp_in r_27 32805 ∧ ∀ x_30 : Int64, x_30 = (cv + (((((qw gi.toNatClampNeg).toInt64) * r_8) * (sc / 16)) + (qB r_27.toNatClampNeg))) → vp_in gi 4 ∧ ∀ x_32 : Int32, x_32 = ((f_5 gi.toNatClampNeg) - 1) → vp_in gi 4 ∧ ∀ f_34 : Nat → Int32, f_34 = upd f_5 gi.toNatClampNeg x_32 → ∀ x_35 : Int32, x_35 = gi + 1 → T45 al x_35 x_30 sv f_34))))))) : pz_At B 0 0 45 [(0, .ref h0), (1, .int tl), (2, .int la), (3, .long sc), (5, .long al), (7, .int gi)] [] [(h0, .inr (8, [.ref yt, .int rT, .int rH, .int (nI G), .ref yw, .int (nI K), .ref yp, .ref yg, .int (nI M), .ref yu, .int (nI N), .ref ysl, .ref yin, .ref yse, .ref ysp, .ref ypa, .int rA, .ref yb, .ref ybd, .ref ybc, .ref yr, .int rF, .int rP, .ref ywd, .int rS, .int rN, .int rO, .int rW, .int rL, .int rD, .ref yd, .int rI, .int rX, .int rY, .int rZ, .int rU, .ref yro, .ref yc, .ref ybe, .ref yco, .long cv, .long sv])), (yc, .inl (g.2.1 2, 3, .inr (.inl qC))), (yg, .inl (g.2.1 1, 12, .inl qg)), (yco, .inl (g.2.1 1, 4, .inl n1)), (yr, .inl (g.2.1 1, 24, .inl qr)), (yw, .inl (g.2.1 1, 4, .inl qw)), (ybe, .inl (g.2.1 2, 32805, .inr (.inl qB)))] := by
  refine pz_iload 5 F rfl dX9_values_45 ?_
  refine pz_aload_n 0 F rfl dX9_values_47 rfl ?_
  refine pz_get (ci := 8) (C := RX9) (T := TX9) (N := 42) (v := .int (nI G)) 0 F rfl rfl pz_inX9 3 (by decide) pw_811 rfl dX9_values_48 ?_
  refine pz_icmp_ge (tgt := 142) F dX9_values_51 (by decide) (fun q_1 => ?_) (fun q_1 => ?_)
  · replace vc := vc.1 q_1
    exact pz_return (w1 := [(h0, .inr (8, [.ref yt, .int rT, .int rH, .int (nI G), .ref yw, .int (nI K), .ref yp, .ref yg, .int (nI M), .ref yu, .int (nI N), .ref ysl, .ref yin, .ref yse, .ref ysp, .ref ypa, .int rA, .ref yb, .ref ybd, .ref ybc, .ref yr, .int rF, .int rP, .ref ywd, .int rS, .int rN, .int rO, .int rW, .int rL, .int rD, .ref yd, .int rI, .int rX, .int rY, .int rZ, .int rU, .ref yro, .ref yc, .ref ybe, .ref yco, .long cv, .long sv])), (yc, .inl (g.2.1 2, 3, .inr (.inl qC))), (yg, .inl (g.2.1 1, 12, .inl qg)), (yco, .inl (g.2.1 1, 4, .inl n1)), (yr, .inl (g.2.1 1, 24, .inl qr)), (yw, .inl (g.2.1 1, 4, .inl qw)), (ybe, .inl (g.2.1 2, 32805, .inr (.inl qB)))]) F Rt (by decide) (by decide) dX9_values_142 [0, 1, 2, 3, 4, 5, 6] rfl rfl vc
  · replace vc := vc.2 q_1
    refine pz_aload_n 0 F rfl dX9_values_54 rfl ?_
    refine pz_get (ci := 8) (C := RX9) (T := TX9) (N := 42) (v := .ref yco) 0 F rfl rfl pz_inX9 39 (by decide) pw_847 rfl dX9_values_55 ?_
    refine pz_iload 5 F rfl dX9_values_58 ?_
    refine pz_dup2 F dX9_values_60 rfl rfl ?_
    obtain ⟨h_2, vc⟩ := vc
    refine pz_iaload 3 F rfl h_2 dX9_values_61 ?_
    refine pz_iconst (v := 1) F dX9_values_62 rfl ?_
    refine pz_iadd F dX9_values_63 ?_
    refine pz_topi (fun x_3 ex_3 => ?_)
    replace vc := vc x_3 ex_3
    obtain ⟨h_4, vc⟩ := vc
    obtain ⟨f_5, ef_5⟩ : ∃ z : Nat → Int32, z = upd n1 gi.toNatClampNeg x_3 := ⟨_, rfl⟩
    replace vc := vc f_5 ef_5
    refine pz_iastore (ws' := [(h0, .inr (8, [.ref yt, .int rT, .int rH, .int (nI G), .ref yw, .int (nI K), .ref yp, .ref yg, .int (nI M), .ref yu, .int (nI N), .ref ysl, .ref yin, .ref yse, .ref ysp, .ref ypa, .int rA, .ref yb, .ref ybd, .ref ybc, .ref yr, .int rF, .int rP, .ref ywd, .int rS, .int rN, .int rO, .int rW, .int rL, .int rD, .ref yd, .int rI, .int rX, .int rY, .int rZ, .int rU, .ref yro, .ref yc, .ref ybe, .ref yco, .long cv, .long sv])), (yc, .inl (g.2.1 2, 3, .inr (.inl qC))), (yg, .inl (g.2.1 1, 12, .inl qg)), (yco, .inl (g.2.1 1, 4, .inl f_5)), (yr, .inl (g.2.1 1, 24, .inl qr)), (yw, .inl (g.2.1 1, 4, .inl qw)), (ybe, .inl (g.2.1 2, 32805, .inr (.inl qB)))]) F 3 rfl h_4 dX9_values_64 (by rw [ef_5]; rfl) ?_
    refine pz_aload_n 0 F rfl dX9_values_65 rfl ?_
    obtain ⟨cn_6, vc⟩ := vc
    obtain ⟨h_7, vc⟩ := vc
    refine pz_callV (nA := 0) (ci := 8) (C := RX9) (T := TX9) (N := 42) (As := []) (rest := []) (wr := [(yr, .inl (g.2.1 1, 24, .inl qr)), (yw, .inl (g.2.1 1, 4, .inl qw)), (ybe, .inl (g.2.1 2, 32805, .inr (.inl qB)))]) F (ctX9_together _ g h0 yt rT rH yw yp yg yu ysl yin yse ysp ypa rA yb ybd ybc yr rF rP ywd rS rN rO rW rL rD yd rI rX rY rZ rU yro yc ybe yco cv sv qC qg f_5 G K M N cn_6 h_7) 0 rfl rfl pw_1117 pw_1119 pv_48 pw_8 pw_1120 (by decide +kernel) (by decide) (by decide) rfl rfl (Nat.le_of_ble_eq_true rfl) [0, 1, 2, 3] [4, 5, 6] rfl rfl rfl rfl (by decide) dX9_values_66 (fun r0 w0 hp0 => ?_)
    obtain ⟨r_8, _, rfl, rfl, hq_9⟩ := hp0
    replace vc := vc r_8  hq_9
    refine pz_eq (st' := [.long r_8]) (ws' := [(yr, .inl (g.2.1 1, 24, .inl qr)), (yw, .inl (g.2.1 1, 4, .inl qw)), (ybe, .inl (g.2.1 2, 32805, .inr (.inl qB))), (h0, .inr (8, [.ref yt, .int rT, .int rH, .int (nI G), .ref yw, .int (nI K), .ref yp, .ref yg, .int (nI M), .ref yu, .int (nI N), .ref ysl, .ref yin, .ref yse, .ref ysp, .ref ypa, .int rA, .ref yb, .ref ybd, .ref ybc, .ref yr, .int rF, .int rP, .ref ywd, .int rS, .int rN, .int rO, .int rW, .int rL, .int rD, .ref yd, .int rI, .int rX, .int rY, .int rZ, .int rU, .ref yro, .ref yc, .ref ybe, .ref yco, .long cv, .long sv])), (yc, .inl (g.2.1 2, 3, .inr (.inl qC))), (yg, .inl (g.2.1 1, 12, .inl qg)), (yco, .inl (g.2.1 1, 4, .inl f_5))]) rfl rfl ?_
    refine pz_lstore (lv' := [(8, .long r_8), (0, .ref h0), (1, .int tl), (2, .int la), (3, .long sc), (5, .long al), (7, .int gi)]) F dX9_values_69 (by decide) rfl ?_
    refine pz_lload 0 F rfl dX9_values_71 ?_
    refine pz_lconst (v := 0) F dX9_values_73 rfl ?_
    refine pz_lcmp F dX9_values_74 ?_
    refine pz_if_le (tgt := 125) F dX9_values_75 (by decide) (fun q_10 => ?_) (fun q_10 => ?_)
    · replace vc := vc.1 q_10
      refine pz_aload_n 1 F rfl dX9_values_125 rfl ?_
      refine pz_get (ci := 8) (C := RX9) (T := TX9) (N := 42) (v := .ref yco) 3 F rfl rfl pz_inX9 39 (by decide) pw_847 rfl dX9_values_126 ?_
      refine pz_iload 6 F rfl dX9_values_129 ?_
      refine pz_dup2 F dX9_values_131 rfl rfl ?_
      obtain ⟨h_11, vc⟩ := vc
      refine pz_iaload 6 F rfl h_11 dX9_values_132 ?_
      refine pz_iconst (v := 1) F dX9_values_133 rfl ?_
      refine pz_isub F dX9_values_134 ?_
      refine pz_topi (fun x_12 ex_12 => ?_)
      replace vc := vc x_12 ex_12
      obtain ⟨h_13, vc⟩ := vc
      obtain ⟨f_14, ef_14⟩ : ∃ z : Nat → Int32, z = upd f_5 gi.toNatClampNeg x_12 := ⟨_, rfl⟩
      replace vc := vc f_14 ef_14
      refine pz_iastore (ws' := [(yr, .inl (g.2.1 1, 24, .inl qr)), (yw, .inl (g.2.1 1, 4, .inl qw)), (ybe, .inl (g.2.1 2, 32805, .inr (.inl qB))), (h0, .inr (8, [.ref yt, .int rT, .int rH, .int (nI G), .ref yw, .int (nI K), .ref yp, .ref yg, .int (nI M), .ref yu, .int (nI N), .ref ysl, .ref yin, .ref yse, .ref ysp, .ref ypa, .int rA, .ref yb, .ref ybd, .ref ybc, .ref yr, .int rF, .int rP, .ref ywd, .int rS, .int rN, .int rO, .int rW, .int rL, .int rD, .ref yd, .int rI, .int rX, .int rY, .int rZ, .int rU, .ref yro, .ref yc, .ref ybe, .ref yco, .long cv, .long sv])), (yc, .inl (g.2.1 2, 3, .inr (.inl qC))), (yg, .inl (g.2.1 1, 12, .inl qg)), (yco, .inl (g.2.1 1, 4, .inl f_14))]) F 6 rfl h_13 dX9_values_135 (by rw [ef_14]; rfl) ?_
      obtain ⟨x_15, ex_15⟩ : ∃ z : Int32, z = gi + 1 := ⟨_, rfl⟩
      replace vc := vc x_15 ex_15
      refine pz_iinc (v := x_15) (lv' := [(7, .int x_15), (8, .long r_8), (0, .ref h0), (1, .int tl), (2, .int la), (3, .long sc), (5, .long al)]) 6 F rfl dX9_values_136 (by rw [ex_15]; rfl) (by decide) rfl ?_
      refine pz_goto (tgt := 45) F dX9_values_139 (by decide) ?_
      exact pz_sub [2, 3, 4, 5, 6, 0] [3, 4, 5, 6, 0, 1, 2] rfl rfl rfl (hT45 al x_15 cv sv f_14 vc)
    · replace vc := vc.2 q_10
      refine pz_aload_n 1 F rfl dX9_values_78 rfl ?_
      refine pz_dup F dX9_values_79 rfl ?_
      refine pz_get (ci := 8) (C := RX9) (T := TX9) (N := 42) (v := .long cv) 3 F rfl rfl pz_inX9 40 (by decide) pw_848 rfl dX9_values_80 ?_
      refine pz_aload_n 1 F rfl dX9_values_83 rfl ?_
      refine pz_get (ci := 8) (C := RX9) (T := TX9) (N := 42) (v := .ref yw) 3 F rfl rfl pz_inX9 4 (by decide) pw_812 rfl dX9_values_84 ?_
      refine pz_iload 6 F rfl dX9_values_87 ?_
      obtain ⟨h_16, vc⟩ := vc
      refine pz_iaload 1 F rfl h_16 dX9_values_89 ?_
      refine pz_i2l F dX9_values_90 ?_
      refine pz_lload 0 F rfl dX9_values_91 ?_
      refine pz_lmul F dX9_values_93 ?_
      refine pz_lload_n 4 F rfl dX9_values_94 rfl ?_
      refine pz_ldc2 (v := 16) F pw_1101 dX9_values_95 ?_
      refine pz_ldiv F (by decide) dX9_values_98 ?_
      refine pz_lmul F dX9_values_99 ?_
      refine pz_iload_n 2 F rfl dX9_values_100 rfl ?_
      refine pz_iconst (v := 1) F dX9_values_101 rfl ?_
      refine pz_icmp_le (tgt := 119) F dX9_values_102 (by decide) (fun q_17 => ?_) (fun q_17 => ?_)
      · replace vc := vc.1 q_17
        refine pz_lconst (v := 0) F dX9_values_119 rfl ?_
        refine pz_ladd F dX9_values_120 ?_
        refine pz_ladd F dX9_values_121 ?_
        refine pz_topl (fun x_18 ex_18 => ?_)
        replace vc := vc x_18 ex_18
        refine pz_put (ws' := [(yr, .inl (g.2.1 1, 24, .inl qr)), (yw, .inl (g.2.1 1, 4, .inl qw)), (ybe, .inl (g.2.1 2, 32805, .inr (.inl qB))), (h0, .inr (8, [.ref yt, .int rT, .int rH, .int (nI G), .ref yw, .int (nI K), .ref yp, .ref yg, .int (nI M), .ref yu, .int (nI N), .ref ysl, .ref yin, .ref yse, .ref ysp, .ref ypa, .int rA, .ref yb, .ref ybd, .ref ybc, .ref yr, .int rF, .int rP, .ref ywd, .int rS, .int rN, .int rO, .int rW, .int rL, .int rD, .ref yd, .int rI, .int rX, .int rY, .int rZ, .int rU, .ref yro, .ref yc, .ref ybe, .ref yco, .long x_18, .long sv])), (yc, .inl (g.2.1 2, 3, .inr (.inl qC))), (yg, .inl (g.2.1 1, 12, .inl qg)), (yco, .inl (g.2.1 1, 4, .inl f_5))]) (ci := 8) (C := RX9) (T := TX9) (N := 42) (v := .long x_18) (ty := .long) 3 F rfl rfl pz_inX9 40 (by decide) pw_848 tyX9_ok nmX9 rfl rfl rfl rfl (Nat.le_of_ble_eq_true rfl) dX9_values_122 rfl ?_
        refine pz_aload_n 1 F rfl dX9_values_125 rfl ?_
        refine pz_get (ci := 8) (C := RX9) (T := TX9) (N := 42) (v := .ref yco) 3 F rfl rfl pz_inX9 39 (by decide) pw_847 rfl dX9_values_126 ?_
        refine pz_iload 6 F rfl dX9_values_129 ?_
        refine pz_dup2 F dX9_values_131 rfl rfl ?_
        obtain ⟨h_19, vc⟩ := vc
        refine pz_iaload 6 F rfl h_19 dX9_values_132 ?_
        refine pz_iconst (v := 1) F dX9_values_133 rfl ?_
        refine pz_isub F dX9_values_134 ?_
        refine pz_topi (fun x_20 ex_20 => ?_)
        replace vc := vc x_20 ex_20
        obtain ⟨h_21, vc⟩ := vc
        obtain ⟨f_22, ef_22⟩ : ∃ z : Nat → Int32, z = upd f_5 gi.toNatClampNeg x_20 := ⟨_, rfl⟩
        replace vc := vc f_22 ef_22
        refine pz_iastore (ws' := [(yr, .inl (g.2.1 1, 24, .inl qr)), (yw, .inl (g.2.1 1, 4, .inl qw)), (ybe, .inl (g.2.1 2, 32805, .inr (.inl qB))), (h0, .inr (8, [.ref yt, .int rT, .int rH, .int (nI G), .ref yw, .int (nI K), .ref yp, .ref yg, .int (nI M), .ref yu, .int (nI N), .ref ysl, .ref yin, .ref yse, .ref ysp, .ref ypa, .int rA, .ref yb, .ref ybd, .ref ybc, .ref yr, .int rF, .int rP, .ref ywd, .int rS, .int rN, .int rO, .int rW, .int rL, .int rD, .ref yd, .int rI, .int rX, .int rY, .int rZ, .int rU, .ref yro, .ref yc, .ref ybe, .ref yco, .long x_18, .long sv])), (yc, .inl (g.2.1 2, 3, .inr (.inl qC))), (yg, .inl (g.2.1 1, 12, .inl qg)), (yco, .inl (g.2.1 1, 4, .inl f_22))]) F 6 rfl h_21 dX9_values_135 (by rw [ef_22]; rfl) ?_
        obtain ⟨x_23, ex_23⟩ : ∃ z : Int32, z = gi + 1 := ⟨_, rfl⟩
        replace vc := vc x_23 ex_23
        refine pz_iinc (v := x_23) (lv' := [(7, .int x_23), (8, .long r_8), (0, .ref h0), (1, .int tl), (2, .int la), (3, .long sc), (5, .long al)]) 6 F rfl dX9_values_136 (by rw [ex_23]; rfl) (by decide) rfl ?_
        refine pz_goto (tgt := 45) F dX9_values_139 (by decide) ?_
        exact pz_sub [2, 3, 4, 5, 6, 0] [3, 4, 5, 6, 0, 1, 2] rfl rfl rfl (hT45 al x_23 x_18 sv f_22 vc)
      · replace vc := vc.2 q_17
        refine pz_aload_n 1 F rfl dX9_values_105 rfl ?_
        refine pz_get (ci := 8) (C := RX9) (T := TX9) (N := 42) (v := .ref ybe) 3 F rfl rfl pz_inX9 38 (by decide) pw_846 rfl dX9_values_106 ?_
        refine pz_aload_n 1 F rfl dX9_values_109 rfl ?_
        refine pz_iload 6 F rfl dX9_values_110 ?_
        obtain ⟨la_24, vc⟩ := vc
        obtain ⟨cn_25, vc⟩ := vc
        obtain ⟨h_26, vc⟩ := vc
        refine pz_callV (nA := 1) (ci := 8) (C := RX9) (T := TX9) (N := 42) (As := [.int gi]) (rest := [.ref ybe, .long ((((qw gi.toNatClampNeg).toInt64) * r_8) * (sc / 16)), .long cv, .ref h0]) (wr := [(yr, .inl (g.2.1 1, 24, .inl qr)), (yw, .inl (g.2.1 1, 4, .inl qw)), (ybe, .inl (g.2.1 2, 32805, .inr (.inl qB))), (yc, .inl (g.2.1 2, 3, .inr (.inl qC))), (yg, .inl (g.2.1 1, 12, .inl qg))]) F (ctX9_indexOf _ g gi h0 yt rT rH yw yp yg yu ysl yin yse ysp ypa rA yb ybd ybc yr rF rP ywd rS rN rO rW rL rD yd rI rX rY rZ rU yro yc ybe yco cv sv f_5 G K M N la_24 cn_25 h_26) 3 rfl rfl pw_1125 pw_1127 pv_50 pw_8 pw_1128 (by decide +kernel) (by decide) (by decide) rfl rfl (Nat.le_of_ble_eq_true rfl) [3, 6] [0, 1, 2, 4, 5] rfl rfl rfl rfl (by decide) dX9_values_112 (fun r0 w0 hp0 => ?_)
        obtain ⟨r_27, _, rfl, rfl, hq_28⟩ := hp0
        replace vc := vc r_27  hq_28
        refine pz_eq (st' := [.int r_27, .ref ybe, .long ((((qw gi.toNatClampNeg).toInt64) * r_8) * (sc / 16)), .long cv, .ref h0]) (ws' := [(yr, .inl (g.2.1 1, 24, .inl qr)), (yw, .inl (g.2.1 1, 4, .inl qw)), (ybe, .inl (g.2.1 2, 32805, .inr (.inl qB))), (yc, .inl (g.2.1 2, 3, .inr (.inl qC))), (yg, .inl (g.2.1 1, 12, .inl qg)), (h0, .inr (8, [.ref yt, .int rT, .int rH, .int (nI G), .ref yw, .int (nI K), .ref yp, .ref yg, .int (nI M), .ref yu, .int (nI N), .ref ysl, .ref yin, .ref yse, .ref ysp, .ref ypa, .int rA, .ref yb, .ref ybd, .ref ybc, .ref yr, .int rF, .int rP, .ref ywd, .int rS, .int rN, .int rO, .int rW, .int rL, .int rD, .ref yd, .int rI, .int rX, .int rY, .int rZ, .int rU, .ref yro, .ref yc, .ref ybe, .ref yco, .long cv, .long sv])), (yco, .inl (g.2.1 1, 4, .inl f_5))]) rfl rfl ?_
        obtain ⟨h_29, vc⟩ := vc
        refine pz_laload 2 F rfl h_29 dX9_values_115 ?_
        refine pz_goto (tgt := 120) F dX9_values_116 (by decide) ?_
        refine pz_ladd F dX9_values_120 ?_
        refine pz_ladd F dX9_values_121 ?_
        refine pz_topl (fun x_30 ex_30 => ?_)
        replace vc := vc x_30 ex_30
        refine pz_put (ws' := [(yr, .inl (g.2.1 1, 24, .inl qr)), (yw, .inl (g.2.1 1, 4, .inl qw)), (ybe, .inl (g.2.1 2, 32805, .inr (.inl qB))), (yc, .inl (g.2.1 2, 3, .inr (.inl qC))), (yg, .inl (g.2.1 1, 12, .inl qg)), (h0, .inr (8, [.ref yt, .int rT, .int rH, .int (nI G), .ref yw, .int (nI K), .ref yp, .ref yg, .int (nI M), .ref yu, .int (nI N), .ref ysl, .ref yin, .ref yse, .ref ysp, .ref ypa, .int rA, .ref yb, .ref ybd, .ref ybc, .ref yr, .int rF, .int rP, .ref ywd, .int rS, .int rN, .int rO, .int rW, .int rL, .int rD, .ref yd, .int rI, .int rX, .int rY, .int rZ, .int rU, .ref yro, .ref yc, .ref ybe, .ref yco, .long x_30, .long sv])), (yco, .inl (g.2.1 1, 4, .inl f_5))]) (ci := 8) (C := RX9) (T := TX9) (N := 42) (v := .long x_30) (ty := .long) 5 F rfl rfl pz_inX9 40 (by decide) pw_848 tyX9_ok nmX9 rfl rfl rfl rfl (Nat.le_of_ble_eq_true rfl) dX9_values_122 rfl ?_
        refine pz_aload_n 1 F rfl dX9_values_125 rfl ?_
        refine pz_get (ci := 8) (C := RX9) (T := TX9) (N := 42) (v := .ref yco) 5 F rfl rfl pz_inX9 39 (by decide) pw_847 rfl dX9_values_126 ?_
        refine pz_iload 6 F rfl dX9_values_129 ?_
        refine pz_dup2 F dX9_values_131 rfl rfl ?_
        obtain ⟨h_31, vc⟩ := vc
        refine pz_iaload 6 F rfl h_31 dX9_values_132 ?_
        refine pz_iconst (v := 1) F dX9_values_133 rfl ?_
        refine pz_isub F dX9_values_134 ?_
        refine pz_topi (fun x_32 ex_32 => ?_)
        replace vc := vc x_32 ex_32
        obtain ⟨h_33, vc⟩ := vc
        obtain ⟨f_34, ef_34⟩ : ∃ z : Nat → Int32, z = upd f_5 gi.toNatClampNeg x_32 := ⟨_, rfl⟩
        replace vc := vc f_34 ef_34
        refine pz_iastore (ws' := [(yr, .inl (g.2.1 1, 24, .inl qr)), (yw, .inl (g.2.1 1, 4, .inl qw)), (ybe, .inl (g.2.1 2, 32805, .inr (.inl qB))), (yc, .inl (g.2.1 2, 3, .inr (.inl qC))), (yg, .inl (g.2.1 1, 12, .inl qg)), (h0, .inr (8, [.ref yt, .int rT, .int rH, .int (nI G), .ref yw, .int (nI K), .ref yp, .ref yg, .int (nI M), .ref yu, .int (nI N), .ref ysl, .ref yin, .ref yse, .ref ysp, .ref ypa, .int rA, .ref yb, .ref ybd, .ref ybc, .ref yr, .int rF, .int rP, .ref ywd, .int rS, .int rN, .int rO, .int rW, .int rL, .int rD, .ref yd, .int rI, .int rX, .int rY, .int rZ, .int rU, .ref yro, .ref yc, .ref ybe, .ref yco, .long x_30, .long sv])), (yco, .inl (g.2.1 1, 4, .inl f_34))]) F 6 rfl h_33 dX9_values_135 (by rw [ef_34]; rfl) ?_
        obtain ⟨x_35, ex_35⟩ : ∃ z : Int32, z = gi + 1 := ⟨_, rfl⟩
        replace vc := vc x_35 ex_35
        refine pz_iinc (v := x_35) (lv' := [(7, .int x_35), (8, .long r_8), (0, .ref h0), (1, .int tl), (2, .int la), (3, .long sc), (5, .long al)]) 6 F rfl dX9_values_136 (by rw [ex_35]; rfl) (by decide) rfl ?_
        refine pz_goto (tgt := 45) F dX9_values_139 (by decide) ?_
        exact pz_sub [2, 3, 4, 5, 6, 0] [5, 3, 4, 6, 0, 1, 2] rfl rfl rfl (hT45 al x_35 x_30 sv f_34 vc)
theorem lpX9_values_45 {B : pz_B} {g : pz_G} {wc : va_W} {Post : Option Value → va_W → Prop} (F : pz_F B cX9_values 10 none yX9_values.cls g rmX9_values) (Rt : pz_Rt B g wc Post rmX9_values) (tl : Int32) (la : Int32) (sc : Int64) (h0 : Nat) (yt : Nat) (rT : Int32) (rH : Int32) (yw : Nat) (yp : Nat) (yg : Nat) (yu : Nat) (ysl : Nat) (yin : Nat) (yse : Nat) (ysp : Nat) (ypa : Nat) (rA : Int32) (yb : Nat) (ybd : Nat) (ybc : Nat) (yr : Nat) (rF : Int32) (rP : Int32) (ywd : Nat) (rS : Int32) (rN : Int32) (rO : Int32) (rW : Int32) (rL : Int32) (rD : Int32) (yd : Nat) (rI : Int32) (rX : Int32) (rY : Int32) (rZ : Int32) (rU : Int32) (yro : Nat) (yc : Nat) (ybe : Nat) (yco : Nat) (rC : Int64) (rV : Int64) (qC : Nat → Int64) (qg : Nat → Int32) (qn : Nat → Int32) (qr : Nat → Int32) (qw : Nat → Int32) (qB : Nat → Int64) (G : Nat) (K : Nat) (M : Nat) (N : Nat) (cn : Nat → Nat) (Inv : Nat → Int64 → Int32 → Int64 → Int64 → (Nat → Int32) → Prop) (step : ∀ (mz : Nat) (al : Int64) (gi : Int32) (cv : Int64) (sv : Int64) (n1 : Nat → Int32), Inv mz al gi cv sv n1 → ∀ TT : Int64 → Int32 → Int64 → Int64 → (Nat → Int32) → Prop, TT = (fun al gi cv sv n1 => ∃ mz', mz' < mz ∧ Inv mz' al gi cv sv n1) → (((nI G) ≤ gi → Post none [(h0, .inr (8, [.ref yt, .int rT, .int rH, .int (nI G), .ref yw, .int (nI K), .ref yp, .ref yg, .int (nI M), .ref yu, .int (nI N), .ref ysl, .ref yin, .ref yse, .ref ysp, .ref ypa, .int rA, .ref yb, .ref ybd, .ref ybc, .ref yr, .int rF, .int rP, .ref ywd, .int rS, .int rN, .int rO, .int rW, .int rL, .int rD, .ref yd, .int rI, .int rX, .int rY, .int rZ, .int rU, .ref yro, .ref yc, .ref ybe, .ref yco, .long cv, .long sv])), (yc, .inl (g.2.1 2, 3, .inr (.inl qC))), (yg, .inl (g.2.1 1, 12, .inl qg)), (yco, .inl (g.2.1 1, 4, .inl n1)), (yr, .inl (g.2.1 1, 24, .inl qr)), (yw, .inl (g.2.1 1, 4, .inl qw)), (ybe, .inl (g.2.1 2, 32805, .inr (.inl qB)))]) ∧ (¬ (nI G) ≤ gi → vp_in gi 4 ∧ ∀ x_3 : Int32, x_3 = ((n1 gi.toNatClampNeg) + 1) → vp_in gi 4 ∧ ∀ f_5 : Nat → Int32, f_5 = upd n1 gi.toNatClampNeg x_3 → ∃ cn_6 : Nat → Nat, (K ≤ 3 ∧ ∀ q, q < 4 → f_5 q = nI (cn_6 q) ∧ cn_6 q ≤ 9) ∧ ∀ r_8 : Int64, ∀ _ : (r_8 = rw_E qC qg cn_6 K), (((lg_cmp r_8 0) ≤ 0 → vp_in gi 4 ∧ ∀ x_12 : Int32, x_12 = ((f_5 gi.toNatClampNeg) - 1) → vp_in gi 4 ∧ ∀ f_14 : Nat → Int32, f_14 = upd f_5 gi.toNatClampNeg x_12 → ∀ x_15 : Int32, x_15 = gi + 1 → TT al x_15 cv sv f_14) ∧ (¬ (lg_cmp r_8 0) ≤ 0 → vp_in gi 4 ∧ ((tl ≤ 1 → ∀ x_18 : Int64, x_18 = (cv + (((((qw gi.toNatClampNeg).toInt64) * r_8) * (sc / 16)) + 0)) → vp_in gi 4 ∧ ∀ x_20 : Int32, x_20 = ((f_5 gi.toNatClampNeg) - 1) → vp_in gi 4 ∧ ∀ f_22 : Nat → Int32, f_22 = upd f_5 gi.toNatClampNeg x_20 → ∀ x_23 : Int32, x_23 = gi + 1 → TT al x_23 x_18 sv f_22) ∧ (¬ tl ≤ 1 → ∃ la_24 : Nat, ∃ cn_25 : Nat → Nat, (la_24 < 4 ∧ (∀ q, q < 4 → f_5 q = nI (cn_25 q)) ∧ gi = nI la_24) ∧ ∀ r_27 : Int32, ∀ _ : (r_27 = nI (ix_b cn_25 la_24)), vp_in r_27 32805 ∧ ∀ x_30 : Int64, x_30 = (cv + (((((qw gi.toNatClampNeg).toInt64) * r_8) * (sc / 16)) + (qB r_27.toNatClampNeg))) → vp_in gi 4 ∧ ∀ x_32 : Int32, x_32 = ((f_5 gi.toNatClampNeg) - 1) → vp_in gi 4 ∧ ∀ f_34 : Nat → Int32, f_34 = upd f_5 gi.toNatClampNeg x_32 → ∀ x_35 : Int32, x_35 = gi + 1 → TT al x_35 x_30 sv f_34))))))) : ∀ (mz : Nat) (al : Int64) (gi : Int32) (cv : Int64) (sv : Int64) (n1 : Nat → Int32), Inv mz al gi cv sv n1 → paX9_values_45 B g tl la sc h0 yt rT rH yw yp yg yu ysl yin yse ysp ypa rA yb ybd ybc yr rF rP ywd rS rN rO rW rL rD yd rI rX rY rZ rU yro yc ybe yco rC rV qC qg qn qr qw qB G K M N cn al gi cv sv n1 := by
  intro mz
  induction mz using Nat.strongRecOn with
  | _ mz ih =>
    intro al gi cv sv n1 hI
    exact sgX9_values_45 F Rt tl la sc h0 yt rT rH yw yp yg yu ysl yin yse ysp ypa rA yb ybd ybc yr rF rP ywd rS rN rO rW rL rD yd rI rX rY rZ rU yro yc ybe yco rC rV qC qg qn qr qw qB G K M N cn (fun al gi cv sv n1 => ∃ mz', mz' < mz ∧ Inv mz' al gi cv sv n1) (fun al gi cv sv n1 ⟨mz', h1, h2⟩ => ih mz' h1 al gi cv sv n1 h2) al gi cv sv n1 (step mz al gi cv sv n1 hI _ rfl)
set_option maxHeartbeats 4000000 in
set_option maxRecDepth 100000 in
theorem ctX9_values (l : Launch) (g : pz_G) (tl : Int32) (la : Int32) (sc : Int64) (h0 : Nat) (yt : Nat) (rT : Int32) (rH : Int32) (yw : Nat) (yp : Nat) (yg : Nat) (yu : Nat) (ysl : Nat) (yin : Nat) (yse : Nat) (ysp : Nat) (ypa : Nat) (rA : Int32) (yb : Nat) (ybd : Nat) (ybc : Nat) (yr : Nat) (rF : Int32) (rP : Int32) (ywd : Nat) (rS : Int32) (rN : Int32) (rO : Int32) (rW : Int32) (rL : Int32) (rD : Int32) (yd : Nat) (rI : Int32) (rX : Int32) (rY : Int32) (rZ : Int32) (rU : Int32) (yro : Nat) (yc : Nat) (ybe : Nat) (yco : Nat) (rC : Int64) (rV : Int64) (qC : Nat → Int64) (qg : Nat → Int32) (qn : Nat → Int32) (qr : Nat → Int32) (qw : Nat → Int32) (qB : Nat → Int64) (G : Nat) (K : Nat) (M : Nat) (N : Nat) (cn : Nat → Nat) (hpre : K ≤ 3 ∧ G ≤ 4 ∧ la < 4 ∧ cn 0 + cn 1 + cn 2 + cn 3 ≤ 7 ∧ ∀ q, q < 4 → qn q = nI (cn q) ∧ cn q ≤ 9) : pz_Ct l g yX9_values cX9_values 10 none rmX9_values [.ref h0, .int tl, .int la, .long sc] [(h0, .inr (8, [.ref yt, .int rT, .int rH, .int (nI G), .ref yw, .int (nI K), .ref yp, .ref yg, .int (nI M), .ref yu, .int (nI N), .ref ysl, .ref yin, .ref yse, .ref ysp, .ref ypa, .int rA, .ref yb, .ref ybd, .ref ybc, .ref yr, .int rF, .int rP, .ref ywd, .int rS, .int rN, .int rO, .int rW, .int rL, .int rD, .ref yd, .int rI, .int rX, .int rY, .int rZ, .int rU, .ref yro, .ref yc, .ref ybe, .ref yco, .long rC, .long rV])), (yc, .inl (g.2.1 2, 3, .inr (.inl qC))), (yg, .inl (g.2.1 1, 12, .inl qg)), (yco, .inl (g.2.1 1, 4, .inl qn)), (yr, .inl (g.2.1 1, 24, .inl qr)), (yw, .inl (g.2.1 1, 4, .inl qw)), (ybe, .inl (g.2.1 2, 32805, .inr (.inl qB)))] (pz_pv (fun (u : (Nat → Int32) × Int64 × Int64) => (∀ q, q < 4 → u.1 q = nI (cn q)) ∧ u.2.1 = rw_sell qr (fun cn => rw_E qC qg cn K) tl la sc cn ∧ u.2.2 = rw_cut qw qr (fun cn => rw_E qC qg cn K) tl sc (fun q => qB (ix_b (rw_inc cn q) q)) cn G) (fun (u : (Nat → Int32) × Int64 × Int64) => [(h0, .inr (8, [.ref yt, .int rT, .int rH, .int (nI G), .ref yw, .int (nI K), .ref yp, .ref yg, .int (nI M), .ref yu, .int (nI N), .ref ysl, .ref yin, .ref yse, .ref ysp, .ref ypa, .int rA, .ref yb, .ref ybd, .ref ybc, .ref yr, .int rF, .int rP, .ref ywd, .int rS, .int rN, .int rO, .int rW, .int rL, .int rD, .ref yd, .int rI, .int rX, .int rY, .int rZ, .int rU, .ref yro, .ref yc, .ref ybe, .ref yco, .long u.2.2, .long u.2.1])), (yc, .inl (g.2.1 2, 3, .inr (.inl qC))), (yg, .inl (g.2.1 1, 12, .inl qg)), (yco, .inl (g.2.1 1, 4, .inl u.1)), (yr, .inl (g.2.1 1, 24, .inl qr)), (yw, .inl (g.2.1 1, 4, .inl qw)), (ybe, .inl (g.2.1 2, 32805, .inr (.inl qB)))])) := by
  refine pz_ofAt (by decide +kernel) (Nat.le_of_ble_eq_true rfl) (fun B F Rt hme => ?_)
  obtain ⟨hK, hG, hla, hcs, hcn⟩ := hpre
  have e6 : ((6 : Int32).toNatClampNeg) = 6 := by decide
  have h45 := lpX9_values_45 F Rt tl la sc h0 yt rT rH yw yp yg yu ysl yin yse ysp ypa rA yb ybd ybc yr rF rP ywd rS rN rO rW rL rD yd rI rX rY rZ rU yro yc ybe yco rC rV qC qg qn qr qw qB G K M N cn (fun z al gi cv sv n1 => al = rw_E qC qg cn K ∧ sv = rw_sell qr (fun cn => rw_E qC qg cn K) tl la sc cn ∧ (∀ q, q < 4 → n1 q = nI (cn q)) ∧ ∃ j, j + z = G ∧ gi = nI j ∧ cv = rw_cut qw qr (fun cn => rw_E qC qg cn K) tl sc (fun q => qB (ix_b (rw_inc cn q) q)) cn j) (by
    rintro z al gi cv sv n1 ⟨rfl, rfl, hn1, j, hj, rfl, rfl⟩ TT rfl
    refine ⟨fun q => ?_, fun q => ?_⟩
    · have h1 := pu_ge (by omega) q
      have e : j = G := by omega
      subst e
      exact ⟨(_, _, _), rfl, rfl, hn1, rfl, rfl⟩
    · have h1 := pu_lt (by omega) (by omega) q
      have hj4 : vp_in (nI j) 4 := vp_in_nI (by omega) (by omega)
      rw [nI_clamp (by omega), hn1 j (by omega)]
      refine ⟨hj4, ?_⟩
      rintro x rfl
      refine ⟨hj4, ?_⟩
      rintro f rfl
      rw [nI_1]
      have hfi : ∀ q, q < 4 → upd n1 j (nI (cn j + 1)) q = nI (rw_inc cn j q) := by
        intro q hq
        unfold rw_inc
        by_cases e : q = j
        · rw [e, pk_us, if_pos rfl]
        · rw [pk_un e, if_neg e]; exact hn1 q hq
      have hfi9 : ∀ q, q < 4 → rw_inc cn j q ≤ 9 := by
        intro q hq
        have : cn q ≤ 7 := by
          rcases (show q = 0 ∨ q = 1 ∨ q = 2 ∨ q = 3 by omega) with rfl | rfl | rfl | rfl <;> omega
        unfold rw_inc
        split <;> omega
      have hback : ∀ q, q < 4 → upd (upd n1 j (nI (cn j + 1))) j (nI (cn j)) q = nI (cn q) := by
        intro q hq
        by_cases e : q = j
        · rw [e, pk_us]
        · rw [pk_un e, pk_un e]; exact hn1 q hq
      rw [pk_us, nI_pred]
      refine ⟨rw_inc cn j, ⟨hK, fun q hq => ⟨hfi q hq, hfi9 q hq⟩⟩, ?_⟩
      rintro r rfl
      rw [lg_cmp_le]
      refine ⟨fun k1 => ⟨hj4, ?_⟩, fun k1 => ⟨hj4, ?_⟩⟩
      · rintro x rfl
        refine ⟨hj4, ?_⟩
        rintro f rfl y rfl
        refine ⟨z - 1, by omega, rfl, rfl, hback, j + 1, by omega, nI_1 j, ?_⟩
        rw [rw_cut, if_neg (Int64.not_lt.mpr k1)]
      · have k2 := Int64.not_le.mp k1
        refine ⟨fun q2 => ?_, fun q2 => ?_⟩
        · rintro x rfl
          refine ⟨hj4, ?_⟩
          rintro x2 rfl
          refine ⟨hj4, ?_⟩
          rintro f rfl y rfl
          refine ⟨z - 1, by omega, rfl, rfl, hback, j + 1, by omega, nI_1 j, ?_⟩
          rw [rw_cut, if_pos k2, if_neg (Int32.not_lt.mpr q2)]
        · refine ⟨j, rw_inc cn j, ⟨by omega, hfi, rfl⟩, ?_⟩
          rintro r2 rfl
          have hix : ix_b (rw_inc cn j) j < 32805 := by
            have a0 := hcn 0 (by omega)
            have a1 := hcn 1 (by omega)
            have a2 := hcn 2 (by omega)
            have a3 := hcn 3 (by omega)
            have b0 := hcs
            unfold ix_b rw_inc
            split <;> split <;> split <;> split <;> omega
          rw [nI_clamp (by omega)]
          refine ⟨vp_in_nI hix (by omega), ?_⟩
          rintro x rfl
          refine ⟨hj4, ?_⟩
          rintro x2 rfl
          refine ⟨hj4, ?_⟩
          rintro f rfl y rfl
          refine ⟨z - 1, by omega, rfl, rfl, hback, j + 1, by omega, nI_1 j, ?_⟩
          rw [rw_cut, if_pos k2, if_pos (Int32.not_le.mp q2)])
  refine sgX9_values_0 F Rt tl la sc h0 yt rT rH yw yp yg yu ysl yin yse ysp ypa rA yb ybd ybc yr rF rP ywd rS rN rO rW rL rD yd rI rX rY rZ rU yro yc ybe yco rC rV qC qg qn qr qw qB G K M N cn _ (fun al gi cv sv n1 => h45 G al gi cv sv n1) ?_
  refine ⟨cn, ⟨hK, hcn⟩, ?_⟩
  rintro r rfl
  refine ⟨hla, ?_⟩
  rintro r2 rfl
  rw [e6]
  rintro x rfl
  refine ⟨vp_in_nI (n := 6) (N := 24) (by omega) (by omega), ?_⟩
  rintro y rfl
  exact ⟨rfl, rfl, fun q hq => (hcn q hq).1, 0, by omega, nI_0.symm, rfl⟩
abbrev rmX9_rest_T : Room := { frames := 2, cells := 0, slots := 0, locals := 55 }
abbrev paX9_rest_T_48 (B : pz_B) (g : pz_G) (w : Int32) (h0 : Nat) (yt : Nat) (rT : Int32) (rH : Int32) (yw : Nat) (yp : Nat) (yg : Nat) (yu : Nat) (ysl : Nat) (yin : Nat) (yse : Nat) (ysp : Nat) (ypa : Nat) (rA : Int32) (yb : Nat) (ybd : Nat) (ybc : Nat) (yr : Nat) (rF : Int32) (rP : Int32) (ywd : Nat) (rS : Int32) (rN : Int32) (rO : Int32) (rW : Int32) (rL : Int32) (rD : Int32) (yd : Nat) (rI : Int32) (rX : Int32) (rY : Int32) (rZ : Int32) (rU : Int32) (yro : Nat) (yc : Nat) (ybe : Nat) (yco : Nat) (rC : Int64) (rV : Int64) (qk : Nat → Int32) (qe : Nat → Int32) (qs : Nat → Int32) (qi : Nat → Int32) (qp : Nat → Int32) (qg : Nat → Int32) (qC : Nat → Int64) (qw : Nat → Int32) (G : Nat) (K : Nat) (M : Nat) (N : Nat) (b : Nat) (s : Nat) (A : Nat) (C : Nat) (al : Int64) (up : Int64) (ki : Int32) (c1 : Nat → Int64) : Prop := pz_At B 0 0 48 [(0, .ref h0), (1, .int (nI b)), (2, .int w), (3, .long al), (5, .long up), (7, .int ki)] [] [(h0, .inr (8, [.ref yt, .int rT, .int 0, .int (nI G), .ref yw, .int (nI K), .ref yp, .ref yg, .int (nI M), .ref yu, .int (nI N), .ref ysl, .ref yin, .ref yse, .ref ysp, .ref ypa, .int rA, .ref yb, .ref ybd, .ref ybc, .ref yr, .int rF, .int rP, .ref ywd, .int rS, .int rN, .int rO, .int rW, .int rL, .int rD, .ref yd, .int rI, .int rX, .int rY, .int rZ, .int rU, .ref yro, .ref yc, .ref ybe, .ref yco, .long rC, .long rV])), (ysp, .inl (g.2.1 3, 10, .inl qk)), (yse, .inl (g.2.1 1, 10, .inl qe)), (ysl, .inl (g.2.1 1, 10, .inl qs)), (yin, .inl (g.2.1 1, 10, .inl qi)), (yp, .inl (g.2.1 1, 3, .inl qp)), (yg, .inl (g.2.1 1, 12, .inl qg)), (yc, .inl (g.2.1 2, 3, .inr (.inl c1))), (yw, .inl (g.2.1 1, 4, .inl qw))]
abbrev paX9_rest_T_63 (B : pz_B) (g : pz_G) (w : Int32) (h0 : Nat) (yt : Nat) (rT : Int32) (rH : Int32) (yw : Nat) (yp : Nat) (yg : Nat) (yu : Nat) (ysl : Nat) (yin : Nat) (yse : Nat) (ysp : Nat) (ypa : Nat) (rA : Int32) (yb : Nat) (ybd : Nat) (ybc : Nat) (yr : Nat) (rF : Int32) (rP : Int32) (ywd : Nat) (rS : Int32) (rN : Int32) (rO : Int32) (rW : Int32) (rL : Int32) (rD : Int32) (yd : Nat) (rI : Int32) (rX : Int32) (rY : Int32) (rZ : Int32) (rU : Int32) (yro : Nat) (yc : Nat) (ybe : Nat) (yco : Nat) (rC : Int64) (rV : Int64) (qk : Nat → Int32) (qe : Nat → Int32) (qs : Nat → Int32) (qi : Nat → Int32) (qp : Nat → Int32) (qg : Nat → Int32) (qC : Nat → Int64) (qw : Nat → Int32) (G : Nat) (K : Nat) (M : Nat) (N : Nat) (b : Nat) (s : Nat) (A : Nat) (C : Nat) (al : Int64) (up : Int64) (ki : Int32) (su : Int64) (gi : Int32) (c1 : Nat → Int64) : Prop := pz_At B 0 0 63 [(0, .ref h0), (1, .int (nI b)), (2, .int w), (3, .long al), (5, .long up), (7, .int ki), (8, .long su), (10, .int gi)] [] [(h0, .inr (8, [.ref yt, .int rT, .int 0, .int (nI G), .ref yw, .int (nI K), .ref yp, .ref yg, .int (nI M), .ref yu, .int (nI N), .ref ysl, .ref yin, .ref yse, .ref ysp, .ref ypa, .int rA, .ref yb, .ref ybd, .ref ybc, .ref yr, .int rF, .int rP, .ref ywd, .int rS, .int rN, .int rO, .int rW, .int rL, .int rD, .ref yd, .int rI, .int rX, .int rY, .int rZ, .int rU, .ref yro, .ref yc, .ref ybe, .ref yco, .long rC, .long rV])), (ysp, .inl (g.2.1 3, 10, .inl qk)), (yse, .inl (g.2.1 1, 10, .inl qe)), (ysl, .inl (g.2.1 1, 10, .inl qs)), (yin, .inl (g.2.1 1, 10, .inl qi)), (yp, .inl (g.2.1 1, 3, .inl qp)), (yg, .inl (g.2.1 1, 12, .inl qg)), (yc, .inl (g.2.1 2, 3, .inr (.inl c1))), (yw, .inl (g.2.1 1, 4, .inl qw))]
set_option maxHeartbeats 4000000 in
set_option maxRecDepth 100000 in
theorem sgX9_rest_T_0 {B : pz_B} {g : pz_G} {wc : va_W} {Post : Option Value → va_W → Prop} (F : pz_F B cX9_rest 11 (some .long) yX9_rest.cls g rmX9_rest_T) (Rt : pz_Rt B g wc Post rmX9_rest_T) (w : Int32) (h0 : Nat) (yt : Nat) (rT : Int32) (rH : Int32) (yw : Nat) (yp : Nat) (yg : Nat) (yu : Nat) (ysl : Nat) (yin : Nat) (yse : Nat) (ysp : Nat) (ypa : Nat) (rA : Int32) (yb : Nat) (ybd : Nat) (ybc : Nat) (yr : Nat) (rF : Int32) (rP : Int32) (ywd : Nat) (rS : Int32) (rN : Int32) (rO : Int32) (rW : Int32) (rL : Int32) (rD : Int32) (yd : Nat) (rI : Int32) (rX : Int32) (rY : Int32) (rZ : Int32) (rU : Int32) (yro : Nat) (yc : Nat) (ybe : Nat) (yco : Nat) (rC : Int64) (rV : Int64) (qk : Nat → Int32) (qe : Nat → Int32) (qs : Nat → Int32) (qi : Nat → Int32) (qp : Nat → Int32) (qg : Nat → Int32) (qC : Nat → Int64) (qw : Nat → Int32) (G : Nat) (K : Nat) (M : Nat) (N : Nat) (b : Nat) (s : Nat) (A : Nat) (C : Nat) (T48 : Int64 → Int64 → Int32 → (Nat → Int64) → Prop) (hT48 : ∀ (al : Int64) (up : Int64) (ki : Int32) (c1 : Nat → Int64), T48 al up ki c1 → paX9_rest_T_48 B g w h0 yt rT rH yw yp yg yu ysl yin yse ysp ypa rA yb ybd ybc yr rF rP ywd rS rN rO rW rL rD yd rI rX rY rZ rU yro yc ybe yco rC rV qk qe qs qi qp qg qC qw G K M N b s A C al up ki c1)  (vc : (N ≤ 10) ∧ ∀ r_2 : Int32, ∀ _ : ((wh_ok (nI b) N qk ∧ r_2 = 1) ∨ (¬ wh_ok (nI b) N qk ∧ r_2 = 0)), ((r_2 = 0 → Post (some (.long (-1))) [(h0, .inr (8, [.ref yt, .int rT, .int 0, .int (nI G), .ref yw, .int (nI K), .ref yp, .ref yg, .int (nI M), .ref yu, .int (nI N), .ref ysl, .ref yin, .ref yse, .ref ysp, .ref ypa, .int rA, .ref yb, .ref ybd, .ref ybc, .ref yr, .int rF, .int rP, .ref ywd, .int rS, .int rN, .int rO, .int rW, .int rL, .int rD, .ref yd, .int rI, .int rX, .int rY, .int rZ, .int rU, .ref yro, .ref yc, .ref ybe, .ref yco, .long rC, .long rV])), (ysp, .inl (g.2.1 3, 10, .inl qk)), (yse, .inl (g.2.1 1, 10, .inl qe)), (ysl, .inl (g.2.1 1, 10, .inl qs)), (yin, .inl (g.2.1 1, 10, .inl qi)), (yp, .inl (g.2.1 1, 3, .inl qp)), (yg, .inl (g.2.1 1, 12, .inl qg)), (yc, .inl (g.2.1 2, 3, .inr (.inl qC))), (yw, .inl (g.2.1 1, 4, .inl qw))]) ∧ (¬ r_2 = 0 → ((w < 0 → Post (some (.long (-1))) [(h0, .inr (8, [.ref yt, .int rT, .int 0, .int (nI G), .ref yw, .int (nI K), .ref yp, .ref yg, .int (nI M), .ref yu, .int (nI N), .ref ysl, .ref yin, .ref yse, .ref ysp, .ref ypa, .int rA, .ref yb, .ref ybd, .ref ybc, .ref yr, .int rF, .int rP, .ref ywd, .int rS, .int rN, .int rO, .int rW, .int rL, .int rD, .ref yd, .int rI, .int rX, .int rY, .int rZ, .int rU, .ref yro, .ref yc, .ref ybe, .ref yco, .long rC, .long rV])), (ysp, .inl (g.2.1 3, 10, .inl qk)), (yse, .inl (g.2.1 1, 10, .inl qe)), (ysl, .inl (g.2.1 1, 10, .inl qs)), (yin, .inl (g.2.1 1, 10, .inl qi)), (yp, .inl (g.2.1 1, 3, .inl qp)), (yg, .inl (g.2.1 1, 12, .inl qg)), (yc, .inl (g.2.1 2, 3, .inr (.inl qC))), (yw, .inl (g.2.1 1, 4, .inl qw))]) ∧ (¬ w < 0 → ((w ≤ 1 → (b < 10 ∧ K ≤ 3 ∧ s ≤ 8 ∧ qe b = nI s) ∧ ∀ r_9 : Int64, ∀ c2_8 : Nat → Int64, ∀ _ : (r_9 = (pu_wa qp qg (qi b) s K) ∧ ∀ a, a < K → c2_8 a = pu_wg qp qg (qi b) a s), ((¬ (lg_cmp r_9 0) = 0 → T48 r_9 0 0 c2_8) ∧ ((lg_cmp r_9 0) = 0 → Post (some (.long (-1))) [(h0, .inr (8, [.ref yt, .int rT, .int 0, .int (nI G), .ref yw, .int (nI K), .ref yp, .ref yg, .int (nI M), .ref yu, .int (nI N), .ref ysl, .ref yin, .ref yse, .ref ysp, .ref ypa, .int rA, .ref yb, .ref ybd, .ref ybc, .ref yr, .int rF, .int rP, .ref ywd, .int rS, .int rN, .int rO, .int rW, .int rL, .int rD, .ref yd, .int rI, .int rX, .int rY, .int rZ, .int rU, .ref yro, .ref yc, .ref ybe, .ref yco, .long rC, .long rV])), (ysp, .inl (g.2.1 3, 10, .inl qk)), (yse, .inl (g.2.1 1, 10, .inl qe)), (ysl, .inl (g.2.1 1, 10, .inl qs)), (yin, .inl (g.2.1 1, 10, .inl qi)), (yp, .inl (g.2.1 1, 3, .inl qp)), (yg, .inl (g.2.1 1, 12, .inl qg)), (yc, .inl (g.2.1 2, 3, .inr (.inl c2_8))), (yw, .inl (g.2.1 1, 4, .inl qw))]))) ∧ (¬ w ≤ 1 → Post (some (.long (-1))) [(h0, .inr (8, [.ref yt, .int rT, .int 0, .int (nI G), .ref yw, .int (nI K), .ref yp, .ref yg, .int (nI M), .ref yu, .int (nI N), .ref ysl, .ref yin, .ref yse, .ref ysp, .ref ypa, .int rA, .ref yb, .ref ybd, .ref ybc, .ref yr, .int rF, .int rP, .ref ywd, .int rS, .int rN, .int rO, .int rW, .int rL, .int rD, .ref yd, .int rI, .int rX, .int rY, .int rZ, .int rU, .ref yro, .ref yc, .ref ybe, .ref yco, .long rC, .long rV])), (ysp, .inl (g.2.1 3, 10, .inl qk)), (yse, .inl (g.2.1 1, 10, .inl qe)), (ysl, .inl (g.2.1 1, 10, .inl qs)), (yin, .inl (g.2.1 1, 10, .inl qi)), (yp, .inl (g.2.1 1, 3, .inl qp)), (yg, .inl (g.2.1 1, 12, .inl qg)), (yc, .inl (g.2.1 2, 3, .inr (.inl qC))), (yw, .inl (g.2.1 1, 4, .inl qw))]))))))) : pz_At B 0 0 0 [(0, .ref h0), (1, .int (nI b)), (2, .int w)] [] [(h0, .inr (8, [.ref yt, .int rT, .int rH, .int (nI G), .ref yw, .int (nI K), .ref yp, .ref yg, .int (nI M), .ref yu, .int (nI N), .ref ysl, .ref yin, .ref yse, .ref ysp, .ref ypa, .int rA, .ref yb, .ref ybd, .ref ybc, .ref yr, .int rF, .int rP, .ref ywd, .int rS, .int rN, .int rO, .int rW, .int rL, .int rD, .ref yd, .int rI, .int rX, .int rY, .int rZ, .int rU, .ref yro, .ref yc, .ref ybe, .ref yco, .long rC, .long rV])), (ysp, .inl (g.2.1 3, 10, .inl qk)), (yse, .inl (g.2.1 1, 10, .inl qe)), (ysl, .inl (g.2.1 1, 10, .inl qs)), (yin, .inl (g.2.1 1, 10, .inl qi)), (yp, .inl (g.2.1 1, 3, .inl qp)), (yg, .inl (g.2.1 1, 12, .inl qg)), (yc, .inl (g.2.1 2, 3, .inr (.inl qC))), (yw, .inl (g.2.1 1, 4, .inl qw))] := by
  refine pz_aload_n 0 F rfl dX9_rest_0 rfl ?_
  refine pz_iconst (v := 0) F dX9_rest_1 rfl ?_
  refine pz_put (ws' := [(h0, .inr (8, [.ref yt, .int rT, .int 0, .int (nI G), .ref yw, .int (nI K), .ref yp, .ref yg, .int (nI M), .ref yu, .int (nI N), .ref ysl, .ref yin, .ref yse, .ref ysp, .ref ypa, .int rA, .ref yb, .ref ybd, .ref ybc, .ref yr, .int rF, .int rP, .ref ywd, .int rS, .int rN, .int rO, .int rW, .int rL, .int rD, .ref yd, .int rI, .int rX, .int rY, .int rZ, .int rU, .ref yro, .ref yc, .ref ybe, .ref yco, .long rC, .long rV])), (ysp, .inl (g.2.1 3, 10, .inl qk)), (yse, .inl (g.2.1 1, 10, .inl qe)), (ysl, .inl (g.2.1 1, 10, .inl qs)), (yin, .inl (g.2.1 1, 10, .inl qi)), (yp, .inl (g.2.1 1, 3, .inl qp)), (yg, .inl (g.2.1 1, 12, .inl qg)), (yc, .inl (g.2.1 2, 3, .inr (.inl qC))), (yw, .inl (g.2.1 1, 4, .inl qw))]) (ci := 8) (C := RX9) (T := TX9) (N := 42) (v := .int 0) (ty := .int) 0 F rfl rfl pz_inX9 2 (by decide) pw_810 tyX9_ok nmX9 rfl rfl rfl rfl (Nat.le_of_ble_eq_true rfl) dX9_rest_2 rfl ?_
  refine pz_aload_n 0 F rfl dX9_rest_5 rfl ?_
  refine pz_iload_n 1 F rfl dX9_rest_6 rfl ?_
  obtain ⟨h_1, vc⟩ := vc
  refine pz_callV (nA := 1) (ci := 8) (C := RX9) (T := TX9) (N := 42) (As := [.int (nI b)]) (rest := []) (wr := [(yse, .inl (g.2.1 1, 10, .inl qe)), (ysl, .inl (g.2.1 1, 10, .inl qs)), (yin, .inl (g.2.1 1, 10, .inl qi)), (yp, .inl (g.2.1 1, 3, .inl qp)), (yg, .inl (g.2.1 1, 12, .inl qg)), (yc, .inl (g.2.1 2, 3, .inr (.inl qC))), (yw, .inl (g.2.1 1, 4, .inl qw))]) F (ctX9_isWhole _ g (nI b) h0 yt rT 0 yw yp yg yu ysl yin yse ysp ypa rA yb ybd ybc yr rF rP ywd rS rN rO rW rL rD yd rI rX rY rZ rU yro yc ybe yco rC rV qk G K M N h_1) 0 rfl rfl pw_1012 pw_1014 pv_36 pw_8 pw_1015 (by decide +kernel) (by decide) (by decide) rfl rfl (Nat.le_of_ble_eq_true rfl) [0, 1] [2, 3, 4, 5, 6, 7, 8] rfl rfl rfl rfl (by decide) dX9_rest_7 (fun r0 w0 hp0 => ?_)
  obtain ⟨r_2, _, rfl, rfl, hq_3⟩ := hp0
  replace vc := vc r_2  hq_3
  refine pz_eq (st' := [.int r_2]) (ws' := [(yse, .inl (g.2.1 1, 10, .inl qe)), (ysl, .inl (g.2.1 1, 10, .inl qs)), (yin, .inl (g.2.1 1, 10, .inl qi)), (yp, .inl (g.2.1 1, 3, .inl qp)), (yg, .inl (g.2.1 1, 12, .inl qg)), (yc, .inl (g.2.1 2, 3, .inr (.inl qC))), (yw, .inl (g.2.1 1, 4, .inl qw)), (h0, .inr (8, [.ref yt, .int rT, .int 0, .int (nI G), .ref yw, .int (nI K), .ref yp, .ref yg, .int (nI M), .ref yu, .int (nI N), .ref ysl, .ref yin, .ref yse, .ref ysp, .ref ypa, .int rA, .ref yb, .ref ybd, .ref ybc, .ref yr, .int rF, .int rP, .ref ywd, .int rS, .int rN, .int rO, .int rW, .int rL, .int rD, .ref yd, .int rI, .int rX, .int rY, .int rZ, .int rU, .ref yro, .ref yc, .ref ybe, .ref yco, .long rC, .long rV])), (ysp, .inl (g.2.1 3, 10, .inl qk))]) rfl rfl ?_
  refine pz_if_eq (tgt := 22) F dX9_rest_10 (by decide) (fun q_4 => ?_) (fun q_4 => ?_)
  · replace vc := vc.1 q_4
    refine pz_ldc2 (v := (-1)) F pw_1096 dX9_rest_22 ?_
    exact pz_lreturn (w1 := [(h0, .inr (8, [.ref yt, .int rT, .int 0, .int (nI G), .ref yw, .int (nI K), .ref yp, .ref yg, .int (nI M), .ref yu, .int (nI N), .ref ysl, .ref yin, .ref yse, .ref ysp, .ref ypa, .int rA, .ref yb, .ref ybd, .ref ybc, .ref yr, .int rF, .int rP, .ref ywd, .int rS, .int rN, .int rO, .int rW, .int rL, .int rD, .ref yd, .int rI, .int rX, .int rY, .int rZ, .int rU, .ref yro, .ref yc, .ref ybe, .ref yco, .long rC, .long rV])), (ysp, .inl (g.2.1 3, 10, .inl qk)), (yse, .inl (g.2.1 1, 10, .inl qe)), (ysl, .inl (g.2.1 1, 10, .inl qs)), (yin, .inl (g.2.1 1, 10, .inl qi)), (yp, .inl (g.2.1 1, 3, .inl qp)), (yg, .inl (g.2.1 1, 12, .inl qg)), (yc, .inl (g.2.1 2, 3, .inr (.inl qC))), (yw, .inl (g.2.1 1, 4, .inl qw))]) F Rt (by decide) (by decide) dX9_rest_25 [7, 8, 0, 1, 2, 3, 4, 5, 6] rfl rfl vc
  · replace vc := vc.2 q_4
    refine pz_iload_n 2 F rfl dX9_rest_13 rfl ?_
    refine pz_if_lt (tgt := 22) F dX9_rest_14 (by decide) (fun q_5 => ?_) (fun q_5 => ?_)
    · replace vc := vc.1 q_5
      refine pz_ldc2 (v := (-1)) F pw_1096 dX9_rest_22 ?_
      exact pz_lreturn (w1 := [(h0, .inr (8, [.ref yt, .int rT, .int 0, .int (nI G), .ref yw, .int (nI K), .ref yp, .ref yg, .int (nI M), .ref yu, .int (nI N), .ref ysl, .ref yin, .ref yse, .ref ysp, .ref ypa, .int rA, .ref yb, .ref ybd, .ref ybc, .ref yr, .int rF, .int rP, .ref ywd, .int rS, .int rN, .int rO, .int rW, .int rL, .int rD, .ref yd, .int rI, .int rX, .int rY, .int rZ, .int rU, .ref yro, .ref yc, .ref ybe, .ref yco, .long rC, .long rV])), (ysp, .inl (g.2.1 3, 10, .inl qk)), (yse, .inl (g.2.1 1, 10, .inl qe)), (ysl, .inl (g.2.1 1, 10, .inl qs)), (yin, .inl (g.2.1 1, 10, .inl qi)), (yp, .inl (g.2.1 1, 3, .inl qp)), (yg, .inl (g.2.1 1, 12, .inl qg)), (yc, .inl (g.2.1 2, 3, .inr (.inl qC))), (yw, .inl (g.2.1 1, 4, .inl qw))]) F Rt (by decide) (by decide) dX9_rest_25 [7, 8, 0, 1, 2, 3, 4, 5, 6] rfl rfl vc
    · replace vc := vc.2 q_5
      refine pz_iload_n 2 F rfl dX9_rest_17 rfl ?_
      refine pz_iconst (v := 1) F dX9_rest_18 rfl ?_
      refine pz_icmp_le (tgt := 26) F dX9_rest_19 (by decide) (fun q_6 => ?_) (fun q_6 => ?_)
      · replace vc := vc.1 q_6
        refine pz_aload_n 0 F rfl dX9_rest_26 rfl ?_
        refine pz_iload_n 1 F rfl dX9_rest_27 rfl ?_
        obtain ⟨h_7, vc⟩ := vc
        refine pz_callV (nA := 1) (ci := 8) (C := RX9) (T := TX9) (N := 42) (As := [.int (nI b)]) (rest := []) (wr := [(ysl, .inl (g.2.1 1, 10, .inl qs)), (yw, .inl (g.2.1 1, 4, .inl qw)), (ysp, .inl (g.2.1 3, 10, .inl qk))]) F (ctX9_chances _ g h0 yt rT 0 yw yp yg yu ysl yin yse ysp ypa rA yb ybd ybc yr rF rP ywd rS rN rO rW rL rD yd rI rX rY rZ rU yro yc ybe yco rC rV qe qi qp qg qC G K M N b s h_7) 7 rfl rfl pw_1097 pw_1099 pv_47 pw_8 pw_1100 (by decide +kernel) (by decide) (by decide) rfl rfl (Nat.le_of_ble_eq_true rfl) [7, 0, 2, 3, 4, 5] [1, 6, 8] rfl rfl rfl rfl (by decide) dX9_rest_28 (fun r0 w0 hp0 => ?_)
        obtain ⟨r_9, c2_8, rfl, rfl, hq_10⟩ := hp0
        replace vc := vc r_9 c2_8 hq_10
        refine pz_eq (st' := [.long r_9]) (ws' := [(ysl, .inl (g.2.1 1, 10, .inl qs)), (yw, .inl (g.2.1 1, 4, .inl qw)), (ysp, .inl (g.2.1 3, 10, .inl qk)), (h0, .inr (8, [.ref yt, .int rT, .int 0, .int (nI G), .ref yw, .int (nI K), .ref yp, .ref yg, .int (nI M), .ref yu, .int (nI N), .ref ysl, .ref yin, .ref yse, .ref ysp, .ref ypa, .int rA, .ref yb, .ref ybd, .ref ybc, .ref yr, .int rF, .int rP, .ref ywd, .int rS, .int rN, .int rO, .int rW, .int rL, .int rD, .ref yd, .int rI, .int rX, .int rY, .int rZ, .int rU, .ref yro, .ref yc, .ref ybe, .ref yco, .long rC, .long rV])), (yse, .inl (g.2.1 1, 10, .inl qe)), (yin, .inl (g.2.1 1, 10, .inl qi)), (yp, .inl (g.2.1 1, 3, .inl qp)), (yg, .inl (g.2.1 1, 12, .inl qg)), (yc, .inl (g.2.1 2, 3, .inr (.inl c2_8)))]) rfl rfl ?_
        refine pz_lstore_n (lv' := [(3, .long r_9), (0, .ref h0), (1, .int (nI b)), (2, .int w)]) F dX9_rest_31 rfl (by decide) rfl ?_
        refine pz_lload_n 0 F rfl dX9_rest_32 rfl ?_
        refine pz_lconst (v := 0) F dX9_rest_33 rfl ?_
        refine pz_lcmp F dX9_rest_34 ?_
        refine pz_if_ne (tgt := 42) F dX9_rest_35 (by decide) (fun q_11 => ?_) (fun q_11 => ?_)
        · replace vc := vc.1 q_11
          refine pz_lconst (v := 0) F dX9_rest_42 rfl ?_
          refine pz_lstore (lv' := [(5, .long 0), (3, .long r_9), (0, .ref h0), (1, .int (nI b)), (2, .int w)]) F dX9_rest_43 (by decide) rfl ?_
          refine pz_iconst (v := 0) F dX9_rest_45 rfl ?_
          refine pz_istore (lv' := [(7, .int 0), (5, .long 0), (3, .long r_9), (0, .ref h0), (1, .int (nI b)), (2, .int w)]) F dX9_rest_46 (by decide) rfl ?_
          exact pz_sub [3, 4, 5, 2, 1, 0] [3, 2, 4, 0, 5, 6, 7, 8, 1] rfl rfl rfl (hT48 r_9 0 0 c2_8 vc)
        · replace vc := vc.2 q_11
          refine pz_ldc2 (v := (-1)) F pw_1096 dX9_rest_38 ?_
          exact pz_lreturn (w1 := [(h0, .inr (8, [.ref yt, .int rT, .int 0, .int (nI G), .ref yw, .int (nI K), .ref yp, .ref yg, .int (nI M), .ref yu, .int (nI N), .ref ysl, .ref yin, .ref yse, .ref ysp, .ref ypa, .int rA, .ref yb, .ref ybd, .ref ybc, .ref yr, .int rF, .int rP, .ref ywd, .int rS, .int rN, .int rO, .int rW, .int rL, .int rD, .ref yd, .int rI, .int rX, .int rY, .int rZ, .int rU, .ref yro, .ref yc, .ref ybe, .ref yco, .long rC, .long rV])), (ysp, .inl (g.2.1 3, 10, .inl qk)), (yse, .inl (g.2.1 1, 10, .inl qe)), (ysl, .inl (g.2.1 1, 10, .inl qs)), (yin, .inl (g.2.1 1, 10, .inl qi)), (yp, .inl (g.2.1 1, 3, .inl qp)), (yg, .inl (g.2.1 1, 12, .inl qg)), (yc, .inl (g.2.1 2, 3, .inr (.inl c2_8))), (yw, .inl (g.2.1 1, 4, .inl qw))]) F Rt (by decide) (by decide) dX9_rest_41 [3, 2, 4, 0, 5, 6, 7, 8, 1] rfl rfl vc
      · replace vc := vc.2 q_6
        refine pz_ldc2 (v := (-1)) F pw_1096 dX9_rest_22 ?_
        exact pz_lreturn (w1 := [(h0, .inr (8, [.ref yt, .int rT, .int 0, .int (nI G), .ref yw, .int (nI K), .ref yp, .ref yg, .int (nI M), .ref yu, .int (nI N), .ref ysl, .ref yin, .ref yse, .ref ysp, .ref ypa, .int rA, .ref yb, .ref ybd, .ref ybc, .ref yr, .int rF, .int rP, .ref ywd, .int rS, .int rN, .int rO, .int rW, .int rL, .int rD, .ref yd, .int rI, .int rX, .int rY, .int rZ, .int rU, .ref yro, .ref yc, .ref ybe, .ref yco, .long rC, .long rV])), (ysp, .inl (g.2.1 3, 10, .inl qk)), (yse, .inl (g.2.1 1, 10, .inl qe)), (ysl, .inl (g.2.1 1, 10, .inl qs)), (yin, .inl (g.2.1 1, 10, .inl qi)), (yp, .inl (g.2.1 1, 3, .inl qp)), (yg, .inl (g.2.1 1, 12, .inl qg)), (yc, .inl (g.2.1 2, 3, .inr (.inl qC))), (yw, .inl (g.2.1 1, 4, .inl qw))]) F Rt (by decide) (by decide) dX9_rest_25 [7, 8, 0, 1, 2, 3, 4, 5, 6] rfl rfl vc
set_option maxHeartbeats 4000000 in
set_option maxRecDepth 100000 in
theorem sgX9_rest_T_48 {B : pz_B} {g : pz_G} {wc : va_W} {Post : Option Value → va_W → Prop} (F : pz_F B cX9_rest 11 (some .long) yX9_rest.cls g rmX9_rest_T) (Rt : pz_Rt B g wc Post rmX9_rest_T) (w : Int32) (h0 : Nat) (yt : Nat) (rT : Int32) (rH : Int32) (yw : Nat) (yp : Nat) (yg : Nat) (yu : Nat) (ysl : Nat) (yin : Nat) (yse : Nat) (ysp : Nat) (ypa : Nat) (rA : Int32) (yb : Nat) (ybd : Nat) (ybc : Nat) (yr : Nat) (rF : Int32) (rP : Int32) (ywd : Nat) (rS : Int32) (rN : Int32) (rO : Int32) (rW : Int32) (rL : Int32) (rD : Int32) (yd : Nat) (rI : Int32) (rX : Int32) (rY : Int32) (rZ : Int32) (rU : Int32) (yro : Nat) (yc : Nat) (ybe : Nat) (yco : Nat) (rC : Int64) (rV : Int64) (qk : Nat → Int32) (qe : Nat → Int32) (qs : Nat → Int32) (qi : Nat → Int32) (qp : Nat → Int32) (qg : Nat → Int32) (qC : Nat → Int64) (qw : Nat → Int32) (G : Nat) (K : Nat) (M : Nat) (N : Nat) (b : Nat) (s : Nat) (A : Nat) (C : Nat) (T63 : Int64 → Int64 → Int32 → Int64 → Int32 → (Nat → Int64) → Prop) (hT63 : ∀ (al : Int64) (up : Int64) (ki : Int32) (su : Int64) (gi : Int32) (c1 : Nat → Int64), T63 al up ki su gi c1 → paX9_rest_T_63 B g w h0 yt rT rH yw yp yg yu ysl yin yse ysp ypa rA yb ybd ybc yr rF rP ywd rS rN rO rW rL rD yd rI rX rY rZ rU yro yc ybe yco rC rV qk qe qs qi qp qg qC qw G K M N b s A C al up ki su gi c1) (al : Int64) (up : Int64) (ki : Int32) (c1 : Nat → Int64) (vc : (((nI K) ≤ ki → vp_in (nI b) 10 ∧ vp_in (nI b) 10 ∧ ∃ A_4 : Nat, ∃ C_5 : Nat, (A_4 < 2 ^ 63 ∧ C_5 < 2 ^ 63 ∧ (up * (((qs (nI b).toNatClampNeg) - (qe (nI b).toNatClampNeg)).toInt64)) = lN A_4 ∧ (16 * al) = lN C_5) ∧ ∀ r_7 : Int64, ∀ _ : (r_7 = rd_a A_4 C_5 w), Post (some (.long r_7)) [(h0, .inr (8, [.ref yt, .int rT, .int 0, .int (nI G), .ref yw, .int (nI K), .ref yp, .ref yg, .int (nI M), .ref yu, .int (nI N), .ref ysl, .ref yin, .ref yse, .ref ysp, .ref ypa, .int rA, .ref yb, .ref ybd, .ref ybc, .ref yr, .int rF, .int rP, .ref ywd, .int rS, .int rN, .int rO, .int rW, .int rL, .int rD, .ref yd, .int rI, .int rX, .int rY, .int rZ, .int rU, .ref yro, .ref yc, .ref ybe, .ref yco, .long rC, .long rV])), (ysp, .inl (g.2.1 3, 10, .inl qk)), (yse, .inl (g.2.1 1, 10, .inl qe)), (ysl, .inl (g.2.1 1, 10, .inl qs)), (yin, .inl (g.2.1 1, 10, .inl qi)), (yp, .inl (g.2.1 1, 3, .inl qp)), (yg, .inl (g.2.1 1, 12, .inl qg)), (yc, .inl (g.2.1 2, 3, .inr (.inl c1))), (yw, .inl (g.2.1 1, 4, .inl qw))]) ∧ (¬ (nI K) ≤ ki → T63 al up ki 0 0 c1))) : pz_At B 0 0 48 [(0, .ref h0), (1, .int (nI b)), (2, .int w), (3, .long al), (5, .long up), (7, .int ki)] [] [(h0, .inr (8, [.ref yt, .int rT, .int 0, .int (nI G), .ref yw, .int (nI K), .ref yp, .ref yg, .int (nI M), .ref yu, .int (nI N), .ref ysl, .ref yin, .ref yse, .ref ysp, .ref ypa, .int rA, .ref yb, .ref ybd, .ref ybc, .ref yr, .int rF, .int rP, .ref ywd, .int rS, .int rN, .int rO, .int rW, .int rL, .int rD, .ref yd, .int rI, .int rX, .int rY, .int rZ, .int rU, .ref yro, .ref yc, .ref ybe, .ref yco, .long rC, .long rV])), (ysp, .inl (g.2.1 3, 10, .inl qk)), (yse, .inl (g.2.1 1, 10, .inl qe)), (ysl, .inl (g.2.1 1, 10, .inl qs)), (yin, .inl (g.2.1 1, 10, .inl qi)), (yp, .inl (g.2.1 1, 3, .inl qp)), (yg, .inl (g.2.1 1, 12, .inl qg)), (yc, .inl (g.2.1 2, 3, .inr (.inl c1))), (yw, .inl (g.2.1 1, 4, .inl qw))] := by
  refine pz_iload 5 F rfl dX9_rest_48 ?_
  refine pz_aload_n 0 F rfl dX9_rest_50 rfl ?_
  refine pz_get (ci := 8) (C := RX9) (T := TX9) (N := 42) (v := .int (nI K)) 0 F rfl rfl pz_inX9 5 (by decide) pw_813 rfl dX9_rest_51 ?_
  refine pz_icmp_ge (tgt := 125) F dX9_rest_54 (by decide) (fun q_1 => ?_) (fun q_1 => ?_)
  · replace vc := vc.1 q_1
    refine pz_lload 4 F rfl dX9_rest_125 ?_
    refine pz_aload_n 0 F rfl dX9_rest_127 rfl ?_
    refine pz_get (ci := 8) (C := RX9) (T := TX9) (N := 42) (v := .ref ysl) 0 F rfl rfl pz_inX9 11 (by decide) pw_819 rfl dX9_rest_128 ?_
    refine pz_iload_n 1 F rfl dX9_rest_131 rfl ?_
    obtain ⟨h_2, vc⟩ := vc
    refine pz_iaload 3 F rfl h_2 dX9_rest_132 ?_
    refine pz_aload_n 0 F rfl dX9_rest_133 rfl ?_
    refine pz_get (ci := 8) (C := RX9) (T := TX9) (N := 42) (v := .ref yse) 0 F rfl rfl pz_inX9 13 (by decide) pw_821 rfl dX9_rest_134 ?_
    refine pz_iload_n 1 F rfl dX9_rest_137 rfl ?_
    obtain ⟨h_3, vc⟩ := vc
    refine pz_iaload 2 F rfl h_3 dX9_rest_138 ?_
    refine pz_isub F dX9_rest_139 ?_
    refine pz_i2l F dX9_rest_140 ?_
    refine pz_lmul F dX9_rest_141 ?_
    refine pz_ldc2 (v := 16) F pw_1101 dX9_rest_142 ?_
    refine pz_lload_n 3 F rfl dX9_rest_145 rfl ?_
    refine pz_lmul F dX9_rest_146 ?_
    refine pz_iload_n 2 F rfl dX9_rest_147 rfl ?_
    obtain ⟨A_4, vc⟩ := vc
    obtain ⟨C_5, vc⟩ := vc
    obtain ⟨h_6, vc⟩ := vc
    refine pz_callS (nA := 3) (As := [.long (up * (((qs (nI b).toNatClampNeg) - (qe (nI b).toNatClampNeg)).toInt64)), .long (16 * al), .int w]) (rest := []) (wr := [(h0, .inr (8, [.ref yt, .int rT, .int 0, .int (nI G), .ref yw, .int (nI K), .ref yp, .ref yg, .int (nI M), .ref yu, .int (nI N), .ref ysl, .ref yin, .ref yse, .ref ysp, .ref ypa, .int rA, .ref yb, .ref ybd, .ref ybc, .ref yr, .int rF, .int rP, .ref ywd, .int rS, .int rN, .int rO, .int rW, .int rL, .int rD, .ref yd, .int rI, .int rX, .int rY, .int rZ, .int rU, .ref yro, .ref yc, .ref ybe, .ref yco, .long rC, .long rV])), (ysp, .inl (g.2.1 3, 10, .inl qk)), (yse, .inl (g.2.1 1, 10, .inl qe)), (ysl, .inl (g.2.1 1, 10, .inl qs)), (yin, .inl (g.2.1 1, 10, .inl qi)), (yp, .inl (g.2.1 1, 3, .inl qp)), (yg, .inl (g.2.1 1, 12, .inl qg)), (yc, .inl (g.2.1 2, 3, .inr (.inl c1))), (yw, .inl (g.2.1 1, 4, .inl qw))]) F (ctX9_least _ g (up * (((qs (nI b).toNatClampNeg) - (qe (nI b).toNatClampNeg)).toInt64)) (16 * al) w A_4 C_5 h_6) pw_1102 pw_1103 pw_8 pw_1104 (by decide +kernel) (by decide) (by decide) rfl rfl (Nat.le_of_ble_eq_true rfl) [] [0, 1, 2, 3, 4, 5, 6, 7, 8] rfl rfl rfl rfl (by decide) dX9_rest_148 (fun r0 w0 hp0 => ?_)
    obtain ⟨r_7, _, rfl, rfl, hq_8⟩ := hp0
    replace vc := vc r_7  hq_8
    refine pz_eq (st' := [.long r_7]) (ws' := [(h0, .inr (8, [.ref yt, .int rT, .int 0, .int (nI G), .ref yw, .int (nI K), .ref yp, .ref yg, .int (nI M), .ref yu, .int (nI N), .ref ysl, .ref yin, .ref yse, .ref ysp, .ref ypa, .int rA, .ref yb, .ref ybd, .ref ybc, .ref yr, .int rF, .int rP, .ref ywd, .int rS, .int rN, .int rO, .int rW, .int rL, .int rD, .ref yd, .int rI, .int rX, .int rY, .int rZ, .int rU, .ref yro, .ref yc, .ref ybe, .ref yco, .long rC, .long rV])), (ysp, .inl (g.2.1 3, 10, .inl qk)), (yse, .inl (g.2.1 1, 10, .inl qe)), (ysl, .inl (g.2.1 1, 10, .inl qs)), (yin, .inl (g.2.1 1, 10, .inl qi)), (yp, .inl (g.2.1 1, 3, .inl qp)), (yg, .inl (g.2.1 1, 12, .inl qg)), (yc, .inl (g.2.1 2, 3, .inr (.inl c1))), (yw, .inl (g.2.1 1, 4, .inl qw))]) rfl rfl ?_
    exact pz_lreturn (w1 := [(h0, .inr (8, [.ref yt, .int rT, .int 0, .int (nI G), .ref yw, .int (nI K), .ref yp, .ref yg, .int (nI M), .ref yu, .int (nI N), .ref ysl, .ref yin, .ref yse, .ref ysp, .ref ypa, .int rA, .ref yb, .ref ybd, .ref ybc, .ref yr, .int rF, .int rP, .ref ywd, .int rS, .int rN, .int rO, .int rW, .int rL, .int rD, .ref yd, .int rI, .int rX, .int rY, .int rZ, .int rU, .ref yro, .ref yc, .ref ybe, .ref yco, .long rC, .long rV])), (ysp, .inl (g.2.1 3, 10, .inl qk)), (yse, .inl (g.2.1 1, 10, .inl qe)), (ysl, .inl (g.2.1 1, 10, .inl qs)), (yin, .inl (g.2.1 1, 10, .inl qi)), (yp, .inl (g.2.1 1, 3, .inl qp)), (yg, .inl (g.2.1 1, 12, .inl qg)), (yc, .inl (g.2.1 2, 3, .inr (.inl c1))), (yw, .inl (g.2.1 1, 4, .inl qw))]) F Rt (by decide) (by decide) dX9_rest_151 [0, 1, 2, 3, 4, 5, 6, 7, 8] rfl rfl vc
  · replace vc := vc.2 q_1
    refine pz_lconst (v := 0) F dX9_rest_57 rfl ?_
    refine pz_lstore (lv' := [(8, .long 0), (0, .ref h0), (1, .int (nI b)), (2, .int w), (3, .long al), (5, .long up), (7, .int ki)]) F dX9_rest_58 (by decide) rfl ?_
    refine pz_iconst (v := 0) F dX9_rest_60 rfl ?_
    refine pz_istore (lv' := [(10, .int 0), (8, .long 0), (0, .ref h0), (1, .int (nI b)), (2, .int w), (3, .long al), (5, .long up), (7, .int ki)]) F dX9_rest_61 (by decide) rfl ?_
    exact pz_sub [2, 3, 4, 5, 6, 7, 1, 0] [0, 1, 2, 3, 4, 5, 6, 7, 8] rfl rfl rfl (hT63 al up ki 0 0 c1 vc)
set_option maxHeartbeats 4000000 in
set_option maxRecDepth 100000 in
theorem sgX9_rest_T_63 {B : pz_B} {g : pz_G} {wc : va_W} {Post : Option Value → va_W → Prop} (F : pz_F B cX9_rest 11 (some .long) yX9_rest.cls g rmX9_rest_T) (Rt : pz_Rt B g wc Post rmX9_rest_T) (w : Int32) (h0 : Nat) (yt : Nat) (rT : Int32) (rH : Int32) (yw : Nat) (yp : Nat) (yg : Nat) (yu : Nat) (ysl : Nat) (yin : Nat) (yse : Nat) (ysp : Nat) (ypa : Nat) (rA : Int32) (yb : Nat) (ybd : Nat) (ybc : Nat) (yr : Nat) (rF : Int32) (rP : Int32) (ywd : Nat) (rS : Int32) (rN : Int32) (rO : Int32) (rW : Int32) (rL : Int32) (rD : Int32) (yd : Nat) (rI : Int32) (rX : Int32) (rY : Int32) (rZ : Int32) (rU : Int32) (yro : Nat) (yc : Nat) (ybe : Nat) (yco : Nat) (rC : Int64) (rV : Int64) (qk : Nat → Int32) (qe : Nat → Int32) (qs : Nat → Int32) (qi : Nat → Int32) (qp : Nat → Int32) (qg : Nat → Int32) (qC : Nat → Int64) (qw : Nat → Int32) (G : Nat) (K : Nat) (M : Nat) (N : Nat) (b : Nat) (s : Nat) (A : Nat) (C : Nat) (T48 : Int64 → Int64 → Int32 → (Nat → Int64) → Prop) (hT48 : ∀ (al : Int64) (up : Int64) (ki : Int32) (c1 : Nat → Int64), T48 al up ki c1 → paX9_rest_T_48 B g w h0 yt rT rH yw yp yg yu ysl yin yse ysp ypa rA yb ybd ybc yr rF rP ywd rS rN rO rW rL rD yd rI rX rY rZ rU yro yc ybe yco rC rV qk qe qs qi qp qg qC qw G K M N b s A C al up ki c1) (T63 : Int64 → Int64 → Int32 → Int64 → Int32 → (Nat → Int64) → Prop) (hT63 : ∀ (al : Int64) (up : Int64) (ki : Int32) (su : Int64) (gi : Int32) (c1 : Nat → Int64), T63 al up ki su gi c1 → paX9_rest_T_63 B g w h0 yt rT rH yw yp yg yu ysl yin yse ysp ypa rA yb ybd ybc yr rF rP ywd rS rN rO rW rL rD yd rI rX rY rZ rU yro yc ybe yco rC rV qk qe qs qi qp qg qC qw G K M N b s A C al up ki su gi c1) (al : Int64) (up : Int64) (ki : Int32) (su : Int64) (gi : Int32) (c1 : Nat → Int64) (vc : (((nI G) ≤ gi → vp_in ki 3 ∧ ∀ x_3 : Int64, x_3 = (up + ((c1 ki.toNatClampNeg) * su)) → ∀ x_4 : Int32, x_4 = ki + 1 → T48 al x_3 x_4 c1) ∧ (¬ (nI G) ≤ gi → vp_in ((4 * ki) + gi) 12 ∧ vp_in gi 4 ∧ ∀ x_7 : Int64, x_7 = (su + (((qg ((4 * ki) + gi).toNatClampNeg) * (qw gi.toNatClampNeg)).toInt64)) → ∀ x_8 : Int32, x_8 = gi + 1 → T63 al up ki x_7 x_8 c1))) : pz_At B 0 0 63 [(0, .ref h0), (1, .int (nI b)), (2, .int w), (3, .long al), (5, .long up), (7, .int ki), (8, .long su), (10, .int gi)] [] [(h0, .inr (8, [.ref yt, .int rT, .int 0, .int (nI G), .ref yw, .int (nI K), .ref yp, .ref yg, .int (nI M), .ref yu, .int (nI N), .ref ysl, .ref yin, .ref yse, .ref ysp, .ref ypa, .int rA, .ref yb, .ref ybd, .ref ybc, .ref yr, .int rF, .int rP, .ref ywd, .int rS, .int rN, .int rO, .int rW, .int rL, .int rD, .ref yd, .int rI, .int rX, .int rY, .int rZ, .int rU, .ref yro, .ref yc, .ref ybe, .ref yco, .long rC, .long rV])), (ysp, .inl (g.2.1 3, 10, .inl qk)), (yse, .inl (g.2.1 1, 10, .inl qe)), (ysl, .inl (g.2.1 1, 10, .inl qs)), (yin, .inl (g.2.1 1, 10, .inl qi)), (yp, .inl (g.2.1 1, 3, .inl qp)), (yg, .inl (g.2.1 1, 12, .inl qg)), (yc, .inl (g.2.1 2, 3, .inr (.inl c1))), (yw, .inl (g.2.1 1, 4, .inl qw))] := by
  refine pz_iload 7 F rfl dX9_rest_63 ?_
  refine pz_aload_n 0 F rfl dX9_rest_65 rfl ?_
  refine pz_get (ci := 8) (C := RX9) (T := TX9) (N := 42) (v := .int (nI G)) 0 F rfl rfl pz_inX9 3 (by decide) pw_811 rfl dX9_rest_66 ?_
  refine pz_icmp_ge (tgt := 104) F dX9_rest_69 (by decide) (fun q_1 => ?_) (fun q_1 => ?_)
  · replace vc := vc.1 q_1
    refine pz_lload 4 F rfl dX9_rest_104 ?_
    refine pz_aload_n 0 F rfl dX9_rest_106 rfl ?_
    refine pz_get (ci := 8) (C := RX9) (T := TX9) (N := 42) (v := .ref yc) 0 F rfl rfl pz_inX9 37 (by decide) pw_845 rfl dX9_rest_107 ?_
    refine pz_iload 5 F rfl dX9_rest_110 ?_
    obtain ⟨h_2, vc⟩ := vc
    refine pz_laload 7 F rfl h_2 dX9_rest_112 ?_
    refine pz_lload 6 F rfl dX9_rest_113 ?_
    refine pz_lmul F dX9_rest_115 ?_
    refine pz_ladd F dX9_rest_116 ?_
    refine pz_topl (fun x_3 ex_3 => ?_)
    replace vc := vc x_3 ex_3
    refine pz_lstore (lv' := [(5, .long x_3), (0, .ref h0), (1, .int (nI b)), (2, .int w), (3, .long al), (7, .int ki), (8, .long su), (10, .int gi)]) F dX9_rest_117 (by decide) rfl ?_
    obtain ⟨x_4, ex_4⟩ : ∃ z : Int32, z = ki + 1 := ⟨_, rfl⟩
    replace vc := vc x_4 ex_4
    refine pz_iinc (v := x_4) (lv' := [(7, .int x_4), (5, .long x_3), (0, .ref h0), (1, .int (nI b)), (2, .int w), (3, .long al), (8, .long su), (10, .int gi)]) 5 F rfl dX9_rest_119 (by rw [ex_4]; rfl) (by decide) rfl ?_
    refine pz_goto (tgt := 48) F dX9_rest_122 (by decide) ?_
    exact pz_sub [2, 3, 4, 5, 1, 0] [0, 1, 2, 3, 4, 5, 6, 7, 8] rfl rfl rfl (hT48 al x_3 x_4 c1 vc)
  · replace vc := vc.2 q_1
    refine pz_lload 6 F rfl dX9_rest_72 ?_
    refine pz_aload_n 0 F rfl dX9_rest_74 rfl ?_
    refine pz_get (ci := 8) (C := RX9) (T := TX9) (N := 42) (v := .ref yg) 0 F rfl rfl pz_inX9 7 (by decide) pw_815 rfl dX9_rest_75 ?_
    refine pz_iconst (v := 4) F dX9_rest_78 rfl ?_
    refine pz_iload 5 F rfl dX9_rest_79 ?_
    refine pz_imul F dX9_rest_81 ?_
    refine pz_iload 7 F rfl dX9_rest_82 ?_
    refine pz_iadd F dX9_rest_84 ?_
    obtain ⟨h_5, vc⟩ := vc
    refine pz_iaload 6 F rfl h_5 dX9_rest_85 ?_
    refine pz_aload_n 0 F rfl dX9_rest_86 rfl ?_
    refine pz_get (ci := 8) (C := RX9) (T := TX9) (N := 42) (v := .ref yw) 0 F rfl rfl pz_inX9 4 (by decide) pw_812 rfl dX9_rest_87 ?_
    refine pz_iload 7 F rfl dX9_rest_90 ?_
    obtain ⟨h_6, vc⟩ := vc
    refine pz_iaload 8 F rfl h_6 dX9_rest_92 ?_
    refine pz_imul F dX9_rest_93 ?_
    refine pz_i2l F dX9_rest_94 ?_
    refine pz_ladd F dX9_rest_95 ?_
    refine pz_topl (fun x_7 ex_7 => ?_)
    replace vc := vc x_7 ex_7
    refine pz_lstore (lv' := [(8, .long x_7), (0, .ref h0), (1, .int (nI b)), (2, .int w), (3, .long al), (5, .long up), (7, .int ki), (10, .int gi)]) F dX9_rest_96 (by decide) rfl ?_
    obtain ⟨x_8, ex_8⟩ : ∃ z : Int32, z = gi + 1 := ⟨_, rfl⟩
    replace vc := vc x_8 ex_8
    refine pz_iinc (v := x_8) (lv' := [(10, .int x_8), (8, .long x_7), (0, .ref h0), (1, .int (nI b)), (2, .int w), (3, .long al), (5, .long up), (7, .int ki)]) 7 F rfl dX9_rest_98 (by rw [ex_8]; rfl) (by decide) rfl ?_
    refine pz_goto (tgt := 63) F dX9_rest_101 (by decide) ?_
    exact pz_sub [2, 3, 4, 5, 6, 7, 1, 0] [0, 1, 2, 3, 4, 5, 6, 7, 8] rfl rfl rfl (hT63 al up ki x_7 x_8 c1 vc)
theorem lpX9_rest_T_63 {B : pz_B} {g : pz_G} {wc : va_W} {Post : Option Value → va_W → Prop} (F : pz_F B cX9_rest 11 (some .long) yX9_rest.cls g rmX9_rest_T) (Rt : pz_Rt B g wc Post rmX9_rest_T) (w : Int32) (h0 : Nat) (yt : Nat) (rT : Int32) (rH : Int32) (yw : Nat) (yp : Nat) (yg : Nat) (yu : Nat) (ysl : Nat) (yin : Nat) (yse : Nat) (ysp : Nat) (ypa : Nat) (rA : Int32) (yb : Nat) (ybd : Nat) (ybc : Nat) (yr : Nat) (rF : Int32) (rP : Int32) (ywd : Nat) (rS : Int32) (rN : Int32) (rO : Int32) (rW : Int32) (rL : Int32) (rD : Int32) (yd : Nat) (rI : Int32) (rX : Int32) (rY : Int32) (rZ : Int32) (rU : Int32) (yro : Nat) (yc : Nat) (ybe : Nat) (yco : Nat) (rC : Int64) (rV : Int64) (qk : Nat → Int32) (qe : Nat → Int32) (qs : Nat → Int32) (qi : Nat → Int32) (qp : Nat → Int32) (qg : Nat → Int32) (qC : Nat → Int64) (qw : Nat → Int32) (G : Nat) (K : Nat) (M : Nat) (N : Nat) (b : Nat) (s : Nat) (A : Nat) (C : Nat) (T48 : Int64 → Int64 → Int32 → (Nat → Int64) → Prop) (hT48 : ∀ (al : Int64) (up : Int64) (ki : Int32) (c1 : Nat → Int64), T48 al up ki c1 → paX9_rest_T_48 B g w h0 yt rT rH yw yp yg yu ysl yin yse ysp ypa rA yb ybd ybc yr rF rP ywd rS rN rO rW rL rD yd rI rX rY rZ rU yro yc ybe yco rC rV qk qe qs qi qp qg qC qw G K M N b s A C al up ki c1) (Inv : Nat → Int64 → Int64 → Int32 → Int64 → Int32 → (Nat → Int64) → Prop) (step : ∀ (mz : Nat) (al : Int64) (up : Int64) (ki : Int32) (su : Int64) (gi : Int32) (c1 : Nat → Int64), Inv mz al up ki su gi c1 → ∀ TT : Int64 → Int64 → Int32 → Int64 → Int32 → (Nat → Int64) → Prop, TT = (fun al up ki su gi c1 => ∃ mz', mz' < mz ∧ Inv mz' al up ki su gi c1) → (((nI G) ≤ gi → vp_in ki 3 ∧ ∀ x_3 : Int64, x_3 = (up + ((c1 ki.toNatClampNeg) * su)) → ∀ x_4 : Int32, x_4 = ki + 1 → T48 al x_3 x_4 c1) ∧ (¬ (nI G) ≤ gi → vp_in ((4 * ki) + gi) 12 ∧ vp_in gi 4 ∧ ∀ x_7 : Int64, x_7 = (su + (((qg ((4 * ki) + gi).toNatClampNeg) * (qw gi.toNatClampNeg)).toInt64)) → ∀ x_8 : Int32, x_8 = gi + 1 → TT al up ki x_7 x_8 c1))) : ∀ (mz : Nat) (al : Int64) (up : Int64) (ki : Int32) (su : Int64) (gi : Int32) (c1 : Nat → Int64), Inv mz al up ki su gi c1 → paX9_rest_T_63 B g w h0 yt rT rH yw yp yg yu ysl yin yse ysp ypa rA yb ybd ybc yr rF rP ywd rS rN rO rW rL rD yd rI rX rY rZ rU yro yc ybe yco rC rV qk qe qs qi qp qg qC qw G K M N b s A C al up ki su gi c1 := by
  intro mz
  induction mz using Nat.strongRecOn with
  | _ mz ih =>
    intro al up ki su gi c1 hI
    exact sgX9_rest_T_63 F Rt w h0 yt rT rH yw yp yg yu ysl yin yse ysp ypa rA yb ybd ybc yr rF rP ywd rS rN rO rW rL rD yd rI rX rY rZ rU yro yc ybe yco rC rV qk qe qs qi qp qg qC qw G K M N b s A C T48 hT48 (fun al up ki su gi c1 => ∃ mz', mz' < mz ∧ Inv mz' al up ki su gi c1) (fun al up ki su gi c1 ⟨mz', h1, h2⟩ => ih mz' h1 al up ki su gi c1 h2) al up ki su gi c1 (step mz al up ki su gi c1 hI _ rfl)
set_option maxHeartbeats 4000000 in
set_option maxRecDepth 100000 in
theorem ctX9_rest_T (l : Launch) (g : pz_G) (w : Int32) (h0 : Nat) (yt : Nat) (rT : Int32) (rH : Int32) (yw : Nat) (yp : Nat) (yg : Nat) (yu : Nat) (ysl : Nat) (yin : Nat) (yse : Nat) (ysp : Nat) (ypa : Nat) (rA : Int32) (yb : Nat) (ybd : Nat) (ybc : Nat) (yr : Nat) (rF : Int32) (rP : Int32) (ywd : Nat) (rS : Int32) (rN : Int32) (rO : Int32) (rW : Int32) (rL : Int32) (rD : Int32) (yd : Nat) (rI : Int32) (rX : Int32) (rY : Int32) (rZ : Int32) (rU : Int32) (yro : Nat) (yc : Nat) (ybe : Nat) (yco : Nat) (rC : Int64) (rV : Int64) (qk : Nat → Int32) (qe : Nat → Int32) (qs : Nat → Int32) (qi : Nat → Int32) (qp : Nat → Int32) (qg : Nat → Int32) (qC : Nat → Int64) (qw : Nat → Int32) (G : Nat) (K : Nat) (M : Nat) (N : Nat) (b : Nat) (s : Nat) (A : Nat) (C : Nat) (hpre : (b < N ∧ N ≤ 10 ∧ K ≤ 3 ∧ s ≤ 8 ∧ qe b = nI s ∧ qk b = 0) ∧ G ≤ 4 ∧ A < 2 ^ 63 ∧ C < 2 ^ 63 ∧ rr_u (fun a => pu_wg qp qg (qi b) a s) qg qw G K * (qs b - qe b).toInt64 = lN A ∧ 16 * (pu_wa qp qg (qi b) s K) = lN C) : pz_Ct l g yX9_rest cX9_rest 11 (some .long) rmX9_rest_T [.ref h0, .int (nI b), .int w] [(h0, .inr (8, [.ref yt, .int rT, .int rH, .int (nI G), .ref yw, .int (nI K), .ref yp, .ref yg, .int (nI M), .ref yu, .int (nI N), .ref ysl, .ref yin, .ref yse, .ref ysp, .ref ypa, .int rA, .ref yb, .ref ybd, .ref ybc, .ref yr, .int rF, .int rP, .ref ywd, .int rS, .int rN, .int rO, .int rW, .int rL, .int rD, .ref yd, .int rI, .int rX, .int rY, .int rZ, .int rU, .ref yro, .ref yc, .ref ybe, .ref yco, .long rC, .long rV])), (ysp, .inl (g.2.1 3, 10, .inl qk)), (yse, .inl (g.2.1 1, 10, .inl qe)), (ysl, .inl (g.2.1 1, 10, .inl qs)), (yin, .inl (g.2.1 1, 10, .inl qi)), (yp, .inl (g.2.1 1, 3, .inl qp)), (yg, .inl (g.2.1 1, 12, .inl qg)), (yc, .inl (g.2.1 2, 3, .inr (.inl qC))), (yw, .inl (g.2.1 1, 4, .inl qw))] (pz_pl (fun (r : Int64) (u : (Nat → Int64)) => (¬ (¬ w < 0 ∧ ¬ (1 : Int32) < w) ∧ r = -1) ∨ ((¬ w < 0 ∧ ¬ (1 : Int32) < w) ∧ (pu_wa qp qg (qi b) s K) = 0 ∧ r = -1) ∨ ((¬ w < 0 ∧ ¬ (1 : Int32) < w) ∧ ¬ (pu_wa qp qg (qi b) s K) = 0 ∧ r = rd_a A C w)) (fun (u : (Nat → Int64)) => [(h0, .inr (8, [.ref yt, .int rT, .int 0, .int (nI G), .ref yw, .int (nI K), .ref yp, .ref yg, .int (nI M), .ref yu, .int (nI N), .ref ysl, .ref yin, .ref yse, .ref ysp, .ref ypa, .int rA, .ref yb, .ref ybd, .ref ybc, .ref yr, .int rF, .int rP, .ref ywd, .int rS, .int rN, .int rO, .int rW, .int rL, .int rD, .ref yd, .int rI, .int rX, .int rY, .int rZ, .int rU, .ref yro, .ref yc, .ref ybe, .ref yco, .long rC, .long rV])), (ysp, .inl (g.2.1 3, 10, .inl qk)), (yse, .inl (g.2.1 1, 10, .inl qe)), (ysl, .inl (g.2.1 1, 10, .inl qs)), (yin, .inl (g.2.1 1, 10, .inl qi)), (yp, .inl (g.2.1 1, 3, .inl qp)), (yg, .inl (g.2.1 1, 12, .inl qg)), (yc, .inl (g.2.1 2, 3, .inr (.inl u))), (yw, .inl (g.2.1 1, 4, .inl qw))])) := by
  refine pz_ofAt (by decide +kernel) (Nat.le_of_ble_eq_true rfl) (fun B F Rt hme => ?_)
  obtain ⟨⟨hb, hN, hK, hs, he, hk⟩, hG, hA, hC, hA2, hC2⟩ := hpre
  have hwh : wh_ok (nI b) N qk := ⟨⟨nI_pos (by omega), nI_lt hb (by omega)⟩, by rw [nI_clamp (by omega)]; exact hk⟩
  have key : ¬ (pu_wa qp qg (qi b) s K) = 0 → (¬ w < 0 ∧ ¬ (1 : Int32) < w) → ∀ (m : Nat) (al up : Int64) (ki : Int32) (c1 : Nat → Int64), (al = (pu_wa qp qg (qi b) s K) ∧ (∀ a, a < K → c1 a = pu_wg qp qg (qi b) a s) ∧ ∃ j, j + m = K ∧ ki = nI j ∧ up = rr_u c1 qg qw G j) → paX9_rest_T_48 B g w h0 yt rT rH yw yp yg yu ysl yin yse ysp ypa rA yb ybd ybc yr rF rP ywd rS rN rO rW rL rD yd rI rX rY rZ rU yro yc ybe yco rC rV qk qe qs qi qp qg qC qw G K M N b s A C al up ki c1 := by
    intro h0' hw m
    induction m using Nat.strongRecOn with
    | _ m ih =>
      rintro al up ki c1 ⟨rfl, hc1, j, hj, rfl, rfl⟩
      refine sgX9_rest_T_48 F Rt w h0 yt rT rH yw yp yg yu ysl yin yse ysp ypa rA yb ybd ybc yr rF rP ywd rS rN rO rW rL rD yd rI rX rY rZ rU yro yc ybe yco rC rV qk qe qs qi qp qg qC qw G K M N b s A C (fun al up ki su gi c1' => al = (pu_wa qp qg (qi b) s K) ∧ up = rr_u c1 qg qw G j ∧ ki = nI j ∧ c1' = c1 ∧ j < K ∧ ∃ q, q + G = G ∧ gi = nI q ∧ su = rr_s qg qw j q) ?_ _ _ (nI j) c1 ?_
      · rintro al up ki su gi c1' ⟨rfl, rfl, rfl, rfl, hjK, q, hq, rfl, rfl⟩
        refine lpX9_rest_T_63 F Rt w h0 yt rT rH yw yp yg yu ysl yin yse ysp ypa rA yb ybd ybc yr rF rP ywd rS rN rO rW rL rD yd rI rX rY rZ rU yro yc ybe yco rC rV qk qe qs qi qp qg qC qw G K M N b s A C (fun al up ki c1 => ∃ m', m' < m ∧ (al = (pu_wa qp qg (qi b) s K) ∧ (∀ a, a < K → c1 a = pu_wg qp qg (qi b) a s) ∧ ∃ j, j + m' = K ∧ ki = nI j ∧ up = rr_u c1 qg qw G j)) (fun al up ki c1 ⟨m', h1, h2⟩ => ih m' h1 al up ki c1 h2) (fun z al up ki su gi c2 => al = (pu_wa qp qg (qi b) s K) ∧ up = rr_u c1' qg qw G j ∧ ki = nI j ∧ c2 = c1' ∧ ∃ q, q + z = G ∧ gi = nI q ∧ su = rr_s qg qw j q) ?_ G _ _ _ _ _ _ ⟨rfl, rfl, rfl, rfl, q, hq, rfl, rfl⟩
        rintro z al up ki su gi c2 ⟨rfl, rfl, rfl, rfl, q, hq, rfl, rfl⟩ TT rfl
        refine ⟨fun k1 => ?_, fun k1 => ?_⟩
        · have h1 := pu_ge (by omega) k1
          have e : q = G := by omega
          subst e
          refine ⟨vp_in_nI (by omega) (by omega), ?_⟩
          rw [nI_clamp (by omega)]
          rintro y rfl y2 rfl
          exact ⟨m - 1, by omega, rfl, hc1, j + 1, by omega, nI_1 j, rfl⟩
        · have h1 := pu_lt (by omega) (by omega) k1
          rw [pu_4]
          refine ⟨vp_in_nI (by omega) (by omega), vp_in_nI (by omega) (by omega), ?_⟩
          rw [nI_clamp (by omega), nI_clamp (by omega)]
          rintro y rfl y2 rfl
          exact ⟨z - 1, by omega, rfl, rfl, rfl, rfl, q + 1, by omega, nI_1 q, rfl⟩
      · refine ⟨fun k1 => ?_, fun k1 => ?_⟩
        · have h1 := pu_ge (by omega) k1
          have e : j = K := by omega
          subst e
          have hbin : vp_in (nI b) 10 := vp_in_nI (by omega) (by omega)
          rw [nI_clamp (by omega)]
          refine ⟨hbin, hbin, A, C, ⟨hA, hC, ?_, hC2⟩, ?_⟩
          · rw [rr_uc j hc1]; exact hA2
          · rintro r2 rfl
            exact ⟨_, _, rfl, rfl, Or.inr (Or.inr ⟨hw, h0', rfl⟩)⟩
        · have h1 := pu_lt (by omega) (by omega) k1
          exact ⟨rfl, rfl, rfl, rfl, h1, 0, by omega, nI_0.symm, rfl⟩
  refine sgX9_rest_T_0 F Rt w h0 yt rT rH yw yp yg yu ysl yin yse ysp ypa rA yb ybd ybc yr rF rP ywd rS rN rO rW rL rD yd rI rX rY rZ rU yro yc ybe yco rC rV qk qe qs qi qp qg qC qw G K M N b s A C (fun al up ki c1 => (¬ (pu_wa qp qg (qi b) s K) = 0 ∧ (¬ w < 0 ∧ ¬ (1 : Int32) < w)) ∧ (al = (pu_wa qp qg (qi b) s K) ∧ (∀ a, a < K → c1 a = pu_wg qp qg (qi b) a s) ∧ ∃ j, j + K = K ∧ ki = nI j ∧ up = rr_u c1 qg qw G j)) (fun al up ki c1 h => key h.1.1 h.1.2 K al up ki c1 h.2) ?_
  refine ⟨hN, fun r h => ?_⟩
  rcases h with ⟨_, rfl⟩ | ⟨h, _⟩
  · refine ⟨fun q => absurd q (by decide), fun _ => ⟨fun q3 => ⟨_, _, rfl, rfl, Or.inl ⟨fun h => h.1 q3, rfl⟩⟩, fun q3 => ⟨fun q4 => ?_, fun q4 => ⟨_, _, rfl, rfl, Or.inl ⟨fun h => q4 (Int32.not_lt.mp h.2), rfl⟩⟩⟩⟩⟩
    refine ⟨⟨by omega, hK, hs, he⟩, fun r c2 hr => ?_⟩
    rw [lg_cmp_eq]
    exact ⟨fun q5 => ⟨⟨fun e => q5 (hr.1.trans e), q3, Int32.not_lt.mpr q4⟩, hr.1, hr.2, 0, by omega, nI_0.symm, rfl⟩, fun q5 => ⟨_, _, rfl, rfl, Or.inr (Or.inl ⟨⟨q3, Int32.not_lt.mpr q4⟩, hr.1.symm.trans q5, rfl⟩)⟩⟩
  · exact absurd hwh h
