
abbrev rmX9_take : Room := { frames := 1, cells := 0, slots := 0, locals := 27 }
abbrev paX9_take_0 (B : pz_B) (g : pz_G) (h0 : Nat) (yt : Nat) (rT : Int32) (rH : Int32) (yw : Nat) (yp : Nat) (yg : Nat) (yu : Nat) (ysl : Nat) (yin : Nat) (yse : Nat) (ysp : Nat) (ypa : Nat) (rA : Int32) (yb : Nat) (ybd : Nat) (ybc : Nat) (yr : Nat) (rF : Int32) (rP : Int32) (ywd : Nat) (rN : Int32) (rO : Int32) (rW : Int32) (rL : Int32) (rD : Int32) (yd : Nat) (rI : Int32) (rX : Int32) (rY : Int32) (rZ : Int32) (rU : Int32) (yro : Nat) (yc : Nat) (ybe : Nat) (yco : Nat) (rC : Int64) (rV : Int64) (qT : Nat → Int32) (qW : Nat → Int32) (G : Nat) (K : Nat) (M : Nat) (N : Nat) (e : Nat) (j : Nat) (n1 : Int32) : Prop := pz_At B 0 0 0 [(0, .ref h0)] [] [(h0, .inr (8, [.ref yt, .int rT, .int rH, .int (nI G), .ref yw, .int (nI K), .ref yp, .ref yg, .int (nI M), .ref yu, .int (nI N), .ref ysl, .ref yin, .ref yse, .ref ysp, .ref ypa, .int rA, .ref yb, .ref ybd, .ref ybc, .ref yr, .int rF, .int rP, .ref ywd, .int (nI e), .int n1, .int rO, .int rW, .int rL, .int rD, .ref yd, .int rI, .int rX, .int rY, .int rZ, .int rU, .ref yro, .ref yc, .ref ybe, .ref yco, .long rC, .long rV])), (yt, .inl (g.2.1 1, 400, .inl qT)), (ywd, .inl (g.2.1 1, 77, .inl qW))]
abbrev paX9_take_52 (B : pz_B) (g : pz_G) (h0 : Nat) (yt : Nat) (rT : Int32) (rH : Int32) (yw : Nat) (yp : Nat) (yg : Nat) (yu : Nat) (ysl : Nat) (yin : Nat) (yse : Nat) (ysp : Nat) (ypa : Nat) (rA : Int32) (yb : Nat) (ybd : Nat) (ybc : Nat) (yr : Nat) (rF : Int32) (rP : Int32) (ywd : Nat) (rN : Int32) (rO : Int32) (rW : Int32) (rL : Int32) (rD : Int32) (yd : Nat) (rI : Int32) (rX : Int32) (rY : Int32) (rZ : Int32) (rU : Int32) (yro : Nat) (yc : Nat) (ybe : Nat) (yco : Nat) (rC : Int64) (rV : Int64) (qT : Nat → Int32) (qW : Nat → Int32) (G : Nat) (K : Nat) (M : Nat) (N : Nat) (e : Nat) (j : Nat) (n1 : Int32) : Prop := pz_At B 0 0 52 [(0, .ref h0)] [] [(h0, .inr (8, [.ref yt, .int rT, .int rH, .int (nI G), .ref yw, .int (nI K), .ref yp, .ref yg, .int (nI M), .ref yu, .int (nI N), .ref ysl, .ref yin, .ref yse, .ref ysp, .ref ypa, .int rA, .ref yb, .ref ybd, .ref ybc, .ref yr, .int rF, .int rP, .ref ywd, .int (nI e), .int n1, .int rO, .int rW, .int rL, .int rD, .ref yd, .int rI, .int rX, .int rY, .int rZ, .int rU, .ref yro, .ref yc, .ref ybe, .ref yco, .long rC, .long rV])), (yt, .inl (g.2.1 1, 400, .inl qT)), (ywd, .inl (g.2.1 1, 77, .inl qW))]
abbrev paX9_take_90 (B : pz_B) (g : pz_G) (h0 : Nat) (yt : Nat) (rT : Int32) (rH : Int32) (yw : Nat) (yp : Nat) (yg : Nat) (yu : Nat) (ysl : Nat) (yin : Nat) (yse : Nat) (ysp : Nat) (ypa : Nat) (rA : Int32) (yb : Nat) (ybd : Nat) (ybc : Nat) (yr : Nat) (rF : Int32) (rP : Int32) (ywd : Nat) (rN : Int32) (rO : Int32) (rW : Int32) (rL : Int32) (rD : Int32) (yd : Nat) (rI : Int32) (rX : Int32) (rY : Int32) (rZ : Int32) (rU : Int32) (yro : Nat) (yc : Nat) (ybe : Nat) (yco : Nat) (rC : Int64) (rV : Int64) (qT : Nat → Int32) (qW : Nat → Int32) (G : Nat) (K : Nat) (M : Nat) (N : Nat) (e : Nat) (j : Nat) (n1 : Int32) (p1 : Int32) : Prop := pz_At B 0 0 90 [(0, .ref h0)] [] [(h0, .inr (8, [.ref yt, .int rT, .int rH, .int (nI G), .ref yw, .int (nI K), .ref yp, .ref yg, .int (nI M), .ref yu, .int (nI N), .ref ysl, .ref yin, .ref yse, .ref ysp, .ref ypa, .int rA, .ref yb, .ref ybd, .ref ybc, .ref yr, .int rF, .int rP, .ref ywd, .int (nI e), .int n1, .int rO, .int rW, .int p1, .int rD, .ref yd, .int rI, .int rX, .int rY, .int rZ, .int rU, .ref yro, .ref yc, .ref ybe, .ref yco, .long rC, .long rV])), (yt, .inl (g.2.1 1, 400, .inl qT)), (ywd, .inl (g.2.1 1, 77, .inl qW))]
abbrev paX9_take_170 (B : pz_B) (g : pz_G) (h0 : Nat) (yt : Nat) (rT : Int32) (rH : Int32) (yw : Nat) (yp : Nat) (yg : Nat) (yu : Nat) (ysl : Nat) (yin : Nat) (yse : Nat) (ysp : Nat) (ypa : Nat) (rA : Int32) (yb : Nat) (ybd : Nat) (ybc : Nat) (yr : Nat) (rF : Int32) (rP : Int32) (ywd : Nat) (rN : Int32) (rO : Int32) (rW : Int32) (rL : Int32) (rD : Int32) (yd : Nat) (rI : Int32) (rX : Int32) (rY : Int32) (rZ : Int32) (rU : Int32) (yro : Nat) (yc : Nat) (ybe : Nat) (yco : Nat) (rC : Int64) (rV : Int64) (qT : Nat → Int32) (qW : Nat → Int32) (G : Nat) (K : Nat) (M : Nat) (N : Nat) (e : Nat) (j : Nat) (n1 : Int32) (p1 : Int32) (w1 : Int32) : Prop := pz_At B 0 0 170 [(0, .ref h0)] [] [(h0, .inr (8, [.ref yt, .int rT, .int rH, .int (nI G), .ref yw, .int (nI K), .ref yp, .ref yg, .int (nI M), .ref yu, .int (nI N), .ref ysl, .ref yin, .ref yse, .ref ysp, .ref ypa, .int rA, .ref yb, .ref ybd, .ref ybc, .ref yr, .int rF, .int rP, .ref ywd, .int (nI e), .int n1, .int 2, .int w1, .int p1, .int rD, .ref yd, .int rI, .int rX, .int rY, .int rZ, .int rU, .ref yro, .ref yc, .ref ybe, .ref yco, .long rC, .long rV])), (yt, .inl (g.2.1 1, 400, .inl qT)), (ywd, .inl (g.2.1 1, 77, .inl qW))]
set_option maxHeartbeats 4000000 in
set_option maxRecDepth 100000 in
theorem sgX9_take_0 {B : pz_B} {g : pz_G} {wc : va_W} {Post : Option Value → va_W → Prop} (F : pz_F B cX9_take 1 none yX9_take.cls g rmX9_take) (Rt : pz_Rt B g wc Post rmX9_take) (h0 : Nat) (yt : Nat) (rT : Int32) (rH : Int32) (yw : Nat) (yp : Nat) (yg : Nat) (yu : Nat) (ysl : Nat) (yin : Nat) (yse : Nat) (ysp : Nat) (ypa : Nat) (rA : Int32) (yb : Nat) (ybd : Nat) (ybc : Nat) (yr : Nat) (rF : Int32) (rP : Int32) (ywd : Nat) (rN : Int32) (rO : Int32) (rW : Int32) (rL : Int32) (rD : Int32) (yd : Nat) (rI : Int32) (rX : Int32) (rY : Int32) (rZ : Int32) (rU : Int32) (yro : Nat) (yc : Nat) (ybe : Nat) (yco : Nat) (rC : Int64) (rV : Int64) (qT : Nat → Int32) (qW : Nat → Int32) (G : Nat) (K : Nat) (M : Nat) (N : Nat) (e : Nat) (j : Nat) (T0 : Int32 → Prop) (hT0 : ∀ (n1 : Int32), T0 n1 → paX9_take_0 B g h0 yt rT rH yw yp yg yu ysl yin yse ysp ypa rA yb ybd ybc yr rF rP ywd rN rO rW rL rD yd rI rX rY rZ rU yro yc ybe yco rC rV qT qW G K M N e j n1) (T52 : Int32 → Prop) (hT52 : ∀ (n1 : Int32), T52 n1 → paX9_take_52 B g h0 yt rT rH yw yp yg yu ysl yin yse ysp ypa rA yb ybd ybc yr rF rP ywd rN rO rW rL rD yd rI rX rY rZ rU yro yc ybe yco rC rV qT qW G K M N e j n1) (n1 : Int32) (vc : (((nI e) ≤ n1 → T52 n1) ∧ (¬ (nI e) ≤ n1 → vp_in n1 400 ∧ (((qT n1.toNatClampNeg) = 10 → ∀ x_4 : Int32, x_4 = (n1 + 1) → T0 x_4) ∧ (¬ (qT n1.toNatClampNeg) = 10 → vp_in n1 400 ∧ ((¬ (qT n1.toNatClampNeg) = 32 → T52 n1) ∧ ((qT n1.toNatClampNeg) = 32 → ∀ x_7 : Int32, x_7 = (n1 + 1) → T0 x_7))))))) : pz_At B 0 0 0 [(0, .ref h0)] [] [(h0, .inr (8, [.ref yt, .int rT, .int rH, .int (nI G), .ref yw, .int (nI K), .ref yp, .ref yg, .int (nI M), .ref yu, .int (nI N), .ref ysl, .ref yin, .ref yse, .ref ysp, .ref ypa, .int rA, .ref yb, .ref ybd, .ref ybc, .ref yr, .int rF, .int rP, .ref ywd, .int (nI e), .int n1, .int rO, .int rW, .int rL, .int rD, .ref yd, .int rI, .int rX, .int rY, .int rZ, .int rU, .ref yro, .ref yc, .ref ybe, .ref yco, .long rC, .long rV])), (yt, .inl (g.2.1 1, 400, .inl qT)), (ywd, .inl (g.2.1 1, 77, .inl qW))] := by
  refine pz_aload_n 0 F rfl dX9_take_0 rfl ?_
  refine pz_get (ci := 8) (C := RX9) (T := TX9) (N := 42) (v := .int n1) 0 F rfl rfl pz_inX9 25 (by decide) pw_833 rfl dX9_take_1 ?_
  refine pz_aload_n 0 F rfl dX9_take_4 rfl ?_
  refine pz_get (ci := 8) (C := RX9) (T := TX9) (N := 42) (v := .int (nI e)) 0 F rfl rfl pz_inX9 24 (by decide) pw_832 rfl dX9_take_5 ?_
  refine pz_icmp_ge (tgt := 52) F dX9_take_8 (by decide) (fun q_1 => ?_) (fun q_1 => ?_)
  · replace vc := vc.1 q_1
    exact pz_sub [0] [0, 1, 2] rfl rfl rfl (hT52 n1 vc)
  · replace vc := vc.2 q_1
    refine pz_aload_n 0 F rfl dX9_take_11 rfl ?_
    refine pz_get (ci := 8) (C := RX9) (T := TX9) (N := 42) (v := .ref yt) 0 F rfl rfl pz_inX9 0 (by decide) pw_808 rfl dX9_take_12 ?_
    refine pz_aload_n 0 F rfl dX9_take_15 rfl ?_
    refine pz_get (ci := 8) (C := RX9) (T := TX9) (N := 42) (v := .int n1) 0 F rfl rfl pz_inX9 25 (by decide) pw_833 rfl dX9_take_16 ?_
    obtain ⟨h_2, vc⟩ := vc
    refine pz_iaload 1 F rfl h_2 dX9_take_19 ?_
    refine pz_bipush (v := 10) F dX9_take_20 rfl ?_
    refine pz_icmp_eq (tgt := 39) F dX9_take_22 (by decide) (fun q_3 => ?_) (fun q_3 => ?_)
    · replace vc := vc.1 q_3
      refine pz_aload_n 0 F rfl dX9_take_39 rfl ?_
      refine pz_dup F dX9_take_40 rfl ?_
      refine pz_get (ci := 8) (C := RX9) (T := TX9) (N := 42) (v := .int n1) 0 F rfl rfl pz_inX9 25 (by decide) pw_833 rfl dX9_take_41 ?_
      refine pz_iconst (v := 1) F dX9_take_44 rfl ?_
      refine pz_iadd F dX9_take_45 ?_
      refine pz_topi (fun x_4 ex_4 => ?_)
      replace vc := vc x_4 ex_4
      refine pz_put (ws' := [(h0, .inr (8, [.ref yt, .int rT, .int rH, .int (nI G), .ref yw, .int (nI K), .ref yp, .ref yg, .int (nI M), .ref yu, .int (nI N), .ref ysl, .ref yin, .ref yse, .ref ysp, .ref ypa, .int rA, .ref yb, .ref ybd, .ref ybc, .ref yr, .int rF, .int rP, .ref ywd, .int (nI e), .int x_4, .int rO, .int rW, .int rL, .int rD, .ref yd, .int rI, .int rX, .int rY, .int rZ, .int rU, .ref yro, .ref yc, .ref ybe, .ref yco, .long rC, .long rV])), (yt, .inl (g.2.1 1, 400, .inl qT)), (ywd, .inl (g.2.1 1, 77, .inl qW))]) (ci := 8) (C := RX9) (T := TX9) (N := 42) (v := .int x_4) (ty := .int) 0 F rfl rfl pz_inX9 25 (by decide) pw_833 tyX9_ok nmX9 rfl rfl rfl rfl (Nat.le_of_ble_eq_true rfl) dX9_take_46 rfl ?_
      refine pz_goto (tgt := 0) F dX9_take_49 (by decide) ?_
      exact pz_sub [0] [0, 1, 2] rfl rfl rfl (hT0 x_4 vc)
    · replace vc := vc.2 q_3
      refine pz_aload_n 0 F rfl dX9_take_25 rfl ?_
      refine pz_get (ci := 8) (C := RX9) (T := TX9) (N := 42) (v := .ref yt) 0 F rfl rfl pz_inX9 0 (by decide) pw_808 rfl dX9_take_26 ?_
      refine pz_aload_n 0 F rfl dX9_take_29 rfl ?_
      refine pz_get (ci := 8) (C := RX9) (T := TX9) (N := 42) (v := .int n1) 0 F rfl rfl pz_inX9 25 (by decide) pw_833 rfl dX9_take_30 ?_
      obtain ⟨h_5, vc⟩ := vc
      refine pz_iaload 1 F rfl h_5 dX9_take_33 ?_
      refine pz_bipush (v := 32) F dX9_take_34 rfl ?_
      refine pz_icmp_ne (tgt := 52) F dX9_take_36 (by decide) (fun q_6 => ?_) (fun q_6 => ?_)
      · replace vc := vc.1 q_6
        exact pz_sub [0] [0, 1, 2] rfl rfl rfl (hT52 n1 vc)
      · replace vc := vc.2 q_6
        refine pz_aload_n 0 F rfl dX9_take_39 rfl ?_
        refine pz_dup F dX9_take_40 rfl ?_
        refine pz_get (ci := 8) (C := RX9) (T := TX9) (N := 42) (v := .int n1) 0 F rfl rfl pz_inX9 25 (by decide) pw_833 rfl dX9_take_41 ?_
        refine pz_iconst (v := 1) F dX9_take_44 rfl ?_
        refine pz_iadd F dX9_take_45 ?_
        refine pz_topi (fun x_7 ex_7 => ?_)
        replace vc := vc x_7 ex_7
        refine pz_put (ws' := [(h0, .inr (8, [.ref yt, .int rT, .int rH, .int (nI G), .ref yw, .int (nI K), .ref yp, .ref yg, .int (nI M), .ref yu, .int (nI N), .ref ysl, .ref yin, .ref yse, .ref ysp, .ref ypa, .int rA, .ref yb, .ref ybd, .ref ybc, .ref yr, .int rF, .int rP, .ref ywd, .int (nI e), .int x_7, .int rO, .int rW, .int rL, .int rD, .ref yd, .int rI, .int rX, .int rY, .int rZ, .int rU, .ref yro, .ref yc, .ref ybe, .ref yco, .long rC, .long rV])), (yt, .inl (g.2.1 1, 400, .inl qT)), (ywd, .inl (g.2.1 1, 77, .inl qW))]) (ci := 8) (C := RX9) (T := TX9) (N := 42) (v := .int x_7) (ty := .int) 0 F rfl rfl pz_inX9 25 (by decide) pw_833 tyX9_ok nmX9 rfl rfl rfl rfl (Nat.le_of_ble_eq_true rfl) dX9_take_46 rfl ?_
        refine pz_goto (tgt := 0) F dX9_take_49 (by decide) ?_
        exact pz_sub [0] [0, 1, 2] rfl rfl rfl (hT0 x_7 vc)
theorem lpX9_take_0 {B : pz_B} {g : pz_G} {wc : va_W} {Post : Option Value → va_W → Prop} (F : pz_F B cX9_take 1 none yX9_take.cls g rmX9_take) (Rt : pz_Rt B g wc Post rmX9_take) (h0 : Nat) (yt : Nat) (rT : Int32) (rH : Int32) (yw : Nat) (yp : Nat) (yg : Nat) (yu : Nat) (ysl : Nat) (yin : Nat) (yse : Nat) (ysp : Nat) (ypa : Nat) (rA : Int32) (yb : Nat) (ybd : Nat) (ybc : Nat) (yr : Nat) (rF : Int32) (rP : Int32) (ywd : Nat) (rN : Int32) (rO : Int32) (rW : Int32) (rL : Int32) (rD : Int32) (yd : Nat) (rI : Int32) (rX : Int32) (rY : Int32) (rZ : Int32) (rU : Int32) (yro : Nat) (yc : Nat) (ybe : Nat) (yco : Nat) (rC : Int64) (rV : Int64) (qT : Nat → Int32) (qW : Nat → Int32) (G : Nat) (K : Nat) (M : Nat) (N : Nat) (e : Nat) (j : Nat) (T52 : Int32 → Prop) (hT52 : ∀ (n1 : Int32), T52 n1 → paX9_take_52 B g h0 yt rT rH yw yp yg yu ysl yin yse ysp ypa rA yb ybd ybc yr rF rP ywd rN rO rW rL rD yd rI rX rY rZ rU yro yc ybe yco rC rV qT qW G K M N e j n1) (Inv : Nat → Int32 → Prop) (step : ∀ (mz : Nat) (n1 : Int32), Inv mz n1 → ∀ TT : Int32 → Prop, TT = (fun n1 => ∃ mz', mz' < mz ∧ Inv mz' n1) → (((nI e) ≤ n1 → T52 n1) ∧ (¬ (nI e) ≤ n1 → vp_in n1 400 ∧ (((qT n1.toNatClampNeg) = 10 → ∀ x_4 : Int32, x_4 = (n1 + 1) → TT x_4) ∧ (¬ (qT n1.toNatClampNeg) = 10 → vp_in n1 400 ∧ ((¬ (qT n1.toNatClampNeg) = 32 → T52 n1) ∧ ((qT n1.toNatClampNeg) = 32 → ∀ x_7 : Int32, x_7 = (n1 + 1) → TT x_7))))))) : ∀ (mz : Nat) (n1 : Int32), Inv mz n1 → paX9_take_0 B g h0 yt rT rH yw yp yg yu ysl yin yse ysp ypa rA yb ybd ybc yr rF rP ywd rN rO rW rL rD yd rI rX rY rZ rU yro yc ybe yco rC rV qT qW G K M N e j n1 := by
  intro mz
  induction mz using Nat.strongRecOn with
  | _ mz ih =>
    intro n1 hI
    exact sgX9_take_0 F Rt h0 yt rT rH yw yp yg yu ysl yin yse ysp ypa rA yb ybd ybc yr rF rP ywd rN rO rW rL rD yd rI rX rY rZ rU yro yc ybe yco rC rV qT qW G K M N e j (fun n1 => ∃ mz', mz' < mz ∧ Inv mz' n1) (fun n1 ⟨mz', h1, h2⟩ => ih mz' h1 n1 h2) T52 hT52 n1 (step mz n1 hI _ rfl)
set_option maxHeartbeats 4000000 in
set_option maxRecDepth 100000 in
theorem sgX9_take_52 {B : pz_B} {g : pz_G} {wc : va_W} {Post : Option Value → va_W → Prop} (F : pz_F B cX9_take 1 none yX9_take.cls g rmX9_take) (Rt : pz_Rt B g wc Post rmX9_take) (h0 : Nat) (yt : Nat) (rT : Int32) (rH : Int32) (yw : Nat) (yp : Nat) (yg : Nat) (yu : Nat) (ysl : Nat) (yin : Nat) (yse : Nat) (ysp : Nat) (ypa : Nat) (rA : Int32) (yb : Nat) (ybd : Nat) (ybc : Nat) (yr : Nat) (rF : Int32) (rP : Int32) (ywd : Nat) (rN : Int32) (rO : Int32) (rW : Int32) (rL : Int32) (rD : Int32) (yd : Nat) (rI : Int32) (rX : Int32) (rY : Int32) (rZ : Int32) (rU : Int32) (yro : Nat) (yc : Nat) (ybe : Nat) (yco : Nat) (rC : Int64) (rV : Int64) (qT : Nat → Int32) (qW : Nat → Int32) (G : Nat) (K : Nat) (M : Nat) (N : Nat) (e : Nat) (j : Nat) (T90 : Int32 → Int32 → Prop) (hT90 : ∀ (n1 : Int32) (p1 : Int32), T90 n1 p1 → paX9_take_90 B g h0 yt rT rH yw yp yg yu ysl yin yse ysp ypa rA yb ybd ybc yr rF rP ywd rN rO rW rL rD yd rI rX rY rZ rU yro yc ybe yco rC rV qT qW G K M N e j n1 p1) (T170 : Int32 → Int32 → Int32 → Prop) (hT170 : ∀ (n1 : Int32) (p1 : Int32) (w1 : Int32), T170 n1 p1 w1 → paX9_take_170 B g h0 yt rT rH yw yp yg yu ysl yin yse ysp ypa rA yb ybd ybc yr rF rP ywd rN rO rW rL rD yd rI rX rY rZ rU yro yc ybe yco rC rV qT qW G K M N e j n1 p1 w1) (n1 : Int32) (vc : ((¬ n1 = (nI e) → ∃ k_2 : Nat, (k_2 ≤ e ∧ e ≤ 400 ∧ n1 = nI k_2) ∧ ∀ r_4 : Int32, ∀ _ : (r_4 = if k_2 < e ∧ pu_le (qT k_2) = true then 1 else 0), ((r_4 = 0 → ∃ k_7 : Nat, (k_7 ≤ e ∧ e ≤ 400 ∧ n1 = nI k_7) ∧ ∀ r_9 : Int32, ∀ _ : (r_9 = if k_7 < e ∧ pu_di (qT k_7) = true then 1 else 0), ((r_9 = 0 → vp_in n1 400 ∧ ((¬ (qT n1.toNatClampNeg) = 59 → ∀ x_14 : Int32, x_14 = (n1 + 1) → Post none [(h0, .inr (8, [.ref yt, .int rT, .int rH, .int (nI G), .ref yw, .int (nI K), .ref yp, .ref yg, .int (nI M), .ref yu, .int (nI N), .ref ysl, .ref yin, .ref yse, .ref ysp, .ref ypa, .int rA, .ref yb, .ref ybd, .ref ybc, .ref yr, .int rF, .int rP, .ref ywd, .int (nI e), .int x_14, .int 4, .int rW, .int n1, .int rD, .ref yd, .int rI, .int rX, .int rY, .int rZ, .int rU, .ref yro, .ref yc, .ref ybe, .ref yco, .long rC, .long rV])), (yt, .inl (g.2.1 1, 400, .inl qT)), (ywd, .inl (g.2.1 1, 77, .inl qW))]) ∧ ((qT n1.toNatClampNeg) = 59 → ∀ x_15 : Int32, x_15 = (n1 + 1) → Post none [(h0, .inr (8, [.ref yt, .int rT, .int rH, .int (nI G), .ref yw, .int (nI K), .ref yp, .ref yg, .int (nI M), .ref yu, .int (nI N), .ref ysl, .ref yin, .ref yse, .ref ysp, .ref ypa, .int rA, .ref yb, .ref ybd, .ref ybc, .ref yr, .int rF, .int rP, .ref ywd, .int (nI e), .int x_15, .int 3, .int rW, .int n1, .int rD, .ref yd, .int rI, .int rX, .int rY, .int rZ, .int rU, .ref yro, .ref yc, .ref ybe, .ref yco, .long rC, .long rV])), (yt, .inl (g.2.1 1, 400, .inl qT)), (ywd, .inl (g.2.1 1, 77, .inl qW))]))) ∧ (¬ r_9 = 0 → T170 n1 n1 0))) ∧ (¬ r_4 = 0 → T90 n1 n1))) ∧ (n1 = (nI e) → Post none [(h0, .inr (8, [.ref yt, .int rT, .int rH, .int (nI G), .ref yw, .int (nI K), .ref yp, .ref yg, .int (nI M), .ref yu, .int (nI N), .ref ysl, .ref yin, .ref yse, .ref ysp, .ref ypa, .int rA, .ref yb, .ref ybd, .ref ybc, .ref yr, .int rF, .int rP, .ref ywd, .int (nI e), .int n1, .int 0, .int rW, .int n1, .int rD, .ref yd, .int rI, .int rX, .int rY, .int rZ, .int rU, .ref yro, .ref yc, .ref ybe, .ref yco, .long rC, .long rV])), (yt, .inl (g.2.1 1, 400, .inl qT)), (ywd, .inl (g.2.1 1, 77, .inl qW))]))) : pz_At B 0 0 52 [(0, .ref h0)] [] [(h0, .inr (8, [.ref yt, .int rT, .int rH, .int (nI G), .ref yw, .int (nI K), .ref yp, .ref yg, .int (nI M), .ref yu, .int (nI N), .ref ysl, .ref yin, .ref yse, .ref ysp, .ref ypa, .int rA, .ref yb, .ref ybd, .ref ybc, .ref yr, .int rF, .int rP, .ref ywd, .int (nI e), .int n1, .int rO, .int rW, .int rL, .int rD, .ref yd, .int rI, .int rX, .int rY, .int rZ, .int rU, .ref yro, .ref yc, .ref ybe, .ref yco, .long rC, .long rV])), (yt, .inl (g.2.1 1, 400, .inl qT)), (ywd, .inl (g.2.1 1, 77, .inl qW))] := by
  refine pz_aload_n 0 F rfl dX9_take_52 rfl ?_
  refine pz_aload_n 0 F rfl dX9_take_53 rfl ?_
  refine pz_get (ci := 8) (C := RX9) (T := TX9) (N := 42) (v := .int n1) 0 F rfl rfl pz_inX9 25 (by decide) pw_833 rfl dX9_take_54 ?_
  refine pz_put (ws' := [(h0, .inr (8, [.ref yt, .int rT, .int rH, .int (nI G), .ref yw, .int (nI K), .ref yp, .ref yg, .int (nI M), .ref yu, .int (nI N), .ref ysl, .ref yin, .ref yse, .ref ysp, .ref ypa, .int rA, .ref yb, .ref ybd, .ref ybc, .ref yr, .int rF, .int rP, .ref ywd, .int (nI e), .int n1, .int rO, .int rW, .int n1, .int rD, .ref yd, .int rI, .int rX, .int rY, .int rZ, .int rU, .ref yro, .ref yc, .ref ybe, .ref yco, .long rC, .long rV])), (yt, .inl (g.2.1 1, 400, .inl qT)), (ywd, .inl (g.2.1 1, 77, .inl qW))]) (ci := 8) (C := RX9) (T := TX9) (N := 42) (v := .int n1) (ty := .int) 0 F rfl rfl pz_inX9 28 (by decide) pw_836 tyX9_ok nmX9 rfl rfl rfl rfl (Nat.le_of_ble_eq_true rfl) dX9_take_57 rfl ?_
  refine pz_aload_n 0 F rfl dX9_take_60 rfl ?_
  refine pz_get (ci := 8) (C := RX9) (T := TX9) (N := 42) (v := .int n1) 0 F rfl rfl pz_inX9 25 (by decide) pw_833 rfl dX9_take_61 ?_
  refine pz_aload_n 0 F rfl dX9_take_64 rfl ?_
  refine pz_get (ci := 8) (C := RX9) (T := TX9) (N := 42) (v := .int (nI e)) 0 F rfl rfl pz_inX9 24 (by decide) pw_832 rfl dX9_take_65 ?_
  refine pz_icmp_ne (tgt := 79) F dX9_take_68 (by decide) (fun q_1 => ?_) (fun q_1 => ?_)
  · replace vc := vc.1 q_1
    refine pz_aload_n 0 F rfl dX9_take_79 rfl ?_
    refine pz_aload_n 0 F rfl dX9_take_80 rfl ?_
    refine pz_get (ci := 8) (C := RX9) (T := TX9) (N := 42) (v := .int n1) 0 F rfl rfl pz_inX9 25 (by decide) pw_833 rfl dX9_take_81 ?_
    obtain ⟨k_2, vc⟩ := vc
    obtain ⟨h_3, vc⟩ := vc
    refine pz_callV (nA := 1) (ci := 8) (C := RX9) (T := TX9) (N := 42) (As := [.int n1]) (rest := []) (wr := [(ywd, .inl (g.2.1 1, 77, .inl qW))]) F (ctX9_isSmall _ g n1 h0 yt rT rH yw yp yg yu ysl yin yse ysp ypa rA yb ybd ybc yr rF rP ywd n1 rO rW n1 rD yd rI rX rY rZ rU yro yc ybe yco rC rV qT G K M N e k_2 h_3) 0 rfl rfl pw_951 pw_953 pv_28 pw_8 pw_954 (by decide +kernel) (by decide) (by decide) rfl rfl (Nat.le_of_ble_eq_true rfl) [0, 1] [2] rfl rfl rfl rfl (by decide) dX9_take_84 (fun r0 w0 hp0 => ?_)
    obtain ⟨r_4, _, rfl, rfl, hq_5⟩ := hp0
    replace vc := vc r_4  hq_5
    refine pz_eq (st' := [.int r_4]) (ws' := [(ywd, .inl (g.2.1 1, 77, .inl qW)), (h0, .inr (8, [.ref yt, .int rT, .int rH, .int (nI G), .ref yw, .int (nI K), .ref yp, .ref yg, .int (nI M), .ref yu, .int (nI N), .ref ysl, .ref yin, .ref yse, .ref ysp, .ref ypa, .int rA, .ref yb, .ref ybd, .ref ybc, .ref yr, .int rF, .int rP, .ref ywd, .int (nI e), .int n1, .int rO, .int rW, .int n1, .int rD, .ref yd, .int rI, .int rX, .int rY, .int rZ, .int rU, .ref yro, .ref yc, .ref ybe, .ref yco, .long rC, .long rV])), (yt, .inl (g.2.1 1, 400, .inl qT))]) rfl rfl ?_
    refine pz_if_eq (tgt := 149) F dX9_take_87 (by decide) (fun q_6 => ?_) (fun q_6 => ?_)
    · replace vc := vc.1 q_6
      refine pz_aload_n 0 F rfl dX9_take_149 rfl ?_
      refine pz_aload_n 0 F rfl dX9_take_150 rfl ?_
      refine pz_get (ci := 8) (C := RX9) (T := TX9) (N := 42) (v := .int n1) 1 F rfl rfl pz_inX9 25 (by decide) pw_833 rfl dX9_take_151 ?_
      obtain ⟨k_7, vc⟩ := vc
      obtain ⟨h_8, vc⟩ := vc
      refine pz_callV (nA := 1) (ci := 8) (C := RX9) (T := TX9) (N := 42) (As := [.int n1]) (rest := []) (wr := [(ywd, .inl (g.2.1 1, 77, .inl qW))]) F (ctX9_isDigit _ g n1 h0 yt rT rH yw yp yg yu ysl yin yse ysp ypa rA yb ybd ybc yr rF rP ywd n1 rO rW n1 rD yd rI rX rY rZ rU yro yc ybe yco rC rV qT G K M N e k_7 h_8) 1 rfl rfl pw_959 pw_961 pv_30 pw_8 pw_962 (by decide +kernel) (by decide) (by decide) rfl rfl (Nat.le_of_ble_eq_true rfl) [1, 2] [0] rfl rfl rfl rfl (by decide) dX9_take_154 (fun r0 w0 hp0 => ?_)
      obtain ⟨r_9, _, rfl, rfl, hq_10⟩ := hp0
      replace vc := vc r_9  hq_10
      refine pz_eq (st' := [.int r_9]) (ws' := [(ywd, .inl (g.2.1 1, 77, .inl qW)), (h0, .inr (8, [.ref yt, .int rT, .int rH, .int (nI G), .ref yw, .int (nI K), .ref yp, .ref yg, .int (nI M), .ref yu, .int (nI N), .ref ysl, .ref yin, .ref yse, .ref ysp, .ref ypa, .int rA, .ref yb, .ref ybd, .ref ybc, .ref yr, .int rF, .int rP, .ref ywd, .int (nI e), .int n1, .int rO, .int rW, .int n1, .int rD, .ref yd, .int rI, .int rX, .int rY, .int rZ, .int rU, .ref yro, .ref yc, .ref ybe, .ref yco, .long rC, .long rV])), (yt, .inl (g.2.1 1, 400, .inl qT))]) rfl rfl ?_
      refine pz_if_eq (tgt := 234) F dX9_take_157 (by decide) (fun q_11 => ?_) (fun q_11 => ?_)
      · replace vc := vc.1 q_11
        refine pz_aload_n 0 F rfl dX9_take_234 rfl ?_
        refine pz_aload_n 0 F rfl dX9_take_235 rfl ?_
        refine pz_get (ci := 8) (C := RX9) (T := TX9) (N := 42) (v := .ref yt) 1 F rfl rfl pz_inX9 0 (by decide) pw_808 rfl dX9_take_236 ?_
        refine pz_aload_n 0 F rfl dX9_take_239 rfl ?_
        refine pz_get (ci := 8) (C := RX9) (T := TX9) (N := 42) (v := .int n1) 1 F rfl rfl pz_inX9 25 (by decide) pw_833 rfl dX9_take_240 ?_
        obtain ⟨h_12, vc⟩ := vc
        refine pz_iaload 2 F rfl h_12 dX9_take_243 ?_
        refine pz_bipush (v := 59) F dX9_take_244 rfl ?_
        refine pz_icmp_ne (tgt := 253) F dX9_take_246 (by decide) (fun q_13 => ?_) (fun q_13 => ?_)
        · replace vc := vc.1 q_13
          refine pz_iconst (v := 4) F dX9_take_253 rfl ?_
          refine pz_put (ws' := [(ywd, .inl (g.2.1 1, 77, .inl qW)), (h0, .inr (8, [.ref yt, .int rT, .int rH, .int (nI G), .ref yw, .int (nI K), .ref yp, .ref yg, .int (nI M), .ref yu, .int (nI N), .ref ysl, .ref yin, .ref yse, .ref ysp, .ref ypa, .int rA, .ref yb, .ref ybd, .ref ybc, .ref yr, .int rF, .int rP, .ref ywd, .int (nI e), .int n1, .int 4, .int rW, .int n1, .int rD, .ref yd, .int rI, .int rX, .int rY, .int rZ, .int rU, .ref yro, .ref yc, .ref ybe, .ref yco, .long rC, .long rV])), (yt, .inl (g.2.1 1, 400, .inl qT))]) (ci := 8) (C := RX9) (T := TX9) (N := 42) (v := .int 4) (ty := .int) 1 F rfl rfl pz_inX9 26 (by decide) pw_834 tyX9_ok nmX9 rfl rfl rfl rfl (Nat.le_of_ble_eq_true rfl) dX9_take_254 rfl ?_
          refine pz_aload_n 0 F rfl dX9_take_257 rfl ?_
          refine pz_dup F dX9_take_258 rfl ?_
          refine pz_get (ci := 8) (C := RX9) (T := TX9) (N := 42) (v := .int n1) 1 F rfl rfl pz_inX9 25 (by decide) pw_833 rfl dX9_take_259 ?_
          refine pz_iconst (v := 1) F dX9_take_262 rfl ?_
          refine pz_iadd F dX9_take_263 ?_
          refine pz_topi (fun x_14 ex_14 => ?_)
          replace vc := vc x_14 ex_14
          refine pz_put (ws' := [(ywd, .inl (g.2.1 1, 77, .inl qW)), (h0, .inr (8, [.ref yt, .int rT, .int rH, .int (nI G), .ref yw, .int (nI K), .ref yp, .ref yg, .int (nI M), .ref yu, .int (nI N), .ref ysl, .ref yin, .ref yse, .ref ysp, .ref ypa, .int rA, .ref yb, .ref ybd, .ref ybc, .ref yr, .int rF, .int rP, .ref ywd, .int (nI e), .int x_14, .int 4, .int rW, .int n1, .int rD, .ref yd, .int rI, .int rX, .int rY, .int rZ, .int rU, .ref yro, .ref yc, .ref ybe, .ref yco, .long rC, .long rV])), (yt, .inl (g.2.1 1, 400, .inl qT))]) (ci := 8) (C := RX9) (T := TX9) (N := 42) (v := .int x_14) (ty := .int) 1 F rfl rfl pz_inX9 25 (by decide) pw_833 tyX9_ok nmX9 rfl rfl rfl rfl (Nat.le_of_ble_eq_true rfl) dX9_take_264 rfl ?_
          exact pz_return (w1 := [(h0, .inr (8, [.ref yt, .int rT, .int rH, .int (nI G), .ref yw, .int (nI K), .ref yp, .ref yg, .int (nI M), .ref yu, .int (nI N), .ref ysl, .ref yin, .ref yse, .ref ysp, .ref ypa, .int rA, .ref yb, .ref ybd, .ref ybc, .ref yr, .int rF, .int rP, .ref ywd, .int (nI e), .int x_14, .int 4, .int rW, .int n1, .int rD, .ref yd, .int rI, .int rX, .int rY, .int rZ, .int rU, .ref yro, .ref yc, .ref ybe, .ref yco, .long rC, .long rV])), (yt, .inl (g.2.1 1, 400, .inl qT)), (ywd, .inl (g.2.1 1, 77, .inl qW))]) F Rt (by decide) (by decide) dX9_take_267 [1, 2, 0] rfl rfl vc
        · replace vc := vc.2 q_13
          refine pz_iconst (v := 3) F dX9_take_249 rfl ?_
          refine pz_goto (tgt := 254) F dX9_take_250 (by decide) ?_
          refine pz_put (ws' := [(ywd, .inl (g.2.1 1, 77, .inl qW)), (h0, .inr (8, [.ref yt, .int rT, .int rH, .int (nI G), .ref yw, .int (nI K), .ref yp, .ref yg, .int (nI M), .ref yu, .int (nI N), .ref ysl, .ref yin, .ref yse, .ref ysp, .ref ypa, .int rA, .ref yb, .ref ybd, .ref ybc, .ref yr, .int rF, .int rP, .ref ywd, .int (nI e), .int n1, .int 3, .int rW, .int n1, .int rD, .ref yd, .int rI, .int rX, .int rY, .int rZ, .int rU, .ref yro, .ref yc, .ref ybe, .ref yco, .long rC, .long rV])), (yt, .inl (g.2.1 1, 400, .inl qT))]) (ci := 8) (C := RX9) (T := TX9) (N := 42) (v := .int 3) (ty := .int) 1 F rfl rfl pz_inX9 26 (by decide) pw_834 tyX9_ok nmX9 rfl rfl rfl rfl (Nat.le_of_ble_eq_true rfl) dX9_take_254 rfl ?_
          refine pz_aload_n 0 F rfl dX9_take_257 rfl ?_
          refine pz_dup F dX9_take_258 rfl ?_
          refine pz_get (ci := 8) (C := RX9) (T := TX9) (N := 42) (v := .int n1) 1 F rfl rfl pz_inX9 25 (by decide) pw_833 rfl dX9_take_259 ?_
          refine pz_iconst (v := 1) F dX9_take_262 rfl ?_
          refine pz_iadd F dX9_take_263 ?_
          refine pz_topi (fun x_15 ex_15 => ?_)
          replace vc := vc x_15 ex_15
          refine pz_put (ws' := [(ywd, .inl (g.2.1 1, 77, .inl qW)), (h0, .inr (8, [.ref yt, .int rT, .int rH, .int (nI G), .ref yw, .int (nI K), .ref yp, .ref yg, .int (nI M), .ref yu, .int (nI N), .ref ysl, .ref yin, .ref yse, .ref ysp, .ref ypa, .int rA, .ref yb, .ref ybd, .ref ybc, .ref yr, .int rF, .int rP, .ref ywd, .int (nI e), .int x_15, .int 3, .int rW, .int n1, .int rD, .ref yd, .int rI, .int rX, .int rY, .int rZ, .int rU, .ref yro, .ref yc, .ref ybe, .ref yco, .long rC, .long rV])), (yt, .inl (g.2.1 1, 400, .inl qT))]) (ci := 8) (C := RX9) (T := TX9) (N := 42) (v := .int x_15) (ty := .int) 1 F rfl rfl pz_inX9 25 (by decide) pw_833 tyX9_ok nmX9 rfl rfl rfl rfl (Nat.le_of_ble_eq_true rfl) dX9_take_264 rfl ?_
          exact pz_return (w1 := [(h0, .inr (8, [.ref yt, .int rT, .int rH, .int (nI G), .ref yw, .int (nI K), .ref yp, .ref yg, .int (nI M), .ref yu, .int (nI N), .ref ysl, .ref yin, .ref yse, .ref ysp, .ref ypa, .int rA, .ref yb, .ref ybd, .ref ybc, .ref yr, .int rF, .int rP, .ref ywd, .int (nI e), .int x_15, .int 3, .int rW, .int n1, .int rD, .ref yd, .int rI, .int rX, .int rY, .int rZ, .int rU, .ref yro, .ref yc, .ref ybe, .ref yco, .long rC, .long rV])), (yt, .inl (g.2.1 1, 400, .inl qT)), (ywd, .inl (g.2.1 1, 77, .inl qW))]) F Rt (by decide) (by decide) dX9_take_267 [1, 2, 0] rfl rfl vc
      · replace vc := vc.2 q_11
        refine pz_aload_n 0 F rfl dX9_take_160 rfl ?_
        refine pz_iconst (v := 2) F dX9_take_161 rfl ?_
        refine pz_put (ws' := [(ywd, .inl (g.2.1 1, 77, .inl qW)), (h0, .inr (8, [.ref yt, .int rT, .int rH, .int (nI G), .ref yw, .int (nI K), .ref yp, .ref yg, .int (nI M), .ref yu, .int (nI N), .ref ysl, .ref yin, .ref yse, .ref ysp, .ref ypa, .int rA, .ref yb, .ref ybd, .ref ybc, .ref yr, .int rF, .int rP, .ref ywd, .int (nI e), .int n1, .int 2, .int rW, .int n1, .int rD, .ref yd, .int rI, .int rX, .int rY, .int rZ, .int rU, .ref yro, .ref yc, .ref ybe, .ref yco, .long rC, .long rV])), (yt, .inl (g.2.1 1, 400, .inl qT))]) (ci := 8) (C := RX9) (T := TX9) (N := 42) (v := .int 2) (ty := .int) 1 F rfl rfl pz_inX9 26 (by decide) pw_834 tyX9_ok nmX9 rfl rfl rfl rfl (Nat.le_of_ble_eq_true rfl) dX9_take_162 rfl ?_
        refine pz_aload_n 0 F rfl dX9_take_165 rfl ?_
        refine pz_iconst (v := 0) F dX9_take_166 rfl ?_
        refine pz_put (ws' := [(ywd, .inl (g.2.1 1, 77, .inl qW)), (h0, .inr (8, [.ref yt, .int rT, .int rH, .int (nI G), .ref yw, .int (nI K), .ref yp, .ref yg, .int (nI M), .ref yu, .int (nI N), .ref ysl, .ref yin, .ref yse, .ref ysp, .ref ypa, .int rA, .ref yb, .ref ybd, .ref ybc, .ref yr, .int rF, .int rP, .ref ywd, .int (nI e), .int n1, .int 2, .int 0, .int n1, .int rD, .ref yd, .int rI, .int rX, .int rY, .int rZ, .int rU, .ref yro, .ref yc, .ref ybe, .ref yco, .long rC, .long rV])), (yt, .inl (g.2.1 1, 400, .inl qT))]) (ci := 8) (C := RX9) (T := TX9) (N := 42) (v := .int 0) (ty := .int) 1 F rfl rfl pz_inX9 27 (by decide) pw_835 tyX9_ok nmX9 rfl rfl rfl rfl (Nat.le_of_ble_eq_true rfl) dX9_take_167 rfl ?_
        exact pz_sub [0] [1, 2, 0] rfl rfl rfl (hT170 n1 n1 0 vc)
    · replace vc := vc.2 q_6
      exact pz_sub [0] [1, 2, 0] rfl rfl rfl (hT90 n1 n1 vc)
  · replace vc := vc.2 q_1
    refine pz_aload_n 0 F rfl dX9_take_71 rfl ?_
    refine pz_iconst (v := 0) F dX9_take_72 rfl ?_
    refine pz_put (ws' := [(h0, .inr (8, [.ref yt, .int rT, .int rH, .int (nI G), .ref yw, .int (nI K), .ref yp, .ref yg, .int (nI M), .ref yu, .int (nI N), .ref ysl, .ref yin, .ref yse, .ref ysp, .ref ypa, .int rA, .ref yb, .ref ybd, .ref ybc, .ref yr, .int rF, .int rP, .ref ywd, .int (nI e), .int n1, .int 0, .int rW, .int n1, .int rD, .ref yd, .int rI, .int rX, .int rY, .int rZ, .int rU, .ref yro, .ref yc, .ref ybe, .ref yco, .long rC, .long rV])), (yt, .inl (g.2.1 1, 400, .inl qT)), (ywd, .inl (g.2.1 1, 77, .inl qW))]) (ci := 8) (C := RX9) (T := TX9) (N := 42) (v := .int 0) (ty := .int) 0 F rfl rfl pz_inX9 26 (by decide) pw_834 tyX9_ok nmX9 rfl rfl rfl rfl (Nat.le_of_ble_eq_true rfl) dX9_take_73 rfl ?_
    refine pz_goto (tgt := 267) F dX9_take_76 (by decide) ?_
    exact pz_return (w1 := [(h0, .inr (8, [.ref yt, .int rT, .int rH, .int (nI G), .ref yw, .int (nI K), .ref yp, .ref yg, .int (nI M), .ref yu, .int (nI N), .ref ysl, .ref yin, .ref yse, .ref ysp, .ref ypa, .int rA, .ref yb, .ref ybd, .ref ybc, .ref yr, .int rF, .int rP, .ref ywd, .int (nI e), .int n1, .int 0, .int rW, .int n1, .int rD, .ref yd, .int rI, .int rX, .int rY, .int rZ, .int rU, .ref yro, .ref yc, .ref ybe, .ref yco, .long rC, .long rV])), (yt, .inl (g.2.1 1, 400, .inl qT)), (ywd, .inl (g.2.1 1, 77, .inl qW))]) F Rt (by decide) (by decide) dX9_take_267 [0, 1, 2] rfl rfl vc
set_option maxHeartbeats 4000000 in
set_option maxRecDepth 100000 in
theorem sgX9_take_90 {B : pz_B} {g : pz_G} {wc : va_W} {Post : Option Value → va_W → Prop} (F : pz_F B cX9_take 1 none yX9_take.cls g rmX9_take) (Rt : pz_Rt B g wc Post rmX9_take) (h0 : Nat) (yt : Nat) (rT : Int32) (rH : Int32) (yw : Nat) (yp : Nat) (yg : Nat) (yu : Nat) (ysl : Nat) (yin : Nat) (yse : Nat) (ysp : Nat) (ypa : Nat) (rA : Int32) (yb : Nat) (ybd : Nat) (ybc : Nat) (yr : Nat) (rF : Int32) (rP : Int32) (ywd : Nat) (rN : Int32) (rO : Int32) (rW : Int32) (rL : Int32) (rD : Int32) (yd : Nat) (rI : Int32) (rX : Int32) (rY : Int32) (rZ : Int32) (rU : Int32) (yro : Nat) (yc : Nat) (ybe : Nat) (yco : Nat) (rC : Int64) (rV : Int64) (qT : Nat → Int32) (qW : Nat → Int32) (G : Nat) (K : Nat) (M : Nat) (N : Nat) (e : Nat) (j : Nat) (T90 : Int32 → Int32 → Prop) (hT90 : ∀ (n1 : Int32) (p1 : Int32), T90 n1 p1 → paX9_take_90 B g h0 yt rT rH yw yp yg yu ysl yin yse ysp ypa rA yb ybd ybc yr rF rP ywd rN rO rW rL rD yd rI rX rY rZ rU yro yc ybe yco rC rV qT qW G K M N e j n1 p1) (n1 : Int32) (p1 : Int32) (vc : ∃ k_1 : Nat, (k_1 ≤ e ∧ e ≤ 400 ∧ n1 = nI k_1) ∧ ∀ r_3 : Int32, ∀ _ : (r_3 = if k_1 < e ∧ pu_le (qT k_1) = true then 1 else 0), ((r_3 = 0 → ∃ a_6 : Nat, ∃ b'_7 : Nat, (a_6 ≤ b'_7 ∧ b'_7 ≤ e ∧ e ≤ 400 ∧ (∀ a_6, a_6 < 77 → qW a_6 = pz_wd.getD a_6 0) ∧ p1 = nI a_6 ∧ n1 = nI b'_7) ∧ ∀ r_9 : Int32, ∀ _ : (r_9 = rt_w0 (rt_c qT e) a_6 b'_7), (((0 : Int32) ≤ r_9 → Post none [(h0, .inr (8, [.ref yt, .int rT, .int rH, .int (nI G), .ref yw, .int (nI K), .ref yp, .ref yg, .int (nI M), .ref yu, .int (nI N), .ref ysl, .ref yin, .ref yse, .ref ysp, .ref ypa, .int rA, .ref yb, .ref ybd, .ref ybc, .ref yr, .int rF, .int rP, .ref ywd, .int (nI e), .int n1, .int 1, .int r_9, .int p1, .int rD, .ref yd, .int rI, .int rX, .int rY, .int rZ, .int rU, .ref yro, .ref yc, .ref ybe, .ref yco, .long rC, .long rV])), (yt, .inl (g.2.1 1, 400, .inl qT)), (ywd, .inl (g.2.1 1, 77, .inl qW))]) ∧ (¬ (0 : Int32) ≤ r_9 → Post none [(h0, .inr (8, [.ref yt, .int rT, .int rH, .int (nI G), .ref yw, .int (nI K), .ref yp, .ref yg, .int (nI M), .ref yu, .int (nI N), .ref ysl, .ref yin, .ref yse, .ref ysp, .ref ypa, .int rA, .ref yb, .ref ybd, .ref ybc, .ref yr, .int rF, .int rP, .ref ywd, .int (nI e), .int n1, .int 4, .int r_9, .int p1, .int rD, .ref yd, .int rI, .int rX, .int rY, .int rZ, .int rU, .ref yro, .ref yc, .ref ybe, .ref yco, .long rC, .long rV])), (yt, .inl (g.2.1 1, 400, .inl qT)), (ywd, .inl (g.2.1 1, 77, .inl qW))]))) ∧ (¬ r_3 = 0 → ∀ x_12 : Int32, x_12 = (n1 + 1) → T90 x_12 p1))) : pz_At B 0 0 90 [(0, .ref h0)] [] [(h0, .inr (8, [.ref yt, .int rT, .int rH, .int (nI G), .ref yw, .int (nI K), .ref yp, .ref yg, .int (nI M), .ref yu, .int (nI N), .ref ysl, .ref yin, .ref yse, .ref ysp, .ref ypa, .int rA, .ref yb, .ref ybd, .ref ybc, .ref yr, .int rF, .int rP, .ref ywd, .int (nI e), .int n1, .int rO, .int rW, .int p1, .int rD, .ref yd, .int rI, .int rX, .int rY, .int rZ, .int rU, .ref yro, .ref yc, .ref ybe, .ref yco, .long rC, .long rV])), (yt, .inl (g.2.1 1, 400, .inl qT)), (ywd, .inl (g.2.1 1, 77, .inl qW))] := by
  refine pz_aload_n 0 F rfl dX9_take_90 rfl ?_
  refine pz_aload_n 0 F rfl dX9_take_91 rfl ?_
  refine pz_get (ci := 8) (C := RX9) (T := TX9) (N := 42) (v := .int n1) 0 F rfl rfl pz_inX9 25 (by decide) pw_833 rfl dX9_take_92 ?_
  obtain ⟨k_1, vc⟩ := vc
  obtain ⟨h_2, vc⟩ := vc
  refine pz_callV (nA := 1) (ci := 8) (C := RX9) (T := TX9) (N := 42) (As := [.int n1]) (rest := []) (wr := [(ywd, .inl (g.2.1 1, 77, .inl qW))]) F (ctX9_isSmall _ g n1 h0 yt rT rH yw yp yg yu ysl yin yse ysp ypa rA yb ybd ybc yr rF rP ywd n1 rO rW p1 rD yd rI rX rY rZ rU yro yc ybe yco rC rV qT G K M N e k_1 h_2) 0 rfl rfl pw_951 pw_953 pv_28 pw_8 pw_954 (by decide +kernel) (by decide) (by decide) rfl rfl (Nat.le_of_ble_eq_true rfl) [0, 1] [2] rfl rfl rfl rfl (by decide) dX9_take_95 (fun r0 w0 hp0 => ?_)
  obtain ⟨r_3, _, rfl, rfl, hq_4⟩ := hp0
  replace vc := vc r_3  hq_4
  refine pz_eq (st' := [.int r_3]) (ws' := [(ywd, .inl (g.2.1 1, 77, .inl qW)), (h0, .inr (8, [.ref yt, .int rT, .int rH, .int (nI G), .ref yw, .int (nI K), .ref yp, .ref yg, .int (nI M), .ref yu, .int (nI N), .ref ysl, .ref yin, .ref yse, .ref ysp, .ref ypa, .int rA, .ref yb, .ref ybd, .ref ybc, .ref yr, .int rF, .int rP, .ref ywd, .int (nI e), .int n1, .int rO, .int rW, .int p1, .int rD, .ref yd, .int rI, .int rX, .int rY, .int rZ, .int rU, .ref yro, .ref yc, .ref ybe, .ref yco, .long rC, .long rV])), (yt, .inl (g.2.1 1, 400, .inl qT))]) rfl rfl ?_
  refine pz_if_eq (tgt := 114) F dX9_take_98 (by decide) (fun q_5 => ?_) (fun q_5 => ?_)
  · replace vc := vc.1 q_5
    refine pz_aload_n 0 F rfl dX9_take_114 rfl ?_
    refine pz_aload_n 0 F rfl dX9_take_115 rfl ?_
    refine pz_aload_n 0 F rfl dX9_take_116 rfl ?_
    refine pz_get (ci := 8) (C := RX9) (T := TX9) (N := 42) (v := .int p1) 1 F rfl rfl pz_inX9 28 (by decide) pw_836 rfl dX9_take_117 ?_
    refine pz_aload_n 0 F rfl dX9_take_120 rfl ?_
    refine pz_get (ci := 8) (C := RX9) (T := TX9) (N := 42) (v := .int n1) 1 F rfl rfl pz_inX9 25 (by decide) pw_833 rfl dX9_take_121 ?_
    obtain ⟨a_6, vc⟩ := vc
    obtain ⟨b'_7, vc⟩ := vc
    obtain ⟨h_8, vc⟩ := vc
    refine pz_callV (nA := 2) (ci := 8) (C := RX9) (T := TX9) (N := 42) (As := [.int p1, .int n1]) (rest := [.ref h0]) (wr := []) F (ctX9_wordAt _ g p1 n1 h0 yt rT rH yw yp yg yu ysl yin yse ysp ypa rA yb ybd ybc yr rF rP ywd n1 rO rW p1 rD yd rI rX rY rZ rU yro yc ybe yco rC rV qT qW G K M N e a_6 b'_7 h_8) 1 rfl rfl pw_955 pw_957 pv_29 pw_8 pw_958 (by decide +kernel) (by decide) (by decide) rfl rfl (Nat.le_of_ble_eq_true rfl) [1, 2, 0] [] rfl rfl rfl rfl (by decide) dX9_take_124 (fun r0 w0 hp0 => ?_)
    obtain ⟨r_9, _, rfl, rfl, hq_10⟩ := hp0
    replace vc := vc r_9  hq_10
    refine pz_eq (st' := [.int r_9, .ref h0]) (ws' := [(h0, .inr (8, [.ref yt, .int rT, .int rH, .int (nI G), .ref yw, .int (nI K), .ref yp, .ref yg, .int (nI M), .ref yu, .int (nI N), .ref ysl, .ref yin, .ref yse, .ref ysp, .ref ypa, .int rA, .ref yb, .ref ybd, .ref ybc, .ref yr, .int rF, .int rP, .ref ywd, .int (nI e), .int n1, .int rO, .int rW, .int p1, .int rD, .ref yd, .int rI, .int rX, .int rY, .int rZ, .int rU, .ref yro, .ref yc, .ref ybe, .ref yco, .long rC, .long rV])), (yt, .inl (g.2.1 1, 400, .inl qT)), (ywd, .inl (g.2.1 1, 77, .inl qW))]) rfl rfl ?_
    refine pz_put (ws' := [(h0, .inr (8, [.ref yt, .int rT, .int rH, .int (nI G), .ref yw, .int (nI K), .ref yp, .ref yg, .int (nI M), .ref yu, .int (nI N), .ref ysl, .ref yin, .ref yse, .ref ysp, .ref ypa, .int rA, .ref yb, .ref ybd, .ref ybc, .ref yr, .int rF, .int rP, .ref ywd, .int (nI e), .int n1, .int rO, .int r_9, .int p1, .int rD, .ref yd, .int rI, .int rX, .int rY, .int rZ, .int rU, .ref yro, .ref yc, .ref ybe, .ref yco, .long rC, .long rV])), (yt, .inl (g.2.1 1, 400, .inl qT)), (ywd, .inl (g.2.1 1, 77, .inl qW))]) (ci := 8) (C := RX9) (T := TX9) (N := 42) (v := .int r_9) (ty := .int) 0 F rfl rfl pz_inX9 27 (by decide) pw_835 tyX9_ok nmX9 rfl rfl rfl rfl (Nat.le_of_ble_eq_true rfl) dX9_take_127 rfl ?_
    refine pz_aload_n 0 F rfl dX9_take_130 rfl ?_
    refine pz_aload_n 0 F rfl dX9_take_131 rfl ?_
    refine pz_get (ci := 8) (C := RX9) (T := TX9) (N := 42) (v := .int r_9) 0 F rfl rfl pz_inX9 27 (by decide) pw_835 rfl dX9_take_132 ?_
    refine pz_if_ge (tgt := 142) F dX9_take_135 (by decide) (fun q_11 => ?_) (fun q_11 => ?_)
    · replace vc := vc.1 q_11
      refine pz_iconst (v := 1) F dX9_take_142 rfl ?_
      refine pz_put (ws' := [(h0, .inr (8, [.ref yt, .int rT, .int rH, .int (nI G), .ref yw, .int (nI K), .ref yp, .ref yg, .int (nI M), .ref yu, .int (nI N), .ref ysl, .ref yin, .ref yse, .ref ysp, .ref ypa, .int rA, .ref yb, .ref ybd, .ref ybc, .ref yr, .int rF, .int rP, .ref ywd, .int (nI e), .int n1, .int 1, .int r_9, .int p1, .int rD, .ref yd, .int rI, .int rX, .int rY, .int rZ, .int rU, .ref yro, .ref yc, .ref ybe, .ref yco, .long rC, .long rV])), (yt, .inl (g.2.1 1, 400, .inl qT)), (ywd, .inl (g.2.1 1, 77, .inl qW))]) (ci := 8) (C := RX9) (T := TX9) (N := 42) (v := .int 1) (ty := .int) 0 F rfl rfl pz_inX9 26 (by decide) pw_834 tyX9_ok nmX9 rfl rfl rfl rfl (Nat.le_of_ble_eq_true rfl) dX9_take_143 rfl ?_
      refine pz_goto (tgt := 267) F dX9_take_146 (by decide) ?_
      exact pz_return (w1 := [(h0, .inr (8, [.ref yt, .int rT, .int rH, .int (nI G), .ref yw, .int (nI K), .ref yp, .ref yg, .int (nI M), .ref yu, .int (nI N), .ref ysl, .ref yin, .ref yse, .ref ysp, .ref ypa, .int rA, .ref yb, .ref ybd, .ref ybc, .ref yr, .int rF, .int rP, .ref ywd, .int (nI e), .int n1, .int 1, .int r_9, .int p1, .int rD, .ref yd, .int rI, .int rX, .int rY, .int rZ, .int rU, .ref yro, .ref yc, .ref ybe, .ref yco, .long rC, .long rV])), (yt, .inl (g.2.1 1, 400, .inl qT)), (ywd, .inl (g.2.1 1, 77, .inl qW))]) F Rt (by decide) (by decide) dX9_take_267 [0, 1, 2] rfl rfl vc
    · replace vc := vc.2 q_11
      refine pz_iconst (v := 4) F dX9_take_138 rfl ?_
      refine pz_goto (tgt := 143) F dX9_take_139 (by decide) ?_
      refine pz_put (ws' := [(h0, .inr (8, [.ref yt, .int rT, .int rH, .int (nI G), .ref yw, .int (nI K), .ref yp, .ref yg, .int (nI M), .ref yu, .int (nI N), .ref ysl, .ref yin, .ref yse, .ref ysp, .ref ypa, .int rA, .ref yb, .ref ybd, .ref ybc, .ref yr, .int rF, .int rP, .ref ywd, .int (nI e), .int n1, .int 4, .int r_9, .int p1, .int rD, .ref yd, .int rI, .int rX, .int rY, .int rZ, .int rU, .ref yro, .ref yc, .ref ybe, .ref yco, .long rC, .long rV])), (yt, .inl (g.2.1 1, 400, .inl qT)), (ywd, .inl (g.2.1 1, 77, .inl qW))]) (ci := 8) (C := RX9) (T := TX9) (N := 42) (v := .int 4) (ty := .int) 0 F rfl rfl pz_inX9 26 (by decide) pw_834 tyX9_ok nmX9 rfl rfl rfl rfl (Nat.le_of_ble_eq_true rfl) dX9_take_143 rfl ?_
      refine pz_goto (tgt := 267) F dX9_take_146 (by decide) ?_
      exact pz_return (w1 := [(h0, .inr (8, [.ref yt, .int rT, .int rH, .int (nI G), .ref yw, .int (nI K), .ref yp, .ref yg, .int (nI M), .ref yu, .int (nI N), .ref ysl, .ref yin, .ref yse, .ref ysp, .ref ypa, .int rA, .ref yb, .ref ybd, .ref ybc, .ref yr, .int rF, .int rP, .ref ywd, .int (nI e), .int n1, .int 4, .int r_9, .int p1, .int rD, .ref yd, .int rI, .int rX, .int rY, .int rZ, .int rU, .ref yro, .ref yc, .ref ybe, .ref yco, .long rC, .long rV])), (yt, .inl (g.2.1 1, 400, .inl qT)), (ywd, .inl (g.2.1 1, 77, .inl qW))]) F Rt (by decide) (by decide) dX9_take_267 [0, 1, 2] rfl rfl vc
  · replace vc := vc.2 q_5
    refine pz_aload_n 0 F rfl dX9_take_101 rfl ?_
    refine pz_dup F dX9_take_102 rfl ?_
    refine pz_get (ci := 8) (C := RX9) (T := TX9) (N := 42) (v := .int n1) 1 F rfl rfl pz_inX9 25 (by decide) pw_833 rfl dX9_take_103 ?_
    refine pz_iconst (v := 1) F dX9_take_106 rfl ?_
    refine pz_iadd F dX9_take_107 ?_
    refine pz_topi (fun x_12 ex_12 => ?_)
    replace vc := vc x_12 ex_12
    refine pz_put (ws' := [(ywd, .inl (g.2.1 1, 77, .inl qW)), (h0, .inr (8, [.ref yt, .int rT, .int rH, .int (nI G), .ref yw, .int (nI K), .ref yp, .ref yg, .int (nI M), .ref yu, .int (nI N), .ref ysl, .ref yin, .ref yse, .ref ysp, .ref ypa, .int rA, .ref yb, .ref ybd, .ref ybc, .ref yr, .int rF, .int rP, .ref ywd, .int (nI e), .int x_12, .int rO, .int rW, .int p1, .int rD, .ref yd, .int rI, .int rX, .int rY, .int rZ, .int rU, .ref yro, .ref yc, .ref ybe, .ref yco, .long rC, .long rV])), (yt, .inl (g.2.1 1, 400, .inl qT))]) (ci := 8) (C := RX9) (T := TX9) (N := 42) (v := .int x_12) (ty := .int) 1 F rfl rfl pz_inX9 25 (by decide) pw_833 tyX9_ok nmX9 rfl rfl rfl rfl (Nat.le_of_ble_eq_true rfl) dX9_take_108 rfl ?_
    refine pz_goto (tgt := 90) F dX9_take_111 (by decide) ?_
    exact pz_sub [0] [1, 2, 0] rfl rfl rfl (hT90 x_12 p1 vc)
theorem lpX9_take_90 {B : pz_B} {g : pz_G} {wc : va_W} {Post : Option Value → va_W → Prop} (F : pz_F B cX9_take 1 none yX9_take.cls g rmX9_take) (Rt : pz_Rt B g wc Post rmX9_take) (h0 : Nat) (yt : Nat) (rT : Int32) (rH : Int32) (yw : Nat) (yp : Nat) (yg : Nat) (yu : Nat) (ysl : Nat) (yin : Nat) (yse : Nat) (ysp : Nat) (ypa : Nat) (rA : Int32) (yb : Nat) (ybd : Nat) (ybc : Nat) (yr : Nat) (rF : Int32) (rP : Int32) (ywd : Nat) (rN : Int32) (rO : Int32) (rW : Int32) (rL : Int32) (rD : Int32) (yd : Nat) (rI : Int32) (rX : Int32) (rY : Int32) (rZ : Int32) (rU : Int32) (yro : Nat) (yc : Nat) (ybe : Nat) (yco : Nat) (rC : Int64) (rV : Int64) (qT : Nat → Int32) (qW : Nat → Int32) (G : Nat) (K : Nat) (M : Nat) (N : Nat) (e : Nat) (j : Nat) (Inv : Nat → Int32 → Int32 → Prop) (step : ∀ (mz : Nat) (n1 : Int32) (p1 : Int32), Inv mz n1 p1 → ∀ TT : Int32 → Int32 → Prop, TT = (fun n1 p1 => ∃ mz', mz' < mz ∧ Inv mz' n1 p1) → ∃ k_1 : Nat, (k_1 ≤ e ∧ e ≤ 400 ∧ n1 = nI k_1) ∧ ∀ r_3 : Int32, ∀ _ : (r_3 = if k_1 < e ∧ pu_le (qT k_1) = true then 1 else 0), ((r_3 = 0 → ∃ a_6 : Nat, ∃ b'_7 : Nat, (a_6 ≤ b'_7 ∧ b'_7 ≤ e ∧ e ≤ 400 ∧ (∀ a_6, a_6 < 77 → qW a_6 = pz_wd.getD a_6 0) ∧ p1 = nI a_6 ∧ n1 = nI b'_7) ∧ ∀ r_9 : Int32, ∀ _ : (r_9 = rt_w0 (rt_c qT e) a_6 b'_7), (((0 : Int32) ≤ r_9 → Post none [(h0, .inr (8, [.ref yt, .int rT, .int rH, .int (nI G), .ref yw, .int (nI K), .ref yp, .ref yg, .int (nI M), .ref yu, .int (nI N), .ref ysl, .ref yin, .ref yse, .ref ysp, .ref ypa, .int rA, .ref yb, .ref ybd, .ref ybc, .ref yr, .int rF, .int rP, .ref ywd, .int (nI e), .int n1, .int 1, .int r_9, .int p1, .int rD, .ref yd, .int rI, .int rX, .int rY, .int rZ, .int rU, .ref yro, .ref yc, .ref ybe, .ref yco, .long rC, .long rV])), (yt, .inl (g.2.1 1, 400, .inl qT)), (ywd, .inl (g.2.1 1, 77, .inl qW))]) ∧ (¬ (0 : Int32) ≤ r_9 → Post none [(h0, .inr (8, [.ref yt, .int rT, .int rH, .int (nI G), .ref yw, .int (nI K), .ref yp, .ref yg, .int (nI M), .ref yu, .int (nI N), .ref ysl, .ref yin, .ref yse, .ref ysp, .ref ypa, .int rA, .ref yb, .ref ybd, .ref ybc, .ref yr, .int rF, .int rP, .ref ywd, .int (nI e), .int n1, .int 4, .int r_9, .int p1, .int rD, .ref yd, .int rI, .int rX, .int rY, .int rZ, .int rU, .ref yro, .ref yc, .ref ybe, .ref yco, .long rC, .long rV])), (yt, .inl (g.2.1 1, 400, .inl qT)), (ywd, .inl (g.2.1 1, 77, .inl qW))]))) ∧ (¬ r_3 = 0 → ∀ x_12 : Int32, x_12 = (n1 + 1) → TT x_12 p1))) : ∀ (mz : Nat) (n1 : Int32) (p1 : Int32), Inv mz n1 p1 → paX9_take_90 B g h0 yt rT rH yw yp yg yu ysl yin yse ysp ypa rA yb ybd ybc yr rF rP ywd rN rO rW rL rD yd rI rX rY rZ rU yro yc ybe yco rC rV qT qW G K M N e j n1 p1 := by
  intro mz
  induction mz using Nat.strongRecOn with
  | _ mz ih =>
    intro n1 p1 hI
    exact sgX9_take_90 F Rt h0 yt rT rH yw yp yg yu ysl yin yse ysp ypa rA yb ybd ybc yr rF rP ywd rN rO rW rL rD yd rI rX rY rZ rU yro yc ybe yco rC rV qT qW G K M N e j (fun n1 p1 => ∃ mz', mz' < mz ∧ Inv mz' n1 p1) (fun n1 p1 ⟨mz', h1, h2⟩ => ih mz' h1 n1 p1 h2) n1 p1 (step mz n1 p1 hI _ rfl)
set_option maxHeartbeats 4000000 in
set_option maxRecDepth 100000 in
theorem sgX9_take_170 {B : pz_B} {g : pz_G} {wc : va_W} {Post : Option Value → va_W → Prop} (F : pz_F B cX9_take 1 none yX9_take.cls g rmX9_take) (Rt : pz_Rt B g wc Post rmX9_take) (h0 : Nat) (yt : Nat) (rT : Int32) (rH : Int32) (yw : Nat) (yp : Nat) (yg : Nat) (yu : Nat) (ysl : Nat) (yin : Nat) (yse : Nat) (ysp : Nat) (ypa : Nat) (rA : Int32) (yb : Nat) (ybd : Nat) (ybc : Nat) (yr : Nat) (rF : Int32) (rP : Int32) (ywd : Nat) (rN : Int32) (rO : Int32) (rW : Int32) (rL : Int32) (rD : Int32) (yd : Nat) (rI : Int32) (rX : Int32) (rY : Int32) (rZ : Int32) (rU : Int32) (yro : Nat) (yc : Nat) (ybe : Nat) (yco : Nat) (rC : Int64) (rV : Int64) (qT : Nat → Int32) (qW : Nat → Int32) (G : Nat) (K : Nat) (M : Nat) (N : Nat) (e : Nat) (j : Nat) (T170 : Int32 → Int32 → Int32 → Prop) (hT170 : ∀ (n1 : Int32) (p1 : Int32) (w1 : Int32), T170 n1 p1 w1 → paX9_take_170 B g h0 yt rT rH yw yp yg yu ysl yin yse ysp ypa rA yb ybd ybc yr rF rP ywd rN rO rW rL rD yd rI rX rY rZ rU yro yc ybe yco rC rV qT qW G K M N e j n1 p1 w1) (n1 : Int32) (p1 : Int32) (w1 : Int32) (vc : ∃ k_1 : Nat, (k_1 ≤ e ∧ e ≤ 400 ∧ n1 = nI k_1) ∧ ∀ r_3 : Int32, ∀ _ : (r_3 = if k_1 < e ∧ pu_di (qT k_1) = true then 1 else 0), ((r_3 = 0 → Post none [(h0, .inr (8, [.ref yt, .int rT, .int rH, .int (nI G), .ref yw, .int (nI K), .ref yp, .ref yg, .int (nI M), .ref yu, .int (nI N), .ref ysl, .ref yin, .ref yse, .ref ysp, .ref ypa, .int rA, .ref yb, .ref ybd, .ref ybc, .ref yr, .int rF, .int rP, .ref ywd, .int (nI e), .int n1, .int 2, .int w1, .int p1, .int rD, .ref yd, .int rI, .int rX, .int rY, .int rZ, .int rU, .ref yro, .ref yc, .ref ybe, .ref yco, .long rC, .long rV])), (yt, .inl (g.2.1 1, 400, .inl qT)), (ywd, .inl (g.2.1 1, 77, .inl qW))]) ∧ (¬ r_3 = 0 → ((w1 ≤ 999999 → vp_in n1 400 ∧ ∀ x_8 : Int32, x_8 = (((10 * w1) + (qT n1.toNatClampNeg)) - 48) → ∀ x_9 : Int32, x_9 = (n1 + 1) → T170 x_9 p1 x_8) ∧ (¬ w1 ≤ 999999 → ∀ x_10 : Int32, x_10 = (n1 + 1) → T170 x_10 p1 w1))))) : pz_At B 0 0 170 [(0, .ref h0)] [] [(h0, .inr (8, [.ref yt, .int rT, .int rH, .int (nI G), .ref yw, .int (nI K), .ref yp, .ref yg, .int (nI M), .ref yu, .int (nI N), .ref ysl, .ref yin, .ref yse, .ref ysp, .ref ypa, .int rA, .ref yb, .ref ybd, .ref ybc, .ref yr, .int rF, .int rP, .ref ywd, .int (nI e), .int n1, .int 2, .int w1, .int p1, .int rD, .ref yd, .int rI, .int rX, .int rY, .int rZ, .int rU, .ref yro, .ref yc, .ref ybe, .ref yco, .long rC, .long rV])), (yt, .inl (g.2.1 1, 400, .inl qT)), (ywd, .inl (g.2.1 1, 77, .inl qW))] := by
  refine pz_aload_n 0 F rfl dX9_take_170 rfl ?_
  refine pz_aload_n 0 F rfl dX9_take_171 rfl ?_
  refine pz_get (ci := 8) (C := RX9) (T := TX9) (N := 42) (v := .int n1) 0 F rfl rfl pz_inX9 25 (by decide) pw_833 rfl dX9_take_172 ?_
  obtain ⟨k_1, vc⟩ := vc
  obtain ⟨h_2, vc⟩ := vc
  refine pz_callV (nA := 1) (ci := 8) (C := RX9) (T := TX9) (N := 42) (As := [.int n1]) (rest := []) (wr := [(ywd, .inl (g.2.1 1, 77, .inl qW))]) F (ctX9_isDigit _ g n1 h0 yt rT rH yw yp yg yu ysl yin yse ysp ypa rA yb ybd ybc yr rF rP ywd n1 2 w1 p1 rD yd rI rX rY rZ rU yro yc ybe yco rC rV qT G K M N e k_1 h_2) 0 rfl rfl pw_959 pw_961 pv_30 pw_8 pw_962 (by decide +kernel) (by decide) (by decide) rfl rfl (Nat.le_of_ble_eq_true rfl) [0, 1] [2] rfl rfl rfl rfl (by decide) dX9_take_175 (fun r0 w0 hp0 => ?_)
  obtain ⟨r_3, _, rfl, rfl, hq_4⟩ := hp0
  replace vc := vc r_3  hq_4
  refine pz_eq (st' := [.int r_3]) (ws' := [(ywd, .inl (g.2.1 1, 77, .inl qW)), (h0, .inr (8, [.ref yt, .int rT, .int rH, .int (nI G), .ref yw, .int (nI K), .ref yp, .ref yg, .int (nI M), .ref yu, .int (nI N), .ref ysl, .ref yin, .ref yse, .ref ysp, .ref ypa, .int rA, .ref yb, .ref ybd, .ref ybc, .ref yr, .int rF, .int rP, .ref ywd, .int (nI e), .int n1, .int 2, .int w1, .int p1, .int rD, .ref yd, .int rI, .int rX, .int rY, .int rZ, .int rU, .ref yro, .ref yc, .ref ybe, .ref yco, .long rC, .long rV])), (yt, .inl (g.2.1 1, 400, .inl qT))]) rfl rfl ?_
  refine pz_if_eq (tgt := 267) F dX9_take_178 (by decide) (fun q_5 => ?_) (fun q_5 => ?_)
  · replace vc := vc.1 q_5
    exact pz_return (w1 := [(h0, .inr (8, [.ref yt, .int rT, .int rH, .int (nI G), .ref yw, .int (nI K), .ref yp, .ref yg, .int (nI M), .ref yu, .int (nI N), .ref ysl, .ref yin, .ref yse, .ref ysp, .ref ypa, .int rA, .ref yb, .ref ybd, .ref ybc, .ref yr, .int rF, .int rP, .ref ywd, .int (nI e), .int n1, .int 2, .int w1, .int p1, .int rD, .ref yd, .int rI, .int rX, .int rY, .int rZ, .int rU, .ref yro, .ref yc, .ref ybe, .ref yco, .long rC, .long rV])), (yt, .inl (g.2.1 1, 400, .inl qT)), (ywd, .inl (g.2.1 1, 77, .inl qW))]) F Rt (by decide) (by decide) dX9_take_267 [1, 2, 0] rfl rfl vc
  · replace vc := vc.2 q_5
    refine pz_aload_n 0 F rfl dX9_take_181 rfl ?_
    refine pz_aload_n 0 F rfl dX9_take_182 rfl ?_
    refine pz_get (ci := 8) (C := RX9) (T := TX9) (N := 42) (v := .int w1) 1 F rfl rfl pz_inX9 27 (by decide) pw_835 rfl dX9_take_183 ?_
    refine pz_ldc (v := 999999) F pw_963 dX9_take_186 ?_
    refine pz_icmp_le (tgt := 198) F dX9_take_188 (by decide) (fun q_6 => ?_) (fun q_6 => ?_)
    · replace vc := vc.1 q_6
      refine pz_bipush (v := 10) F dX9_take_198 rfl ?_
      refine pz_aload_n 0 F rfl dX9_take_200 rfl ?_
      refine pz_get (ci := 8) (C := RX9) (T := TX9) (N := 42) (v := .int w1) 1 F rfl rfl pz_inX9 27 (by decide) pw_835 rfl dX9_take_201 ?_
      refine pz_imul F dX9_take_204 ?_
      refine pz_aload_n 0 F rfl dX9_take_205 rfl ?_
      refine pz_get (ci := 8) (C := RX9) (T := TX9) (N := 42) (v := .ref yt) 1 F rfl rfl pz_inX9 0 (by decide) pw_808 rfl dX9_take_206 ?_
      refine pz_aload_n 0 F rfl dX9_take_209 rfl ?_
      refine pz_get (ci := 8) (C := RX9) (T := TX9) (N := 42) (v := .int n1) 1 F rfl rfl pz_inX9 25 (by decide) pw_833 rfl dX9_take_210 ?_
      obtain ⟨h_7, vc⟩ := vc
      refine pz_iaload 2 F rfl h_7 dX9_take_213 ?_
      refine pz_iadd F dX9_take_214 ?_
      refine pz_bipush (v := 48) F dX9_take_215 rfl ?_
      refine pz_isub F dX9_take_217 ?_
      refine pz_topi (fun x_8 ex_8 => ?_)
      replace vc := vc x_8 ex_8
      refine pz_put (ws' := [(ywd, .inl (g.2.1 1, 77, .inl qW)), (h0, .inr (8, [.ref yt, .int rT, .int rH, .int (nI G), .ref yw, .int (nI K), .ref yp, .ref yg, .int (nI M), .ref yu, .int (nI N), .ref ysl, .ref yin, .ref yse, .ref ysp, .ref ypa, .int rA, .ref yb, .ref ybd, .ref ybc, .ref yr, .int rF, .int rP, .ref ywd, .int (nI e), .int n1, .int 2, .int x_8, .int p1, .int rD, .ref yd, .int rI, .int rX, .int rY, .int rZ, .int rU, .ref yro, .ref yc, .ref ybe, .ref yco, .long rC, .long rV])), (yt, .inl (g.2.1 1, 400, .inl qT))]) (ci := 8) (C := RX9) (T := TX9) (N := 42) (v := .int x_8) (ty := .int) 1 F rfl rfl pz_inX9 27 (by decide) pw_835 tyX9_ok nmX9 rfl rfl rfl rfl (Nat.le_of_ble_eq_true rfl) dX9_take_218 rfl ?_
      refine pz_aload_n 0 F rfl dX9_take_221 rfl ?_
      refine pz_dup F dX9_take_222 rfl ?_
      refine pz_get (ci := 8) (C := RX9) (T := TX9) (N := 42) (v := .int n1) 1 F rfl rfl pz_inX9 25 (by decide) pw_833 rfl dX9_take_223 ?_
      refine pz_iconst (v := 1) F dX9_take_226 rfl ?_
      refine pz_iadd F dX9_take_227 ?_
      refine pz_topi (fun x_9 ex_9 => ?_)
      replace vc := vc x_9 ex_9
      refine pz_put (ws' := [(ywd, .inl (g.2.1 1, 77, .inl qW)), (h0, .inr (8, [.ref yt, .int rT, .int rH, .int (nI G), .ref yw, .int (nI K), .ref yp, .ref yg, .int (nI M), .ref yu, .int (nI N), .ref ysl, .ref yin, .ref yse, .ref ysp, .ref ypa, .int rA, .ref yb, .ref ybd, .ref ybc, .ref yr, .int rF, .int rP, .ref ywd, .int (nI e), .int x_9, .int 2, .int x_8, .int p1, .int rD, .ref yd, .int rI, .int rX, .int rY, .int rZ, .int rU, .ref yro, .ref yc, .ref ybe, .ref yco, .long rC, .long rV])), (yt, .inl (g.2.1 1, 400, .inl qT))]) (ci := 8) (C := RX9) (T := TX9) (N := 42) (v := .int x_9) (ty := .int) 1 F rfl rfl pz_inX9 25 (by decide) pw_833 tyX9_ok nmX9 rfl rfl rfl rfl (Nat.le_of_ble_eq_true rfl) dX9_take_228 rfl ?_
      refine pz_goto (tgt := 170) F dX9_take_231 (by decide) ?_
      exact pz_sub [0] [1, 2, 0] rfl rfl rfl (hT170 x_9 p1 x_8 vc)
    · replace vc := vc.2 q_6
      refine pz_aload_n 0 F rfl dX9_take_191 rfl ?_
      refine pz_get (ci := 8) (C := RX9) (T := TX9) (N := 42) (v := .int w1) 1 F rfl rfl pz_inX9 27 (by decide) pw_835 rfl dX9_take_192 ?_
      refine pz_goto (tgt := 218) F dX9_take_195 (by decide) ?_
      refine pz_put (ws' := [(ywd, .inl (g.2.1 1, 77, .inl qW)), (h0, .inr (8, [.ref yt, .int rT, .int rH, .int (nI G), .ref yw, .int (nI K), .ref yp, .ref yg, .int (nI M), .ref yu, .int (nI N), .ref ysl, .ref yin, .ref yse, .ref ysp, .ref ypa, .int rA, .ref yb, .ref ybd, .ref ybc, .ref yr, .int rF, .int rP, .ref ywd, .int (nI e), .int n1, .int 2, .int w1, .int p1, .int rD, .ref yd, .int rI, .int rX, .int rY, .int rZ, .int rU, .ref yro, .ref yc, .ref ybe, .ref yco, .long rC, .long rV])), (yt, .inl (g.2.1 1, 400, .inl qT))]) (ci := 8) (C := RX9) (T := TX9) (N := 42) (v := .int w1) (ty := .int) 1 F rfl rfl pz_inX9 27 (by decide) pw_835 tyX9_ok nmX9 rfl rfl rfl rfl (Nat.le_of_ble_eq_true rfl) dX9_take_218 rfl ?_
      refine pz_aload_n 0 F rfl dX9_take_221 rfl ?_
      refine pz_dup F dX9_take_222 rfl ?_
      refine pz_get (ci := 8) (C := RX9) (T := TX9) (N := 42) (v := .int n1) 1 F rfl rfl pz_inX9 25 (by decide) pw_833 rfl dX9_take_223 ?_
      refine pz_iconst (v := 1) F dX9_take_226 rfl ?_
      refine pz_iadd F dX9_take_227 ?_
      refine pz_topi (fun x_10 ex_10 => ?_)
      replace vc := vc x_10 ex_10
      refine pz_put (ws' := [(ywd, .inl (g.2.1 1, 77, .inl qW)), (h0, .inr (8, [.ref yt, .int rT, .int rH, .int (nI G), .ref yw, .int (nI K), .ref yp, .ref yg, .int (nI M), .ref yu, .int (nI N), .ref ysl, .ref yin, .ref yse, .ref ysp, .ref ypa, .int rA, .ref yb, .ref ybd, .ref ybc, .ref yr, .int rF, .int rP, .ref ywd, .int (nI e), .int x_10, .int 2, .int w1, .int p1, .int rD, .ref yd, .int rI, .int rX, .int rY, .int rZ, .int rU, .ref yro, .ref yc, .ref ybe, .ref yco, .long rC, .long rV])), (yt, .inl (g.2.1 1, 400, .inl qT))]) (ci := 8) (C := RX9) (T := TX9) (N := 42) (v := .int x_10) (ty := .int) 1 F rfl rfl pz_inX9 25 (by decide) pw_833 tyX9_ok nmX9 rfl rfl rfl rfl (Nat.le_of_ble_eq_true rfl) dX9_take_228 rfl ?_
      refine pz_goto (tgt := 170) F dX9_take_231 (by decide) ?_
      exact pz_sub [0] [1, 2, 0] rfl rfl rfl (hT170 x_10 p1 w1 vc)
theorem lpX9_take_170 {B : pz_B} {g : pz_G} {wc : va_W} {Post : Option Value → va_W → Prop} (F : pz_F B cX9_take 1 none yX9_take.cls g rmX9_take) (Rt : pz_Rt B g wc Post rmX9_take) (h0 : Nat) (yt : Nat) (rT : Int32) (rH : Int32) (yw : Nat) (yp : Nat) (yg : Nat) (yu : Nat) (ysl : Nat) (yin : Nat) (yse : Nat) (ysp : Nat) (ypa : Nat) (rA : Int32) (yb : Nat) (ybd : Nat) (ybc : Nat) (yr : Nat) (rF : Int32) (rP : Int32) (ywd : Nat) (rN : Int32) (rO : Int32) (rW : Int32) (rL : Int32) (rD : Int32) (yd : Nat) (rI : Int32) (rX : Int32) (rY : Int32) (rZ : Int32) (rU : Int32) (yro : Nat) (yc : Nat) (ybe : Nat) (yco : Nat) (rC : Int64) (rV : Int64) (qT : Nat → Int32) (qW : Nat → Int32) (G : Nat) (K : Nat) (M : Nat) (N : Nat) (e : Nat) (j : Nat) (Inv : Nat → Int32 → Int32 → Int32 → Prop) (step : ∀ (mz : Nat) (n1 : Int32) (p1 : Int32) (w1 : Int32), Inv mz n1 p1 w1 → ∀ TT : Int32 → Int32 → Int32 → Prop, TT = (fun n1 p1 w1 => ∃ mz', mz' < mz ∧ Inv mz' n1 p1 w1) → ∃ k_1 : Nat, (k_1 ≤ e ∧ e ≤ 400 ∧ n1 = nI k_1) ∧ ∀ r_3 : Int32, ∀ _ : (r_3 = if k_1 < e ∧ pu_di (qT k_1) = true then 1 else 0), ((r_3 = 0 → Post none [(h0, .inr (8, [.ref yt, .int rT, .int rH, .int (nI G), .ref yw, .int (nI K), .ref yp, .ref yg, .int (nI M), .ref yu, .int (nI N), .ref ysl, .ref yin, .ref yse, .ref ysp, .ref ypa, .int rA, .ref yb, .ref ybd, .ref ybc, .ref yr, .int rF, .int rP, .ref ywd, .int (nI e), .int n1, .int 2, .int w1, .int p1, .int rD, .ref yd, .int rI, .int rX, .int rY, .int rZ, .int rU, .ref yro, .ref yc, .ref ybe, .ref yco, .long rC, .long rV])), (yt, .inl (g.2.1 1, 400, .inl qT)), (ywd, .inl (g.2.1 1, 77, .inl qW))]) ∧ (¬ r_3 = 0 → ((w1 ≤ 999999 → vp_in n1 400 ∧ ∀ x_8 : Int32, x_8 = (((10 * w1) + (qT n1.toNatClampNeg)) - 48) → ∀ x_9 : Int32, x_9 = (n1 + 1) → TT x_9 p1 x_8) ∧ (¬ w1 ≤ 999999 → ∀ x_10 : Int32, x_10 = (n1 + 1) → TT x_10 p1 w1))))) : ∀ (mz : Nat) (n1 : Int32) (p1 : Int32) (w1 : Int32), Inv mz n1 p1 w1 → paX9_take_170 B g h0 yt rT rH yw yp yg yu ysl yin yse ysp ypa rA yb ybd ybc yr rF rP ywd rN rO rW rL rD yd rI rX rY rZ rU yro yc ybe yco rC rV qT qW G K M N e j n1 p1 w1 := by
  intro mz
  induction mz using Nat.strongRecOn with
  | _ mz ih =>
    intro n1 p1 w1 hI
    exact sgX9_take_170 F Rt h0 yt rT rH yw yp yg yu ysl yin yse ysp ypa rA yb ybd ybc yr rF rP ywd rN rO rW rL rD yd rI rX rY rZ rU yro yc ybe yco rC rV qT qW G K M N e j (fun n1 p1 w1 => ∃ mz', mz' < mz ∧ Inv mz' n1 p1 w1) (fun n1 p1 w1 ⟨mz', h1, h2⟩ => ih mz' h1 n1 p1 w1 h2) n1 p1 w1 (step mz n1 p1 w1 hI _ rfl)
set_option maxHeartbeats 4000000 in
set_option maxRecDepth 100000 in
theorem ctX9_take (l : Launch) (g : pz_G) (h0 : Nat) (yt : Nat) (rT : Int32) (rH : Int32) (yw : Nat) (yp : Nat) (yg : Nat) (yu : Nat) (ysl : Nat) (yin : Nat) (yse : Nat) (ysp : Nat) (ypa : Nat) (rA : Int32) (yb : Nat) (ybd : Nat) (ybc : Nat) (yr : Nat) (rF : Int32) (rP : Int32) (ywd : Nat) (rN : Int32) (rO : Int32) (rW : Int32) (rL : Int32) (rD : Int32) (yd : Nat) (rI : Int32) (rX : Int32) (rY : Int32) (rZ : Int32) (rU : Int32) (yro : Nat) (yc : Nat) (ybe : Nat) (yco : Nat) (rC : Int64) (rV : Int64) (qT : Nat → Int32) (qW : Nat → Int32) (G : Nat) (K : Nat) (M : Nat) (N : Nat) (e : Nat) (j : Nat) (hpre : j ≤ e ∧ e ≤ 400 ∧ (∀ a, a < 77 → qW a = pz_wd.getD a 0) ∧ rN = nI j) : pz_Ct l g yX9_take cX9_take 1 none rmX9_take [.ref h0] [(h0, .inr (8, [.ref yt, .int rT, .int rH, .int (nI G), .ref yw, .int (nI K), .ref yp, .ref yg, .int (nI M), .ref yu, .int (nI N), .ref ysl, .ref yin, .ref yse, .ref ysp, .ref ypa, .int rA, .ref yb, .ref ybd, .ref ybc, .ref yr, .int rF, .int rP, .ref ywd, .int (nI e), .int rN, .int rO, .int rW, .int rL, .int rD, .ref yd, .int rI, .int rX, .int rY, .int rZ, .int rU, .ref yro, .ref yc, .ref ybe, .ref yco, .long rC, .long rV])), (yt, .inl (g.2.1 1, 400, .inl qT)), (ywd, .inl (g.2.1 1, 77, .inl qW))] (pz_pv (fun (u : Unit) => True) (fun (u : Unit) => [(h0, .inr (8, [.ref yt, .int rT, .int rH, .int (nI G), .ref yw, .int (nI K), .ref yp, .ref yg, .int (nI M), .ref yu, .int (nI N), .ref ysl, .ref yin, .ref yse, .ref ysp, .ref ypa, .int rA, .ref yb, .ref ybd, .ref ybc, .ref yr, .int rF, .int rP, .ref ywd, .int (nI e), .int (nI (tk_e (rt_c qT e) e j)), .int (rt_k (rt_c qT e) e j), .int (rt_h (rt_c qT e) e j rW), .int (nI (tk_s (rt_c qT e) e j)), .int rD, .ref yd, .int rI, .int rX, .int rY, .int rZ, .int rU, .ref yro, .ref yc, .ref ybe, .ref yco, .long rC, .long rV])), (yt, .inl (g.2.1 1, 400, .inl qT)), (ywd, .inl (g.2.1 1, 77, .inl qW))])) := by
  refine pz_ofAt (by decide +kernel) (Nat.le_of_ble_eq_true rfl) (fun B F Rt hme => ?_)
  obtain ⟨hj, he, hW, h1⟩ := hpre
  subst h1
  have hct : ∀ i, i < e → (rt_c qT e) i = qT i := fun i hi => by unfold rt_c; rw [if_pos hi]
  have hs := tk_s_in (c := (rt_c qT e)) hj
  have h170 : tk_s (rt_c qT e) e j < e → pu_le ((rt_c qT e) (tk_s (rt_c qT e) e j)) = false → pu_di ((rt_c qT e) (tk_s (rt_c qT e) e j)) = true → ∀ (z : Nat) (n1 p1 w1 : Int32), (p1 = nI (tk_s (rt_c qT e) e j) ∧ ∃ i, i + z = e ∧ tk_s (rt_c qT e) e j ≤ i ∧ n1 = nI i ∧ (∀ a, tk_s (rt_c qT e) e j ≤ a → a < i → pu_di ((rt_c qT e) a) = true) ∧ w1 = rt_n0 (rt_c qT e) (tk_s (rt_c qT e) e j) (i - tk_s (rt_c qT e) e j)) → paX9_take_170 B g h0 yt rT rH yw yp yg yu ysl yin yse ysp ypa rA yb ybd ybc yr rF rP ywd (nI j) rO rW rL rD yd rI rX rY rZ rU yro yc ybe yco rC rV qT qW G K M N e j n1 p1 w1 := fun hse hle hdi => lpX9_take_170 F Rt h0 yt rT rH yw yp yg yu ysl yin yse ysp ypa rA yb ybd ybc yr rF rP ywd (nI j) rO rW rL rD yd rI rX rY rZ rU yro yc ybe yco rC rV qT qW G K M N e j (fun z n1 p1 w1 => p1 = nI (tk_s (rt_c qT e) e j) ∧ ∃ i, i + z = e ∧ tk_s (rt_c qT e) e j ≤ i ∧ n1 = nI i ∧ (∀ a, tk_s (rt_c qT e) e j ≤ a → a < i → pu_di ((rt_c qT e) a) = true) ∧ w1 = rt_n0 (rt_c qT e) (tk_s (rt_c qT e) e j) (i - tk_s (rt_c qT e) e j)) (by
    rintro z n1 p1 w1 ⟨rfl, i, hi, hsi, rfl, hd, rfl⟩ TT rfl
    have ek : tk_k (rt_c qT e) e j = 2 := by unfold tk_k; rw [if_pos hse, if_neg (by rw [hle]; decide), if_pos hdi]
    refine ⟨i, ⟨by omega, he, rfl⟩, fun r hr => ⟨fun q => ?_, fun q => ?_⟩⟩
    · have hno : ¬ (i < e ∧ pu_di (qT i) = true) := by
        intro h
        rw [if_pos h] at hr
        rw [hr] at q
        exact absurd q (by decide)
      have hsc : pu_scan pu_di (rt_c qT e) (tk_s (rt_c qT e) e j) e i := by
        refine ⟨hsi, by omega, hd, fun h => ?_⟩
        cases hc : pu_di ((rt_c qT e) i)
        · rfl
        · rw [hct i h] at hc
          exact absurd ⟨h, hc⟩ hno
      have ei : tk_e (rt_c qT e) e j = i := by
        unfold tk_e
        rw [if_pos hse, if_neg (by rw [hle]; decide), if_pos hdi]
        exact (pu_sc_of hsc).symm
      refine ⟨(), rfl, ?_, trivial⟩
      unfold rt_k rt_h rt_n
      rw [ek, ei, if_neg (by decide), if_neg (by decide), if_pos rfl]
    · have hyes : i < e ∧ pu_di (qT i) = true := by
        apply Classical.byContradiction
        intro h
        rw [if_neg h] at hr
        exact q hr
      have hdi2 : ∀ a, tk_s (rt_c qT e) e j ≤ a → a < i + 1 → pu_di ((rt_c qT e) a) = true := by
        intro a h1 h2
        by_cases ee : a = i
        · rw [ee, hct i hyes.1]; exact hyes.2
        · exact hd a h1 (by omega)
      have hstep : rt_n0 (rt_c qT e) (tk_s (rt_c qT e) e j) (i + 1 - tk_s (rt_c qT e) e j) = if (999999 : Int32) < rt_n0 (rt_c qT e) (tk_s (rt_c qT e) e j) (i - tk_s (rt_c qT e) e j) then rt_n0 (rt_c qT e) (tk_s (rt_c qT e) e j) (i - tk_s (rt_c qT e) e j) else 10 * rt_n0 (rt_c qT e) (tk_s (rt_c qT e) e j) (i - tk_s (rt_c qT e) e j) + qT i - 48 := by
        rw [show i + 1 - tk_s (rt_c qT e) e j = (i - tk_s (rt_c qT e) e j) + 1 by omega, rt_n0, show tk_s (rt_c qT e) e j + (i - tk_s (rt_c qT e) e j) = i by omega, hct i hyes.1]
      refine ⟨fun q2 => ?_, fun q2 => ?_⟩
      · rw [nI_clamp (by omega)]
        refine ⟨vp_in_nI (by omega) (by omega), ?_⟩
        rintro x rfl y rfl
        exact ⟨z - 1, by omega, rfl, i + 1, by omega, by omega, nI_1 i, hdi2, by rw [hstep, if_neg (Int32.not_lt.mpr q2)]⟩
      · rintro y rfl
        exact ⟨z - 1, by omega, rfl, i + 1, by omega, by omega, nI_1 i, hdi2, by rw [hstep, if_pos (Int32.not_le.mp q2)]⟩)
  have h90 : tk_s (rt_c qT e) e j < e → pu_le ((rt_c qT e) (tk_s (rt_c qT e) e j)) = true → ∀ (z : Nat) (n1 p1 : Int32), (p1 = nI (tk_s (rt_c qT e) e j) ∧ ∃ i, i + z = e ∧ tk_s (rt_c qT e) e j ≤ i ∧ n1 = nI i ∧ (∀ a, tk_s (rt_c qT e) e j ≤ a → a < i → pu_le ((rt_c qT e) a) = true)) → paX9_take_90 B g h0 yt rT rH yw yp yg yu ysl yin yse ysp ypa rA yb ybd ybc yr rF rP ywd (nI j) rO rW rL rD yd rI rX rY rZ rU yro yc ybe yco rC rV qT qW G K M N e j n1 p1 := fun hse hle => lpX9_take_90 F Rt h0 yt rT rH yw yp yg yu ysl yin yse ysp ypa rA yb ybd ybc yr rF rP ywd (nI j) rO rW rL rD yd rI rX rY rZ rU yro yc ybe yco rC rV qT qW G K M N e j (fun z n1 p1 => p1 = nI (tk_s (rt_c qT e) e j) ∧ ∃ i, i + z = e ∧ tk_s (rt_c qT e) e j ≤ i ∧ n1 = nI i ∧ (∀ a, tk_s (rt_c qT e) e j ≤ a → a < i → pu_le ((rt_c qT e) a) = true)) (by
    rintro z n1 p1 ⟨rfl, i, hi, hsi, rfl, hd⟩ TT rfl
    have ek : tk_k (rt_c qT e) e j = 1 := by unfold tk_k; rw [if_pos hse, if_pos hle]
    refine ⟨i, ⟨by omega, he, rfl⟩, fun r hr => ⟨fun q => ?_, fun q => ?_⟩⟩
    · have hno : ¬ (i < e ∧ pu_le (qT i) = true) := by
        intro h
        rw [if_pos h] at hr
        rw [hr] at q
        exact absurd q (by decide)
      have hsc : pu_scan pu_le (rt_c qT e) (tk_s (rt_c qT e) e j) e i := by
        refine ⟨hsi, by omega, hd, fun h => ?_⟩
        cases hc : pu_le ((rt_c qT e) i)
        · rfl
        · rw [hct i h] at hc
          exact absurd ⟨h, hc⟩ hno
      have ei : tk_e (rt_c qT e) e j = i := by
        unfold tk_e
        rw [if_pos hse, if_pos hle]
        exact (pu_sc_of hsc).symm
      refine ⟨tk_s (rt_c qT e) e j, i, ⟨hsi, by omega, he, hW, rfl, rfl⟩, fun w hw => ⟨fun q2 => ⟨(), rfl, ?_, trivial⟩, fun q2 => ⟨(), rfl, ?_, trivial⟩⟩⟩
      · have ew : rt_w (rt_c qT e) e j = w := by unfold rt_w; rw [ei, hw]
        unfold rt_k rt_h
        rw [ek, ei, if_pos rfl, if_pos rfl, ew, if_neg (Int32.not_lt.mpr q2)]
      · have ew : rt_w (rt_c qT e) e j = w := by unfold rt_w; rw [ei, hw]
        unfold rt_k rt_h
        rw [ek, ei, if_pos rfl, if_pos rfl, ew, if_pos (Int32.not_le.mp q2)]
    · have hyes : i < e ∧ pu_le (qT i) = true := by
        apply Classical.byContradiction
        intro h
        rw [if_neg h] at hr
        exact q hr
      rintro y rfl
      refine ⟨z - 1, by omega, rfl, i + 1, by omega, by omega, nI_1 i, fun a h1 h2 => ?_⟩
      by_cases ee : a = i
      · rw [ee, hct i hyes.1]; exact hyes.2
      · exact hd a h1 (by omega))
  have h52 : paX9_take_52 B g h0 yt rT rH yw yp yg yu ysl yin yse ysp ypa rA yb ybd ybc yr rF rP ywd (nI j) rO rW rL rD yd rI rX rY rZ rU yro yc ybe yco rC rV qT qW G K M N e j (nI (tk_s (rt_c qT e) e j)) := by
    refine sgX9_take_52 F Rt h0 yt rT rH yw yp yg yu ysl yin yse ysp ypa rA yb ybd ybc yr rF rP ywd (nI j) rO rW rL rD yd rI rX rY rZ rU yro yc ybe yco rC rV qT qW G K M N e j (fun n1 p1 => tk_s (rt_c qT e) e j < e ∧ pu_le ((rt_c qT e) (tk_s (rt_c qT e) e j)) = true ∧ (p1 = nI (tk_s (rt_c qT e) e j) ∧ ∃ i, i + (e - tk_s (rt_c qT e) e j) = e ∧ tk_s (rt_c qT e) e j ≤ i ∧ n1 = nI i ∧ (∀ a, tk_s (rt_c qT e) e j ≤ a → a < i → pu_le ((rt_c qT e) a) = true))) (fun n1 p1 h => h90 h.1 h.2.1 _ n1 p1 h.2.2) (fun n1 p1 w1 => tk_s (rt_c qT e) e j < e ∧ pu_le ((rt_c qT e) (tk_s (rt_c qT e) e j)) = false ∧ pu_di ((rt_c qT e) (tk_s (rt_c qT e) e j)) = true ∧ (p1 = nI (tk_s (rt_c qT e) e j) ∧ ∃ i, i + (e - tk_s (rt_c qT e) e j) = e ∧ tk_s (rt_c qT e) e j ≤ i ∧ n1 = nI i ∧ (∀ a, tk_s (rt_c qT e) e j ≤ a → a < i → pu_di ((rt_c qT e) a) = true) ∧ w1 = rt_n0 (rt_c qT e) (tk_s (rt_c qT e) e j) (i - tk_s (rt_c qT e) e j))) (fun n1 p1 w1 h => h170 h.1 h.2.1 h.2.2.1 _ n1 p1 w1 h.2.2.2) _ ?_
    have fl : ∀ {P : Int32 → Bool} {r : Int32}, tk_s (rt_c qT e) e j < e → (r = if tk_s (rt_c qT e) e j < e ∧ P (qT (tk_s (rt_c qT e) e j)) = true then 1 else 0) → r = 0 → P ((rt_c qT e) (tk_s (rt_c qT e) e j)) = false := by
      intro P r h1 h2 h3
      rw [hct _ h1]
      cases hc : P (qT (tk_s (rt_c qT e) e j))
      · rfl
      · rw [if_pos ⟨h1, hc⟩] at h2
        rw [h2] at h3
        exact absurd h3 (by decide)
    have tr : ∀ {P : Int32 → Bool} {r : Int32}, tk_s (rt_c qT e) e j < e → (r = if tk_s (rt_c qT e) e j < e ∧ P (qT (tk_s (rt_c qT e) e j)) = true then 1 else 0) → ¬ r = 0 → P ((rt_c qT e) (tk_s (rt_c qT e) e j)) = true := by
      intro P r h1 h2 h3
      rw [hct _ h1]
      cases hc : P (qT (tk_s (rt_c qT e) e j))
      · rw [if_neg (fun h => by rw [hc] at h; exact absurd h.2 (by decide))] at h2
        exact absurd h2 h3
      · rfl
    refine ⟨fun q => ?_, fun q => ?_⟩
    · have hie : tk_s (rt_c qT e) e j < e := by
        rcases Nat.lt_or_ge (tk_s (rt_c qT e) e j) e with h | h
        · exact h
        · exact absurd (congrArg nI (show tk_s (rt_c qT e) e j = e by omega)) q
      refine ⟨tk_s (rt_c qT e) e j, ⟨by omega, he, rfl⟩, fun r hr => ⟨fun q2 => ⟨tk_s (rt_c qT e) e j, ⟨by omega, he, rfl⟩, fun r2 hr2 => ⟨fun q3 => ?_, fun q3 => ?_⟩⟩, fun q2 => ?_⟩⟩
      · have hle : pu_le ((rt_c qT e) (tk_s (rt_c qT e) e j)) = false := fl hie hr q2
        have hdi : pu_di ((rt_c qT e) (tk_s (rt_c qT e) e j)) = false := fl hie hr2 q3
        have ee : tk_e (rt_c qT e) e j = tk_s (rt_c qT e) e j + 1 := by unfold tk_e; rw [if_pos hie, if_neg (by rw [hle]; decide), if_neg (by rw [hdi]; decide)]
        rw [nI_clamp (by omega), ← hct _ hie]
        refine ⟨vp_in_nI (by omega) (by omega), fun q4 => ?_, fun q4 => ?_⟩
        · have ek : tk_k (rt_c qT e) e j = 4 := by unfold tk_k; rw [if_pos hie, if_neg (by rw [hle]; decide), if_neg (by rw [hdi]; decide), if_neg q4]
          rintro x rfl
          refine ⟨(), rfl, ?_, trivial⟩
          unfold rt_k rt_h
          rw [ek, ee, if_neg (by decide), if_neg (by decide), if_neg (by decide), nI_1]
        · have ek : tk_k (rt_c qT e) e j = 3 := by unfold tk_k; rw [if_pos hie, if_neg (by rw [hle]; decide), if_neg (by rw [hdi]; decide), if_pos q4]
          rintro x rfl
          refine ⟨(), rfl, ?_, trivial⟩
          unfold rt_k rt_h
          rw [ek, ee, if_neg (by decide), if_neg (by decide), if_neg (by decide), nI_1]
      · have hle : pu_le ((rt_c qT e) (tk_s (rt_c qT e) e j)) = false := fl hie hr q2
        have hdi : pu_di ((rt_c qT e) (tk_s (rt_c qT e) e j)) = true := tr hie hr2 q3
        exact ⟨hie, hle, hdi, rfl, tk_s (rt_c qT e) e j, by omega, by omega, rfl, fun a h1 h2 => absurd h2 (by omega), by rw [Nat.sub_self]; rfl⟩
      · have hle : pu_le ((rt_c qT e) (tk_s (rt_c qT e) e j)) = true := tr hie hr q2
        exact ⟨hie, hle, rfl, tk_s (rt_c qT e) e j, by omega, by omega, rfl, fun a h1 h2 => absurd h2 (by omega)⟩
    · have hie : tk_s (rt_c qT e) e j = e := (nI_eq (by omega) (by omega)).mp q
      have ek : tk_k (rt_c qT e) e j = 0 := by unfold tk_k; rw [if_neg (by omega)]
      have ee : tk_e (rt_c qT e) e j = tk_s (rt_c qT e) e j := by unfold tk_e; rw [if_neg (by omega)]
      refine ⟨(), rfl, ?_, trivial⟩
      unfold rt_k rt_h
      rw [ek, ee, if_neg (by decide), if_neg (by decide), if_neg (by decide)]
  refine lpX9_take_0 F Rt h0 yt rT rH yw yp yg yu ysl yin yse ysp ypa rA yb ybd ybc yr rF rP ywd (nI j) rO rW rL rD yd rI rX rY rZ rU yro yc ybe yco rC rV qT qW G K M N e j (fun n1 => n1 = nI (tk_s (rt_c qT e) e j)) (fun n1 h => by rw [h]; exact h52) (fun z n1 => ∃ i, i + z = e ∧ j ≤ i ∧ n1 = nI i ∧ (∀ a, j ≤ a → a < i → pu_bl ((rt_c qT e) a) = true)) ?_ (e - j) (nI j) ⟨j, by omega, by omega, rfl, fun a h1 h2 => absurd h2 (by omega)⟩
  rintro z n1 ⟨i, hi, hji, rfl, hd⟩ TT rfl
  have go : pu_bl ((rt_c qT e) i) = true → i < e → ∀ x : Int32, x = nI i + 1 → ∃ mz', mz' < z ∧ ∃ i, i + mz' = e ∧ j ≤ i ∧ x = nI i ∧ (∀ a, j ≤ a → a < i → pu_bl ((rt_c qT e) a) = true) := by
    rintro hb hie x rfl
    refine ⟨z - 1, by omega, i + 1, by omega, by omega, nI_1 i, fun a h1 h2 => ?_⟩
    by_cases ee : a = i
    · rw [ee]; exact hb
    · exact hd a h1 (by omega)
  refine ⟨fun q => ?_, fun q => ?_⟩
  · have h1 := pu_ge (by omega) q
    exact congrArg nI (pu_sc_of (P := pu_bl) ⟨hji, by omega, hd, fun h => absurd h (by omega)⟩)
  · have h1 := pu_lt (by omega) (by omega) q
    rw [nI_clamp (by omega), ← hct i h1]
    refine ⟨vp_in_nI (by omega) (by omega), fun q2 => go (by unfold pu_bl; rw [q2]; decide) h1, fun q2 => ⟨vp_in_nI (by omega) (by omega), fun q3 => ?_, fun q3 => go (by unfold pu_bl; rw [q3]; decide) h1⟩⟩
    refine congrArg nI (pu_sc_of (P := pu_bl) ⟨hji, by omega, hd, fun _ => ?_⟩)
    unfold pu_bl
    rw [decide_eq_false q2, decide_eq_false q3]
    rfl
