theorem wo_le (k : Nat) : wo_off k ≤ 77 := by
  rcases Nat.lt_or_ge k 13 with h | h
  · have := (wo_f2 h).2.2
    omega
  · unfold wo_off
    rcases Nat.eq_or_lt_of_le h with e | e
    · rw [← e]; decide
    · rw [List.getD_eq_getElem?_getD, List.getElem?_eq_none (by simp; omega)]; decide
abbrev rmX9_isSmall : Room := { frames := 0, cells := 0, slots := 0, locals := 0 }
set_option maxHeartbeats 4000000 in
set_option maxRecDepth 100000 in
theorem sgX9_isSmall_0 {B : pz_B} {g : pz_G} {wc : va_W} {Post : Option Value → va_W → Prop} (F : pz_F B cX9_isSmall 2 (some .boolean) yX9_isSmall.cls g rmX9_isSmall) (Rt : pz_Rt B g wc Post rmX9_isSmall) (x : Int32) (h0 : Nat) (yt : Nat) (rT : Int32) (rH : Int32) (yw : Nat) (yp : Nat) (yg : Nat) (yu : Nat) (ysl : Nat) (yin : Nat) (yse : Nat) (ysp : Nat) (ypa : Nat) (rA : Int32) (yb : Nat) (ybd : Nat) (ybc : Nat) (yr : Nat) (rF : Int32) (rP : Int32) (ywd : Nat) (rN : Int32) (rO : Int32) (rW : Int32) (rL : Int32) (rD : Int32) (yd : Nat) (rI : Int32) (rX : Int32) (rY : Int32) (rZ : Int32) (rU : Int32) (yro : Nat) (yc : Nat) (ybe : Nat) (yco : Nat) (rC : Int64) (rV : Int64) (qT : Nat → Int32) (G : Nat) (K : Nat) (M : Nat) (N : Nat) (e : Nat) (k : Nat)  (vc : (((nI e) ≤ x → Post (some (.int 0)) [(h0, .inr (8, [.ref yt, .int rT, .int rH, .int (nI G), .ref yw, .int (nI K), .ref yp, .ref yg, .int (nI M), .ref yu, .int (nI N), .ref ysl, .ref yin, .ref yse, .ref ysp, .ref ypa, .int rA, .ref yb, .ref ybd, .ref ybc, .ref yr, .int rF, .int rP, .ref ywd, .int (nI e), .int rN, .int rO, .int rW, .int rL, .int rD, .ref yd, .int rI, .int rX, .int rY, .int rZ, .int rU, .ref yro, .ref yc, .ref ybe, .ref yco, .long rC, .long rV])), (yt, .inl (g.2.1 1, 400, .inl qT))]) ∧ (¬ (nI e) ≤ x → vp_in x 400 ∧ (((qT x.toNatClampNeg) < 97 → Post (some (.int 0)) [(h0, .inr (8, [.ref yt, .int rT, .int rH, .int (nI G), .ref yw, .int (nI K), .ref yp, .ref yg, .int (nI M), .ref yu, .int (nI N), .ref ysl, .ref yin, .ref yse, .ref ysp, .ref ypa, .int rA, .ref yb, .ref ybd, .ref ybc, .ref yr, .int rF, .int rP, .ref ywd, .int (nI e), .int rN, .int rO, .int rW, .int rL, .int rD, .ref yd, .int rI, .int rX, .int rY, .int rZ, .int rU, .ref yro, .ref yc, .ref ybe, .ref yco, .long rC, .long rV])), (yt, .inl (g.2.1 1, 400, .inl qT))]) ∧ (¬ (qT x.toNatClampNeg) < 97 → vp_in x 400 ∧ (((122 : Int32) < (qT x.toNatClampNeg) → Post (some (.int 0)) [(h0, .inr (8, [.ref yt, .int rT, .int rH, .int (nI G), .ref yw, .int (nI K), .ref yp, .ref yg, .int (nI M), .ref yu, .int (nI N), .ref ysl, .ref yin, .ref yse, .ref ysp, .ref ypa, .int rA, .ref yb, .ref ybd, .ref ybc, .ref yr, .int rF, .int rP, .ref ywd, .int (nI e), .int rN, .int rO, .int rW, .int rL, .int rD, .ref yd, .int rI, .int rX, .int rY, .int rZ, .int rU, .ref yro, .ref yc, .ref ybe, .ref yco, .long rC, .long rV])), (yt, .inl (g.2.1 1, 400, .inl qT))]) ∧ (¬ (122 : Int32) < (qT x.toNatClampNeg) → Post (some (.int 1)) [(h0, .inr (8, [.ref yt, .int rT, .int rH, .int (nI G), .ref yw, .int (nI K), .ref yp, .ref yg, .int (nI M), .ref yu, .int (nI N), .ref ysl, .ref yin, .ref yse, .ref ysp, .ref ypa, .int rA, .ref yb, .ref ybd, .ref ybc, .ref yr, .int rF, .int rP, .ref ywd, .int (nI e), .int rN, .int rO, .int rW, .int rL, .int rD, .ref yd, .int rI, .int rX, .int rY, .int rZ, .int rU, .ref yro, .ref yc, .ref ybe, .ref yco, .long rC, .long rV])), (yt, .inl (g.2.1 1, 400, .inl qT))]))))))) : pz_At B 0 0 0 [(0, .ref h0), (1, .int x)] [] [(h0, .inr (8, [.ref yt, .int rT, .int rH, .int (nI G), .ref yw, .int (nI K), .ref yp, .ref yg, .int (nI M), .ref yu, .int (nI N), .ref ysl, .ref yin, .ref yse, .ref ysp, .ref ypa, .int rA, .ref yb, .ref ybd, .ref ybc, .ref yr, .int rF, .int rP, .ref ywd, .int (nI e), .int rN, .int rO, .int rW, .int rL, .int rD, .ref yd, .int rI, .int rX, .int rY, .int rZ, .int rU, .ref yro, .ref yc, .ref ybe, .ref yco, .long rC, .long rV])), (yt, .inl (g.2.1 1, 400, .inl qT))] := by
  refine pz_iload_n 1 F rfl dX9_isSmall_0 rfl ?_
  refine pz_aload_n 0 F rfl dX9_isSmall_1 rfl ?_
  refine pz_get (ci := 8) (C := RX9) (T := TX9) (N := 42) (v := .int (nI e)) 0 F rfl rfl pz_inX9 24 (by decide) pw_832 rfl dX9_isSmall_2 ?_
  refine pz_icmp_ge (tgt := 34) F dX9_isSmall_5 (by decide) (fun q_1 => ?_) (fun q_1 => ?_)
  · replace vc := vc.1 q_1
    refine pz_iconst (v := 0) F dX9_isSmall_34 rfl ?_
    exact pz_ireturn (w1 := [(h0, .inr (8, [.ref yt, .int rT, .int rH, .int (nI G), .ref yw, .int (nI K), .ref yp, .ref yg, .int (nI M), .ref yu, .int (nI N), .ref ysl, .ref yin, .ref yse, .ref ysp, .ref ypa, .int rA, .ref yb, .ref ybd, .ref ybc, .ref yr, .int rF, .int rP, .ref ywd, .int (nI e), .int rN, .int rO, .int rW, .int rL, .int rD, .ref yd, .int rI, .int rX, .int rY, .int rZ, .int rU, .ref yro, .ref yc, .ref ybe, .ref yco, .long rC, .long rV])), (yt, .inl (g.2.1 1, 400, .inl qT))]) F Rt (by decide) (by decide) dX9_isSmall_35 [0, 1] rfl rfl rfl vc
  · replace vc := vc.2 q_1
    refine pz_aload_n 0 F rfl dX9_isSmall_8 rfl ?_
    refine pz_get (ci := 8) (C := RX9) (T := TX9) (N := 42) (v := .ref yt) 0 F rfl rfl pz_inX9 0 (by decide) pw_808 rfl dX9_isSmall_9 ?_
    refine pz_iload_n 1 F rfl dX9_isSmall_12 rfl ?_
    obtain ⟨h_2, vc⟩ := vc
    refine pz_iaload 1 F rfl h_2 dX9_isSmall_13 ?_
    refine pz_bipush (v := 97) F dX9_isSmall_14 rfl ?_
    refine pz_icmp_lt (tgt := 34) F dX9_isSmall_16 (by decide) (fun q_3 => ?_) (fun q_3 => ?_)
    · replace vc := vc.1 q_3
      refine pz_iconst (v := 0) F dX9_isSmall_34 rfl ?_
      exact pz_ireturn (w1 := [(h0, .inr (8, [.ref yt, .int rT, .int rH, .int (nI G), .ref yw, .int (nI K), .ref yp, .ref yg, .int (nI M), .ref yu, .int (nI N), .ref ysl, .ref yin, .ref yse, .ref ysp, .ref ypa, .int rA, .ref yb, .ref ybd, .ref ybc, .ref yr, .int rF, .int rP, .ref ywd, .int (nI e), .int rN, .int rO, .int rW, .int rL, .int rD, .ref yd, .int rI, .int rX, .int rY, .int rZ, .int rU, .ref yro, .ref yc, .ref ybe, .ref yco, .long rC, .long rV])), (yt, .inl (g.2.1 1, 400, .inl qT))]) F Rt (by decide) (by decide) dX9_isSmall_35 [0, 1] rfl rfl rfl vc
    · replace vc := vc.2 q_3
      refine pz_aload_n 0 F rfl dX9_isSmall_19 rfl ?_
      refine pz_get (ci := 8) (C := RX9) (T := TX9) (N := 42) (v := .ref yt) 0 F rfl rfl pz_inX9 0 (by decide) pw_808 rfl dX9_isSmall_20 ?_
      refine pz_iload_n 1 F rfl dX9_isSmall_23 rfl ?_
      obtain ⟨h_4, vc⟩ := vc
      refine pz_iaload 1 F rfl h_4 dX9_isSmall_24 ?_
      refine pz_bipush (v := 122) F dX9_isSmall_25 rfl ?_
      refine pz_icmp_gt (tgt := 34) F dX9_isSmall_27 (by decide) (fun q_5 => ?_) (fun q_5 => ?_)
      · replace vc := vc.1 q_5
        refine pz_iconst (v := 0) F dX9_isSmall_34 rfl ?_
        exact pz_ireturn (w1 := [(h0, .inr (8, [.ref yt, .int rT, .int rH, .int (nI G), .ref yw, .int (nI K), .ref yp, .ref yg, .int (nI M), .ref yu, .int (nI N), .ref ysl, .ref yin, .ref yse, .ref ysp, .ref ypa, .int rA, .ref yb, .ref ybd, .ref ybc, .ref yr, .int rF, .int rP, .ref ywd, .int (nI e), .int rN, .int rO, .int rW, .int rL, .int rD, .ref yd, .int rI, .int rX, .int rY, .int rZ, .int rU, .ref yro, .ref yc, .ref ybe, .ref yco, .long rC, .long rV])), (yt, .inl (g.2.1 1, 400, .inl qT))]) F Rt (by decide) (by decide) dX9_isSmall_35 [0, 1] rfl rfl rfl vc
      · replace vc := vc.2 q_5
        refine pz_iconst (v := 1) F dX9_isSmall_30 rfl ?_
        refine pz_goto (tgt := 35) F dX9_isSmall_31 (by decide) ?_
        exact pz_ireturn (w1 := [(h0, .inr (8, [.ref yt, .int rT, .int rH, .int (nI G), .ref yw, .int (nI K), .ref yp, .ref yg, .int (nI M), .ref yu, .int (nI N), .ref ysl, .ref yin, .ref yse, .ref ysp, .ref ypa, .int rA, .ref yb, .ref ybd, .ref ybc, .ref yr, .int rF, .int rP, .ref ywd, .int (nI e), .int rN, .int rO, .int rW, .int rL, .int rD, .ref yd, .int rI, .int rX, .int rY, .int rZ, .int rU, .ref yro, .ref yc, .ref ybe, .ref yco, .long rC, .long rV])), (yt, .inl (g.2.1 1, 400, .inl qT))]) F Rt (by decide) (by decide) dX9_isSmall_35 [0, 1] rfl rfl rfl vc
set_option maxHeartbeats 4000000 in
set_option maxRecDepth 100000 in
theorem ctX9_isSmall (l : Launch) (g : pz_G) (x : Int32) (h0 : Nat) (yt : Nat) (rT : Int32) (rH : Int32) (yw : Nat) (yp : Nat) (yg : Nat) (yu : Nat) (ysl : Nat) (yin : Nat) (yse : Nat) (ysp : Nat) (ypa : Nat) (rA : Int32) (yb : Nat) (ybd : Nat) (ybc : Nat) (yr : Nat) (rF : Int32) (rP : Int32) (ywd : Nat) (rN : Int32) (rO : Int32) (rW : Int32) (rL : Int32) (rD : Int32) (yd : Nat) (rI : Int32) (rX : Int32) (rY : Int32) (rZ : Int32) (rU : Int32) (yro : Nat) (yc : Nat) (ybe : Nat) (yco : Nat) (rC : Int64) (rV : Int64) (qT : Nat → Int32) (G : Nat) (K : Nat) (M : Nat) (N : Nat) (e : Nat) (k : Nat) (hpre : k ≤ e ∧ e ≤ 400 ∧ x = nI k) : pz_Ct l g yX9_isSmall cX9_isSmall 2 (some .boolean) rmX9_isSmall [.ref h0, .int x] [(h0, .inr (8, [.ref yt, .int rT, .int rH, .int (nI G), .ref yw, .int (nI K), .ref yp, .ref yg, .int (nI M), .ref yu, .int (nI N), .ref ysl, .ref yin, .ref yse, .ref ysp, .ref ypa, .int rA, .ref yb, .ref ybd, .ref ybc, .ref yr, .int rF, .int rP, .ref ywd, .int (nI e), .int rN, .int rO, .int rW, .int rL, .int rD, .ref yd, .int rI, .int rX, .int rY, .int rZ, .int rU, .ref yro, .ref yc, .ref ybe, .ref yco, .long rC, .long rV])), (yt, .inl (g.2.1 1, 400, .inl qT))] (pz_pi (fun (r : Int32) (u : Unit) => r = if k < e ∧ pu_le (qT k) = true then 1 else 0) (fun (u : Unit) => [(h0, .inr (8, [.ref yt, .int rT, .int rH, .int (nI G), .ref yw, .int (nI K), .ref yp, .ref yg, .int (nI M), .ref yu, .int (nI N), .ref ysl, .ref yin, .ref yse, .ref ysp, .ref ypa, .int rA, .ref yb, .ref ybd, .ref ybc, .ref yr, .int rF, .int rP, .ref ywd, .int (nI e), .int rN, .int rO, .int rW, .int rL, .int rD, .ref yd, .int rI, .int rX, .int rY, .int rZ, .int rU, .ref yro, .ref yc, .ref ybe, .ref yco, .long rC, .long rV])), (yt, .inl (g.2.1 1, 400, .inl qT))])) := by
  refine pz_ofAt (by decide +kernel) (Nat.le_of_ble_eq_true rfl) (fun B F Rt hme => ?_)
  obtain ⟨hk, he, hx⟩ := hpre
  subst hx
  refine sgX9_isSmall_0 F Rt (nI k) h0 yt rT rH yw yp yg yu ysl yin yse ysp ypa rA yb ybd ybc yr rF rP ywd rN rO rW rL rD yd rI rX rY rZ rU yro yc ybe yco rC rV qT G K M N e k ?_
  clear F Rt hme
  rw [nI_clamp (by omega)]
  refine ⟨fun q => ?_, fun q => ?_⟩
  · have h1 := pu_ge (by omega) q
    exact ⟨_, (), rfl, rfl, by rw [if_neg (fun h => absurd h.1 (by omega))]⟩
  · have h1 := pu_lt (by omega) (by omega) q
    have hin : vp_in (nI k) 400 := vp_in_nI (by omega) (by omega)
    refine ⟨hin, fun q2 => ⟨_, (), rfl, rfl, ?_⟩, fun q2 => ⟨hin, fun q3 => ⟨_, (), rfl, rfl, ?_⟩, fun q3 => ⟨_, (), rfl, rfl, ?_⟩⟩⟩
    · rw [if_neg]; simp only [pu_le, Bool.and_eq_true, decide_eq_true_eq]; exact fun h => absurd q2 (Int32.not_lt.mpr h.2.1)
    · rw [if_neg]; simp only [pu_le, Bool.and_eq_true, decide_eq_true_eq]; exact fun h => absurd q3 (Int32.not_lt.mpr h.2.2)
    · rw [if_pos]; simp only [pu_le, Bool.and_eq_true, decide_eq_true_eq]; exact ⟨h1, Int32.not_lt.mp q2, Int32.not_lt.mp q3⟩
abbrev rmX9_isDigit : Room := { frames := 0, cells := 0, slots := 0, locals := 0 }
set_option maxHeartbeats 4000000 in
set_option maxRecDepth 100000 in
theorem sgX9_isDigit_0 {B : pz_B} {g : pz_G} {wc : va_W} {Post : Option Value → va_W → Prop} (F : pz_F B cX9_isDigit 2 (some .boolean) yX9_isDigit.cls g rmX9_isDigit) (Rt : pz_Rt B g wc Post rmX9_isDigit) (x : Int32) (h0 : Nat) (yt : Nat) (rT : Int32) (rH : Int32) (yw : Nat) (yp : Nat) (yg : Nat) (yu : Nat) (ysl : Nat) (yin : Nat) (yse : Nat) (ysp : Nat) (ypa : Nat) (rA : Int32) (yb : Nat) (ybd : Nat) (ybc : Nat) (yr : Nat) (rF : Int32) (rP : Int32) (ywd : Nat) (rN : Int32) (rO : Int32) (rW : Int32) (rL : Int32) (rD : Int32) (yd : Nat) (rI : Int32) (rX : Int32) (rY : Int32) (rZ : Int32) (rU : Int32) (yro : Nat) (yc : Nat) (ybe : Nat) (yco : Nat) (rC : Int64) (rV : Int64) (qT : Nat → Int32) (G : Nat) (K : Nat) (M : Nat) (N : Nat) (e : Nat) (k : Nat)  (vc : (((nI e) ≤ x → Post (some (.int 0)) [(h0, .inr (8, [.ref yt, .int rT, .int rH, .int (nI G), .ref yw, .int (nI K), .ref yp, .ref yg, .int (nI M), .ref yu, .int (nI N), .ref ysl, .ref yin, .ref yse, .ref ysp, .ref ypa, .int rA, .ref yb, .ref ybd, .ref ybc, .ref yr, .int rF, .int rP, .ref ywd, .int (nI e), .int rN, .int rO, .int rW, .int rL, .int rD, .ref yd, .int rI, .int rX, .int rY, .int rZ, .int rU, .ref yro, .ref yc, .ref ybe, .ref yco, .long rC, .long rV])), (yt, .inl (g.2.1 1, 400, .inl qT))]) ∧ (¬ (nI e) ≤ x → vp_in x 400 ∧ (((qT x.toNatClampNeg) < 48 → Post (some (.int 0)) [(h0, .inr (8, [.ref yt, .int rT, .int rH, .int (nI G), .ref yw, .int (nI K), .ref yp, .ref yg, .int (nI M), .ref yu, .int (nI N), .ref ysl, .ref yin, .ref yse, .ref ysp, .ref ypa, .int rA, .ref yb, .ref ybd, .ref ybc, .ref yr, .int rF, .int rP, .ref ywd, .int (nI e), .int rN, .int rO, .int rW, .int rL, .int rD, .ref yd, .int rI, .int rX, .int rY, .int rZ, .int rU, .ref yro, .ref yc, .ref ybe, .ref yco, .long rC, .long rV])), (yt, .inl (g.2.1 1, 400, .inl qT))]) ∧ (¬ (qT x.toNatClampNeg) < 48 → vp_in x 400 ∧ (((57 : Int32) < (qT x.toNatClampNeg) → Post (some (.int 0)) [(h0, .inr (8, [.ref yt, .int rT, .int rH, .int (nI G), .ref yw, .int (nI K), .ref yp, .ref yg, .int (nI M), .ref yu, .int (nI N), .ref ysl, .ref yin, .ref yse, .ref ysp, .ref ypa, .int rA, .ref yb, .ref ybd, .ref ybc, .ref yr, .int rF, .int rP, .ref ywd, .int (nI e), .int rN, .int rO, .int rW, .int rL, .int rD, .ref yd, .int rI, .int rX, .int rY, .int rZ, .int rU, .ref yro, .ref yc, .ref ybe, .ref yco, .long rC, .long rV])), (yt, .inl (g.2.1 1, 400, .inl qT))]) ∧ (¬ (57 : Int32) < (qT x.toNatClampNeg) → Post (some (.int 1)) [(h0, .inr (8, [.ref yt, .int rT, .int rH, .int (nI G), .ref yw, .int (nI K), .ref yp, .ref yg, .int (nI M), .ref yu, .int (nI N), .ref ysl, .ref yin, .ref yse, .ref ysp, .ref ypa, .int rA, .ref yb, .ref ybd, .ref ybc, .ref yr, .int rF, .int rP, .ref ywd, .int (nI e), .int rN, .int rO, .int rW, .int rL, .int rD, .ref yd, .int rI, .int rX, .int rY, .int rZ, .int rU, .ref yro, .ref yc, .ref ybe, .ref yco, .long rC, .long rV])), (yt, .inl (g.2.1 1, 400, .inl qT))]))))))) : pz_At B 0 0 0 [(0, .ref h0), (1, .int x)] [] [(h0, .inr (8, [.ref yt, .int rT, .int rH, .int (nI G), .ref yw, .int (nI K), .ref yp, .ref yg, .int (nI M), .ref yu, .int (nI N), .ref ysl, .ref yin, .ref yse, .ref ysp, .ref ypa, .int rA, .ref yb, .ref ybd, .ref ybc, .ref yr, .int rF, .int rP, .ref ywd, .int (nI e), .int rN, .int rO, .int rW, .int rL, .int rD, .ref yd, .int rI, .int rX, .int rY, .int rZ, .int rU, .ref yro, .ref yc, .ref ybe, .ref yco, .long rC, .long rV])), (yt, .inl (g.2.1 1, 400, .inl qT))] := by
  refine pz_iload_n 1 F rfl dX9_isDigit_0 rfl ?_
  refine pz_aload_n 0 F rfl dX9_isDigit_1 rfl ?_
  refine pz_get (ci := 8) (C := RX9) (T := TX9) (N := 42) (v := .int (nI e)) 0 F rfl rfl pz_inX9 24 (by decide) pw_832 rfl dX9_isDigit_2 ?_
  refine pz_icmp_ge (tgt := 34) F dX9_isDigit_5 (by decide) (fun q_1 => ?_) (fun q_1 => ?_)
  · replace vc := vc.1 q_1
    refine pz_iconst (v := 0) F dX9_isDigit_34 rfl ?_
    exact pz_ireturn (w1 := [(h0, .inr (8, [.ref yt, .int rT, .int rH, .int (nI G), .ref yw, .int (nI K), .ref yp, .ref yg, .int (nI M), .ref yu, .int (nI N), .ref ysl, .ref yin, .ref yse, .ref ysp, .ref ypa, .int rA, .ref yb, .ref ybd, .ref ybc, .ref yr, .int rF, .int rP, .ref ywd, .int (nI e), .int rN, .int rO, .int rW, .int rL, .int rD, .ref yd, .int rI, .int rX, .int rY, .int rZ, .int rU, .ref yro, .ref yc, .ref ybe, .ref yco, .long rC, .long rV])), (yt, .inl (g.2.1 1, 400, .inl qT))]) F Rt (by decide) (by decide) dX9_isDigit_35 [0, 1] rfl rfl rfl vc
  · replace vc := vc.2 q_1
    refine pz_aload_n 0 F rfl dX9_isDigit_8 rfl ?_
    refine pz_get (ci := 8) (C := RX9) (T := TX9) (N := 42) (v := .ref yt) 0 F rfl rfl pz_inX9 0 (by decide) pw_808 rfl dX9_isDigit_9 ?_
    refine pz_iload_n 1 F rfl dX9_isDigit_12 rfl ?_
    obtain ⟨h_2, vc⟩ := vc
    refine pz_iaload 1 F rfl h_2 dX9_isDigit_13 ?_
    refine pz_bipush (v := 48) F dX9_isDigit_14 rfl ?_
    refine pz_icmp_lt (tgt := 34) F dX9_isDigit_16 (by decide) (fun q_3 => ?_) (fun q_3 => ?_)
    · replace vc := vc.1 q_3
      refine pz_iconst (v := 0) F dX9_isDigit_34 rfl ?_
      exact pz_ireturn (w1 := [(h0, .inr (8, [.ref yt, .int rT, .int rH, .int (nI G), .ref yw, .int (nI K), .ref yp, .ref yg, .int (nI M), .ref yu, .int (nI N), .ref ysl, .ref yin, .ref yse, .ref ysp, .ref ypa, .int rA, .ref yb, .ref ybd, .ref ybc, .ref yr, .int rF, .int rP, .ref ywd, .int (nI e), .int rN, .int rO, .int rW, .int rL, .int rD, .ref yd, .int rI, .int rX, .int rY, .int rZ, .int rU, .ref yro, .ref yc, .ref ybe, .ref yco, .long rC, .long rV])), (yt, .inl (g.2.1 1, 400, .inl qT))]) F Rt (by decide) (by decide) dX9_isDigit_35 [0, 1] rfl rfl rfl vc
    · replace vc := vc.2 q_3
      refine pz_aload_n 0 F rfl dX9_isDigit_19 rfl ?_
      refine pz_get (ci := 8) (C := RX9) (T := TX9) (N := 42) (v := .ref yt) 0 F rfl rfl pz_inX9 0 (by decide) pw_808 rfl dX9_isDigit_20 ?_
      refine pz_iload_n 1 F rfl dX9_isDigit_23 rfl ?_
      obtain ⟨h_4, vc⟩ := vc
      refine pz_iaload 1 F rfl h_4 dX9_isDigit_24 ?_
      refine pz_bipush (v := 57) F dX9_isDigit_25 rfl ?_
      refine pz_icmp_gt (tgt := 34) F dX9_isDigit_27 (by decide) (fun q_5 => ?_) (fun q_5 => ?_)
      · replace vc := vc.1 q_5
        refine pz_iconst (v := 0) F dX9_isDigit_34 rfl ?_
        exact pz_ireturn (w1 := [(h0, .inr (8, [.ref yt, .int rT, .int rH, .int (nI G), .ref yw, .int (nI K), .ref yp, .ref yg, .int (nI M), .ref yu, .int (nI N), .ref ysl, .ref yin, .ref yse, .ref ysp, .ref ypa, .int rA, .ref yb, .ref ybd, .ref ybc, .ref yr, .int rF, .int rP, .ref ywd, .int (nI e), .int rN, .int rO, .int rW, .int rL, .int rD, .ref yd, .int rI, .int rX, .int rY, .int rZ, .int rU, .ref yro, .ref yc, .ref ybe, .ref yco, .long rC, .long rV])), (yt, .inl (g.2.1 1, 400, .inl qT))]) F Rt (by decide) (by decide) dX9_isDigit_35 [0, 1] rfl rfl rfl vc
      · replace vc := vc.2 q_5
        refine pz_iconst (v := 1) F dX9_isDigit_30 rfl ?_
        refine pz_goto (tgt := 35) F dX9_isDigit_31 (by decide) ?_
        exact pz_ireturn (w1 := [(h0, .inr (8, [.ref yt, .int rT, .int rH, .int (nI G), .ref yw, .int (nI K), .ref yp, .ref yg, .int (nI M), .ref yu, .int (nI N), .ref ysl, .ref yin, .ref yse, .ref ysp, .ref ypa, .int rA, .ref yb, .ref ybd, .ref ybc, .ref yr, .int rF, .int rP, .ref ywd, .int (nI e), .int rN, .int rO, .int rW, .int rL, .int rD, .ref yd, .int rI, .int rX, .int rY, .int rZ, .int rU, .ref yro, .ref yc, .ref ybe, .ref yco, .long rC, .long rV])), (yt, .inl (g.2.1 1, 400, .inl qT))]) F Rt (by decide) (by decide) dX9_isDigit_35 [0, 1] rfl rfl rfl vc
set_option maxHeartbeats 4000000 in
set_option maxRecDepth 100000 in
theorem ctX9_isDigit (l : Launch) (g : pz_G) (x : Int32) (h0 : Nat) (yt : Nat) (rT : Int32) (rH : Int32) (yw : Nat) (yp : Nat) (yg : Nat) (yu : Nat) (ysl : Nat) (yin : Nat) (yse : Nat) (ysp : Nat) (ypa : Nat) (rA : Int32) (yb : Nat) (ybd : Nat) (ybc : Nat) (yr : Nat) (rF : Int32) (rP : Int32) (ywd : Nat) (rN : Int32) (rO : Int32) (rW : Int32) (rL : Int32) (rD : Int32) (yd : Nat) (rI : Int32) (rX : Int32) (rY : Int32) (rZ : Int32) (rU : Int32) (yro : Nat) (yc : Nat) (ybe : Nat) (yco : Nat) (rC : Int64) (rV : Int64) (qT : Nat → Int32) (G : Nat) (K : Nat) (M : Nat) (N : Nat) (e : Nat) (k : Nat) (hpre : k ≤ e ∧ e ≤ 400 ∧ x = nI k) : pz_Ct l g yX9_isDigit cX9_isDigit 2 (some .boolean) rmX9_isDigit [.ref h0, .int x] [(h0, .inr (8, [.ref yt, .int rT, .int rH, .int (nI G), .ref yw, .int (nI K), .ref yp, .ref yg, .int (nI M), .ref yu, .int (nI N), .ref ysl, .ref yin, .ref yse, .ref ysp, .ref ypa, .int rA, .ref yb, .ref ybd, .ref ybc, .ref yr, .int rF, .int rP, .ref ywd, .int (nI e), .int rN, .int rO, .int rW, .int rL, .int rD, .ref yd, .int rI, .int rX, .int rY, .int rZ, .int rU, .ref yro, .ref yc, .ref ybe, .ref yco, .long rC, .long rV])), (yt, .inl (g.2.1 1, 400, .inl qT))] (pz_pi (fun (r : Int32) (u : Unit) => r = if k < e ∧ pu_di (qT k) = true then 1 else 0) (fun (u : Unit) => [(h0, .inr (8, [.ref yt, .int rT, .int rH, .int (nI G), .ref yw, .int (nI K), .ref yp, .ref yg, .int (nI M), .ref yu, .int (nI N), .ref ysl, .ref yin, .ref yse, .ref ysp, .ref ypa, .int rA, .ref yb, .ref ybd, .ref ybc, .ref yr, .int rF, .int rP, .ref ywd, .int (nI e), .int rN, .int rO, .int rW, .int rL, .int rD, .ref yd, .int rI, .int rX, .int rY, .int rZ, .int rU, .ref yro, .ref yc, .ref ybe, .ref yco, .long rC, .long rV])), (yt, .inl (g.2.1 1, 400, .inl qT))])) := by
  refine pz_ofAt (by decide +kernel) (Nat.le_of_ble_eq_true rfl) (fun B F Rt hme => ?_)
  obtain ⟨hk, he, hx⟩ := hpre
  subst hx
  refine sgX9_isDigit_0 F Rt (nI k) h0 yt rT rH yw yp yg yu ysl yin yse ysp ypa rA yb ybd ybc yr rF rP ywd rN rO rW rL rD yd rI rX rY rZ rU yro yc ybe yco rC rV qT G K M N e k ?_
  clear F Rt hme
  rw [nI_clamp (by omega)]
  refine ⟨fun q => ?_, fun q => ?_⟩
  · have h1 := pu_ge (by omega) q
    exact ⟨_, (), rfl, rfl, by rw [if_neg (fun h => absurd h.1 (by omega))]⟩
  · have h1 := pu_lt (by omega) (by omega) q
    have hin : vp_in (nI k) 400 := vp_in_nI (by omega) (by omega)
    refine ⟨hin, fun q2 => ⟨_, (), rfl, rfl, ?_⟩, fun q2 => ⟨hin, fun q3 => ⟨_, (), rfl, rfl, ?_⟩, fun q3 => ⟨_, (), rfl, rfl, ?_⟩⟩⟩
    · rw [if_neg]; simp only [pu_di, Bool.and_eq_true, decide_eq_true_eq]; exact fun h => absurd q2 (Int32.not_lt.mpr h.2.1)
    · rw [if_neg]; simp only [pu_di, Bool.and_eq_true, decide_eq_true_eq]; exact fun h => absurd q3 (Int32.not_lt.mpr h.2.2)
    · rw [if_pos]; simp only [pu_di, Bool.and_eq_true, decide_eq_true_eq]; exact ⟨h1, Int32.not_lt.mp q2, Int32.not_lt.mp q3⟩
abbrev rmX9_wordAt : Room := { frames := 0, cells := 0, slots := 0, locals := 0 }
abbrev paX9_wordAt_5 (B : pz_B) (g : pz_G) (x : Int32) (y : Int32) (h0 : Nat) (yt : Nat) (rT : Int32) (rH : Int32) (yw : Nat) (yp : Nat) (yg : Nat) (yu : Nat) (ysl : Nat) (yin : Nat) (yse : Nat) (ysp : Nat) (ypa : Nat) (rA : Int32) (yb : Nat) (ybd : Nat) (ybc : Nat) (yr : Nat) (rF : Int32) (rP : Int32) (ywd : Nat) (rN : Int32) (rO : Int32) (rW : Int32) (rL : Int32) (rD : Int32) (yd : Nat) (rI : Int32) (rX : Int32) (rY : Int32) (rZ : Int32) (rU : Int32) (yro : Nat) (yc : Nat) (ybe : Nat) (yco : Nat) (rC : Int64) (rV : Int64) (qT : Nat → Int32) (qW : Nat → Int32) (G : Nat) (K : Nat) (M : Nat) (N : Nat) (e : Nat) (a : Nat) (b' : Nat) (kk : Int32) (at_ : Int32) : Prop := pz_At B 0 0 5 [(0, .ref h0), (1, .int x), (2, .int y), (3, .int kk), (4, .int at_)] [] [(h0, .inr (8, [.ref yt, .int rT, .int rH, .int (nI G), .ref yw, .int (nI K), .ref yp, .ref yg, .int (nI M), .ref yu, .int (nI N), .ref ysl, .ref yin, .ref yse, .ref ysp, .ref ypa, .int rA, .ref yb, .ref ybd, .ref ybc, .ref yr, .int rF, .int rP, .ref ywd, .int (nI e), .int rN, .int rO, .int rW, .int rL, .int rD, .ref yd, .int rI, .int rX, .int rY, .int rZ, .int rU, .ref yro, .ref yc, .ref ybe, .ref yco, .long rC, .long rV])), (yt, .inl (g.2.1 1, 400, .inl qT)), (ywd, .inl (g.2.1 1, 77, .inl qW))]
abbrev paX9_wordAt_18 (B : pz_B) (g : pz_G) (x : Int32) (y : Int32) (h0 : Nat) (yt : Nat) (rT : Int32) (rH : Int32) (yw : Nat) (yp : Nat) (yg : Nat) (yu : Nat) (ysl : Nat) (yin : Nat) (yse : Nat) (ysp : Nat) (ypa : Nat) (rA : Int32) (yb : Nat) (ybd : Nat) (ybc : Nat) (yr : Nat) (rF : Int32) (rP : Int32) (ywd : Nat) (rN : Int32) (rO : Int32) (rW : Int32) (rL : Int32) (rD : Int32) (yd : Nat) (rI : Int32) (rX : Int32) (rY : Int32) (rZ : Int32) (rU : Int32) (yro : Nat) (yc : Nat) (ybe : Nat) (yco : Nat) (rC : Int64) (rV : Int64) (qT : Nat → Int32) (qW : Nat → Int32) (G : Nat) (K : Nat) (M : Nat) (N : Nat) (e : Nat) (a : Nat) (b' : Nat) (kk : Int32) (at_ : Int32) (nn : Int32) : Prop := pz_At B 0 0 18 [(0, .ref h0), (1, .int x), (2, .int y), (3, .int kk), (4, .int at_), (5, .int nn)] [] [(h0, .inr (8, [.ref yt, .int rT, .int rH, .int (nI G), .ref yw, .int (nI K), .ref yp, .ref yg, .int (nI M), .ref yu, .int (nI N), .ref ysl, .ref yin, .ref yse, .ref ysp, .ref ypa, .int rA, .ref yb, .ref ybd, .ref ybc, .ref yr, .int rF, .int rP, .ref ywd, .int (nI e), .int rN, .int rO, .int rW, .int rL, .int rD, .ref yd, .int rI, .int rX, .int rY, .int rZ, .int rU, .ref yro, .ref yc, .ref ybe, .ref yco, .long rC, .long rV])), (yt, .inl (g.2.1 1, 400, .inl qT)), (ywd, .inl (g.2.1 1, 77, .inl qW))]
abbrev paX9_wordAt_57 (B : pz_B) (g : pz_G) (x : Int32) (y : Int32) (h0 : Nat) (yt : Nat) (rT : Int32) (rH : Int32) (yw : Nat) (yp : Nat) (yg : Nat) (yu : Nat) (ysl : Nat) (yin : Nat) (yse : Nat) (ysp : Nat) (ypa : Nat) (rA : Int32) (yb : Nat) (ybd : Nat) (ybc : Nat) (yr : Nat) (rF : Int32) (rP : Int32) (ywd : Nat) (rN : Int32) (rO : Int32) (rW : Int32) (rL : Int32) (rD : Int32) (yd : Nat) (rI : Int32) (rX : Int32) (rY : Int32) (rZ : Int32) (rU : Int32) (yro : Nat) (yc : Nat) (ybe : Nat) (yco : Nat) (rC : Int64) (rV : Int64) (qT : Nat → Int32) (qW : Nat → Int32) (G : Nat) (K : Nat) (M : Nat) (N : Nat) (e : Nat) (a : Nat) (b' : Nat) (kk : Int32) (at_ : Int32) (nn : Int32) (sm : Int32) (ii : Int32) : Prop := pz_At B 0 0 57 [(0, .ref h0), (1, .int x), (2, .int y), (3, .int kk), (4, .int at_), (5, .int nn), (6, .int sm), (7, .int ii)] [] [(h0, .inr (8, [.ref yt, .int rT, .int rH, .int (nI G), .ref yw, .int (nI K), .ref yp, .ref yg, .int (nI M), .ref yu, .int (nI N), .ref ysl, .ref yin, .ref yse, .ref ysp, .ref ypa, .int rA, .ref yb, .ref ybd, .ref ybc, .ref yr, .int rF, .int rP, .ref ywd, .int (nI e), .int rN, .int rO, .int rW, .int rL, .int rD, .ref yd, .int rI, .int rX, .int rY, .int rZ, .int rU, .ref yro, .ref yc, .ref ybe, .ref yco, .long rC, .long rV])), (yt, .inl (g.2.1 1, 400, .inl qT)), (ywd, .inl (g.2.1 1, 77, .inl qW))]
set_option maxHeartbeats 4000000 in
set_option maxRecDepth 100000 in
theorem sgX9_wordAt_0 {B : pz_B} {g : pz_G} {wc : va_W} {Post : Option Value → va_W → Prop} (F : pz_F B cX9_wordAt 8 (some .int) yX9_wordAt.cls g rmX9_wordAt) (Rt : pz_Rt B g wc Post rmX9_wordAt) (x : Int32) (y : Int32) (h0 : Nat) (yt : Nat) (rT : Int32) (rH : Int32) (yw : Nat) (yp : Nat) (yg : Nat) (yu : Nat) (ysl : Nat) (yin : Nat) (yse : Nat) (ysp : Nat) (ypa : Nat) (rA : Int32) (yb : Nat) (ybd : Nat) (ybc : Nat) (yr : Nat) (rF : Int32) (rP : Int32) (ywd : Nat) (rN : Int32) (rO : Int32) (rW : Int32) (rL : Int32) (rD : Int32) (yd : Nat) (rI : Int32) (rX : Int32) (rY : Int32) (rZ : Int32) (rU : Int32) (yro : Nat) (yc : Nat) (ybe : Nat) (yco : Nat) (rC : Int64) (rV : Int64) (qT : Nat → Int32) (qW : Nat → Int32) (G : Nat) (K : Nat) (M : Nat) (N : Nat) (e : Nat) (a : Nat) (b' : Nat) (T5 : Int32 → Int32 → Prop) (hT5 : ∀ (kk : Int32) (at_ : Int32), T5 kk at_ → paX9_wordAt_5 B g x y h0 yt rT rH yw yp yg yu ysl yin yse ysp ypa rA yb ybd ybc yr rF rP ywd rN rO rW rL rD yd rI rX rY rZ rU yro yc ybe yco rC rV qT qW G K M N e a b' kk at_)  (vc : T5 0 0) : pz_At B 0 0 0 [(0, .ref h0), (1, .int x), (2, .int y)] [] [(h0, .inr (8, [.ref yt, .int rT, .int rH, .int (nI G), .ref yw, .int (nI K), .ref yp, .ref yg, .int (nI M), .ref yu, .int (nI N), .ref ysl, .ref yin, .ref yse, .ref ysp, .ref ypa, .int rA, .ref yb, .ref ybd, .ref ybc, .ref yr, .int rF, .int rP, .ref ywd, .int (nI e), .int rN, .int rO, .int rW, .int rL, .int rD, .ref yd, .int rI, .int rX, .int rY, .int rZ, .int rU, .ref yro, .ref yc, .ref ybe, .ref yco, .long rC, .long rV])), (yt, .inl (g.2.1 1, 400, .inl qT)), (ywd, .inl (g.2.1 1, 77, .inl qW))] := by
  refine pz_iconst (v := 0) F dX9_wordAt_0 rfl ?_
  refine pz_istore_n (lv' := [(3, .int 0), (0, .ref h0), (1, .int x), (2, .int y)]) F dX9_wordAt_1 rfl (by decide) rfl ?_
  refine pz_iconst (v := 0) F dX9_wordAt_2 rfl ?_
  refine pz_istore (lv' := [(4, .int 0), (3, .int 0), (0, .ref h0), (1, .int x), (2, .int y)]) F dX9_wordAt_3 (by decide) rfl ?_
  exact pz_sub [2, 3, 4, 1, 0] [0, 1, 2] rfl rfl rfl (hT5 0 0 vc)
set_option maxHeartbeats 4000000 in
set_option maxRecDepth 100000 in
theorem sgX9_wordAt_5 {B : pz_B} {g : pz_G} {wc : va_W} {Post : Option Value → va_W → Prop} (F : pz_F B cX9_wordAt 8 (some .int) yX9_wordAt.cls g rmX9_wordAt) (Rt : pz_Rt B g wc Post rmX9_wordAt) (x : Int32) (y : Int32) (h0 : Nat) (yt : Nat) (rT : Int32) (rH : Int32) (yw : Nat) (yp : Nat) (yg : Nat) (yu : Nat) (ysl : Nat) (yin : Nat) (yse : Nat) (ysp : Nat) (ypa : Nat) (rA : Int32) (yb : Nat) (ybd : Nat) (ybc : Nat) (yr : Nat) (rF : Int32) (rP : Int32) (ywd : Nat) (rN : Int32) (rO : Int32) (rW : Int32) (rL : Int32) (rD : Int32) (yd : Nat) (rI : Int32) (rX : Int32) (rY : Int32) (rZ : Int32) (rU : Int32) (yro : Nat) (yc : Nat) (ybe : Nat) (yco : Nat) (rC : Int64) (rV : Int64) (qT : Nat → Int32) (qW : Nat → Int32) (G : Nat) (K : Nat) (M : Nat) (N : Nat) (e : Nat) (a : Nat) (b' : Nat) (T18 : Int32 → Int32 → Int32 → Prop) (hT18 : ∀ (kk : Int32) (at_ : Int32) (nn : Int32), T18 kk at_ nn → paX9_wordAt_18 B g x y h0 yt rT rH yw yp yg yu ysl yin yse ysp ypa rA yb ybd ybc yr rF rP ywd rN rO rW rL rD yd rI rX rY rZ rU yro yc ybe yco rC rV qT qW G K M N e a b' kk at_ nn) (kk : Int32) (at_ : Int32) (vc : (((77 : Int32) ≤ at_ → Post (some (.int (-1))) [(h0, .inr (8, [.ref yt, .int rT, .int rH, .int (nI G), .ref yw, .int (nI K), .ref yp, .ref yg, .int (nI M), .ref yu, .int (nI N), .ref ysl, .ref yin, .ref yse, .ref ysp, .ref ypa, .int rA, .ref yb, .ref ybd, .ref ybc, .ref yr, .int rF, .int rP, .ref ywd, .int (nI e), .int rN, .int rO, .int rW, .int rL, .int rD, .ref yd, .int rI, .int rX, .int rY, .int rZ, .int rU, .ref yro, .ref yc, .ref ybe, .ref yco, .long rC, .long rV])), (yt, .inl (g.2.1 1, 400, .inl qT)), (ywd, .inl (g.2.1 1, 77, .inl qW))]) ∧ (¬ (77 : Int32) ≤ at_ → T18 kk at_ 0))) : pz_At B 0 0 5 [(0, .ref h0), (1, .int x), (2, .int y), (3, .int kk), (4, .int at_)] [] [(h0, .inr (8, [.ref yt, .int rT, .int rH, .int (nI G), .ref yw, .int (nI K), .ref yp, .ref yg, .int (nI M), .ref yu, .int (nI N), .ref ysl, .ref yin, .ref yse, .ref ysp, .ref ypa, .int rA, .ref yb, .ref ybd, .ref ybc, .ref yr, .int rF, .int rP, .ref ywd, .int (nI e), .int rN, .int rO, .int rW, .int rL, .int rD, .ref yd, .int rI, .int rX, .int rY, .int rZ, .int rU, .ref yro, .ref yc, .ref ybe, .ref yco, .long rC, .long rV])), (yt, .inl (g.2.1 1, 400, .inl qT)), (ywd, .inl (g.2.1 1, 77, .inl qW))] := by
  refine pz_iload 4 F rfl dX9_wordAt_5 ?_
  refine pz_aload_n 0 F rfl dX9_wordAt_7 rfl ?_
  refine pz_get (ci := 8) (C := RX9) (T := TX9) (N := 42) (v := .ref ywd) 0 F rfl rfl pz_inX9 23 (by decide) pw_831 rfl dX9_wordAt_8 ?_
  refine pz_alen (t := 1) (v := 77) 2 F rfl rfl rfl dX9_wordAt_11 ?_
  refine pz_icmp_ge (tgt := 126) F dX9_wordAt_12 (by decide) (fun q_1 => ?_) (fun q_1 => ?_)
  · replace vc := vc.1 q_1
    refine pz_iconst (v := (-1)) F dX9_wordAt_126 rfl ?_
    exact pz_ireturn (w1 := [(h0, .inr (8, [.ref yt, .int rT, .int rH, .int (nI G), .ref yw, .int (nI K), .ref yp, .ref yg, .int (nI M), .ref yu, .int (nI N), .ref ysl, .ref yin, .ref yse, .ref ysp, .ref ypa, .int rA, .ref yb, .ref ybd, .ref ybc, .ref yr, .int rF, .int rP, .ref ywd, .int (nI e), .int rN, .int rO, .int rW, .int rL, .int rD, .ref yd, .int rI, .int rX, .int rY, .int rZ, .int rU, .ref yro, .ref yc, .ref ybe, .ref yco, .long rC, .long rV])), (yt, .inl (g.2.1 1, 400, .inl qT)), (ywd, .inl (g.2.1 1, 77, .inl qW))]) F Rt (by decide) (by decide) dX9_wordAt_127 [0, 1, 2] rfl rfl rfl vc
  · replace vc := vc.2 q_1
    refine pz_iconst (v := 0) F dX9_wordAt_15 rfl ?_
    refine pz_istore (lv' := [(5, .int 0), (0, .ref h0), (1, .int x), (2, .int y), (3, .int kk), (4, .int at_)]) F dX9_wordAt_16 (by decide) rfl ?_
    exact pz_sub [1, 2, 3, 4, 5, 0] [0, 1, 2] rfl rfl rfl (hT18 kk at_ 0 vc)
set_option maxHeartbeats 4000000 in
set_option maxRecDepth 100000 in
theorem sgX9_wordAt_18 {B : pz_B} {g : pz_G} {wc : va_W} {Post : Option Value → va_W → Prop} (F : pz_F B cX9_wordAt 8 (some .int) yX9_wordAt.cls g rmX9_wordAt) (Rt : pz_Rt B g wc Post rmX9_wordAt) (x : Int32) (y : Int32) (h0 : Nat) (yt : Nat) (rT : Int32) (rH : Int32) (yw : Nat) (yp : Nat) (yg : Nat) (yu : Nat) (ysl : Nat) (yin : Nat) (yse : Nat) (ysp : Nat) (ypa : Nat) (rA : Int32) (yb : Nat) (ybd : Nat) (ybc : Nat) (yr : Nat) (rF : Int32) (rP : Int32) (ywd : Nat) (rN : Int32) (rO : Int32) (rW : Int32) (rL : Int32) (rD : Int32) (yd : Nat) (rI : Int32) (rX : Int32) (rY : Int32) (rZ : Int32) (rU : Int32) (yro : Nat) (yc : Nat) (ybe : Nat) (yco : Nat) (rC : Int64) (rV : Int64) (qT : Nat → Int32) (qW : Nat → Int32) (G : Nat) (K : Nat) (M : Nat) (N : Nat) (e : Nat) (a : Nat) (b' : Nat) (T18 : Int32 → Int32 → Int32 → Prop) (hT18 : ∀ (kk : Int32) (at_ : Int32) (nn : Int32), T18 kk at_ nn → paX9_wordAt_18 B g x y h0 yt rT rH yw yp yg yu ysl yin yse ysp ypa rA yb ybd ybc yr rF rP ywd rN rO rW rL rD yd rI rX rY rZ rU yro yc ybe yco rC rV qT qW G K M N e a b' kk at_ nn) (T57 : Int32 → Int32 → Int32 → Int32 → Int32 → Prop) (hT57 : ∀ (kk : Int32) (at_ : Int32) (nn : Int32) (sm : Int32) (ii : Int32), T57 kk at_ nn sm ii → paX9_wordAt_57 B g x y h0 yt rT rH yw yp yg yu ysl yin yse ysp ypa rA yb ybd ybc yr rF rP ywd rN rO rW rL rD yd rI rX rY rZ rU yro yc ybe yco rC rV qT qW G K M N e a b' kk at_ nn sm ii) (kk : Int32) (at_ : Int32) (nn : Int32) (vc : vp_in (at_ + nn) 77 ∧ (((qW (at_ + nn).toNatClampNeg) = 32 → ((¬ nn = (y - x) → T57 kk at_ nn 0 0) ∧ (nn = (y - x) → T57 kk at_ nn 1 0))) ∧ (¬ (qW (at_ + nn).toNatClampNeg) = 32 → ∀ x_4 : Int32, x_4 = nn + 1 → T18 kk at_ x_4))) : pz_At B 0 0 18 [(0, .ref h0), (1, .int x), (2, .int y), (3, .int kk), (4, .int at_), (5, .int nn)] [] [(h0, .inr (8, [.ref yt, .int rT, .int rH, .int (nI G), .ref yw, .int (nI K), .ref yp, .ref yg, .int (nI M), .ref yu, .int (nI N), .ref ysl, .ref yin, .ref yse, .ref ysp, .ref ypa, .int rA, .ref yb, .ref ybd, .ref ybc, .ref yr, .int rF, .int rP, .ref ywd, .int (nI e), .int rN, .int rO, .int rW, .int rL, .int rD, .ref yd, .int rI, .int rX, .int rY, .int rZ, .int rU, .ref yro, .ref yc, .ref ybe, .ref yco, .long rC, .long rV])), (yt, .inl (g.2.1 1, 400, .inl qT)), (ywd, .inl (g.2.1 1, 77, .inl qW))] := by
  refine pz_aload_n 0 F rfl dX9_wordAt_18 rfl ?_
  refine pz_get (ci := 8) (C := RX9) (T := TX9) (N := 42) (v := .ref ywd) 0 F rfl rfl pz_inX9 23 (by decide) pw_831 rfl dX9_wordAt_19 ?_
  refine pz_iload 4 F rfl dX9_wordAt_22 ?_
  refine pz_iload 5 F rfl dX9_wordAt_24 ?_
  refine pz_iadd F dX9_wordAt_26 ?_
  obtain ⟨h_1, vc⟩ := vc
  refine pz_iaload 2 F rfl h_1 dX9_wordAt_27 ?_
  refine pz_bipush (v := 32) F dX9_wordAt_28 rfl ?_
  refine pz_icmp_eq (tgt := 39) F dX9_wordAt_30 (by decide) (fun q_2 => ?_) (fun q_2 => ?_)
  · replace vc := vc.1 q_2
    refine pz_iload 5 F rfl dX9_wordAt_39 ?_
    refine pz_iload_n 2 F rfl dX9_wordAt_41 rfl ?_
    refine pz_iload_n 1 F rfl dX9_wordAt_42 rfl ?_
    refine pz_isub F dX9_wordAt_43 ?_
    refine pz_icmp_ne (tgt := 51) F dX9_wordAt_44 (by decide) (fun q_3 => ?_) (fun q_3 => ?_)
    · replace vc := vc.1 q_3
      refine pz_iconst (v := 0) F dX9_wordAt_51 rfl ?_
      refine pz_istore (lv' := [(6, .int 0), (0, .ref h0), (1, .int x), (2, .int y), (3, .int kk), (4, .int at_), (5, .int nn)]) F dX9_wordAt_52 (by decide) rfl ?_
      refine pz_iconst (v := 0) F dX9_wordAt_54 rfl ?_
      refine pz_istore (lv' := [(7, .int 0), (6, .int 0), (0, .ref h0), (1, .int x), (2, .int y), (3, .int kk), (4, .int at_), (5, .int nn)]) F dX9_wordAt_55 (by decide) rfl ?_
      exact pz_sub [2, 3, 4, 5, 6, 7, 1, 0] [0, 1, 2] rfl rfl rfl (hT57 kk at_ nn 0 0 vc)
    · replace vc := vc.2 q_3
      refine pz_iconst (v := 1) F dX9_wordAt_47 rfl ?_
      refine pz_goto (tgt := 52) F dX9_wordAt_48 (by decide) ?_
      refine pz_istore (lv' := [(6, .int 1), (0, .ref h0), (1, .int x), (2, .int y), (3, .int kk), (4, .int at_), (5, .int nn)]) F dX9_wordAt_52 (by decide) rfl ?_
      refine pz_iconst (v := 0) F dX9_wordAt_54 rfl ?_
      refine pz_istore (lv' := [(7, .int 0), (6, .int 1), (0, .ref h0), (1, .int x), (2, .int y), (3, .int kk), (4, .int at_), (5, .int nn)]) F dX9_wordAt_55 (by decide) rfl ?_
      exact pz_sub [2, 3, 4, 5, 6, 7, 1, 0] [0, 1, 2] rfl rfl rfl (hT57 kk at_ nn 1 0 vc)
  · replace vc := vc.2 q_2
    obtain ⟨x_4, ex_4⟩ : ∃ z : Int32, z = nn + 1 := ⟨_, rfl⟩
    replace vc := vc x_4 ex_4
    refine pz_iinc (v := x_4) (lv' := [(5, .int x_4), (0, .ref h0), (1, .int x), (2, .int y), (3, .int kk), (4, .int at_)]) 5 F rfl dX9_wordAt_33 (by rw [ex_4]; rfl) (by decide) rfl ?_
    refine pz_goto (tgt := 18) F dX9_wordAt_36 (by decide) ?_
    exact pz_sub [1, 2, 3, 4, 5, 0] [0, 1, 2] rfl rfl rfl (hT18 kk at_ x_4 vc)
theorem lpX9_wordAt_18 {B : pz_B} {g : pz_G} {wc : va_W} {Post : Option Value → va_W → Prop} (F : pz_F B cX9_wordAt 8 (some .int) yX9_wordAt.cls g rmX9_wordAt) (Rt : pz_Rt B g wc Post rmX9_wordAt) (x : Int32) (y : Int32) (h0 : Nat) (yt : Nat) (rT : Int32) (rH : Int32) (yw : Nat) (yp : Nat) (yg : Nat) (yu : Nat) (ysl : Nat) (yin : Nat) (yse : Nat) (ysp : Nat) (ypa : Nat) (rA : Int32) (yb : Nat) (ybd : Nat) (ybc : Nat) (yr : Nat) (rF : Int32) (rP : Int32) (ywd : Nat) (rN : Int32) (rO : Int32) (rW : Int32) (rL : Int32) (rD : Int32) (yd : Nat) (rI : Int32) (rX : Int32) (rY : Int32) (rZ : Int32) (rU : Int32) (yro : Nat) (yc : Nat) (ybe : Nat) (yco : Nat) (rC : Int64) (rV : Int64) (qT : Nat → Int32) (qW : Nat → Int32) (G : Nat) (K : Nat) (M : Nat) (N : Nat) (e : Nat) (a : Nat) (b' : Nat) (T57 : Int32 → Int32 → Int32 → Int32 → Int32 → Prop) (hT57 : ∀ (kk : Int32) (at_ : Int32) (nn : Int32) (sm : Int32) (ii : Int32), T57 kk at_ nn sm ii → paX9_wordAt_57 B g x y h0 yt rT rH yw yp yg yu ysl yin yse ysp ypa rA yb ybd ybc yr rF rP ywd rN rO rW rL rD yd rI rX rY rZ rU yro yc ybe yco rC rV qT qW G K M N e a b' kk at_ nn sm ii) (Inv : Nat → Int32 → Int32 → Int32 → Prop) (step : ∀ (mz : Nat) (kk : Int32) (at_ : Int32) (nn : Int32), Inv mz kk at_ nn → ∀ TT : Int32 → Int32 → Int32 → Prop, TT = (fun kk at_ nn => ∃ mz', mz' < mz ∧ Inv mz' kk at_ nn) → vp_in (at_ + nn) 77 ∧ (((qW (at_ + nn).toNatClampNeg) = 32 → ((¬ nn = (y - x) → T57 kk at_ nn 0 0) ∧ (nn = (y - x) → T57 kk at_ nn 1 0))) ∧ (¬ (qW (at_ + nn).toNatClampNeg) = 32 → ∀ x_4 : Int32, x_4 = nn + 1 → TT kk at_ x_4))) : ∀ (mz : Nat) (kk : Int32) (at_ : Int32) (nn : Int32), Inv mz kk at_ nn → paX9_wordAt_18 B g x y h0 yt rT rH yw yp yg yu ysl yin yse ysp ypa rA yb ybd ybc yr rF rP ywd rN rO rW rL rD yd rI rX rY rZ rU yro yc ybe yco rC rV qT qW G K M N e a b' kk at_ nn := by
  intro mz
  induction mz using Nat.strongRecOn with
  | _ mz ih =>
    intro kk at_ nn hI
    exact sgX9_wordAt_18 F Rt x y h0 yt rT rH yw yp yg yu ysl yin yse ysp ypa rA yb ybd ybc yr rF rP ywd rN rO rW rL rD yd rI rX rY rZ rU yro yc ybe yco rC rV qT qW G K M N e a b' (fun kk at_ nn => ∃ mz', mz' < mz ∧ Inv mz' kk at_ nn) (fun kk at_ nn ⟨mz', h1, h2⟩ => ih mz' h1 kk at_ nn h2) T57 hT57 kk at_ nn (step mz kk at_ nn hI _ rfl)
set_option maxHeartbeats 4000000 in
set_option maxRecDepth 100000 in
theorem sgX9_wordAt_57 {B : pz_B} {g : pz_G} {wc : va_W} {Post : Option Value → va_W → Prop} (F : pz_F B cX9_wordAt 8 (some .int) yX9_wordAt.cls g rmX9_wordAt) (Rt : pz_Rt B g wc Post rmX9_wordAt) (x : Int32) (y : Int32) (h0 : Nat) (yt : Nat) (rT : Int32) (rH : Int32) (yw : Nat) (yp : Nat) (yg : Nat) (yu : Nat) (ysl : Nat) (yin : Nat) (yse : Nat) (ysp : Nat) (ypa : Nat) (rA : Int32) (yb : Nat) (ybd : Nat) (ybc : Nat) (yr : Nat) (rF : Int32) (rP : Int32) (ywd : Nat) (rN : Int32) (rO : Int32) (rW : Int32) (rL : Int32) (rD : Int32) (yd : Nat) (rI : Int32) (rX : Int32) (rY : Int32) (rZ : Int32) (rU : Int32) (yro : Nat) (yc : Nat) (ybe : Nat) (yco : Nat) (rC : Int64) (rV : Int64) (qT : Nat → Int32) (qW : Nat → Int32) (G : Nat) (K : Nat) (M : Nat) (N : Nat) (e : Nat) (a : Nat) (b' : Nat) (T5 : Int32 → Int32 → Prop) (hT5 : ∀ (kk : Int32) (at_ : Int32), T5 kk at_ → paX9_wordAt_5 B g x y h0 yt rT rH yw yp yg yu ysl yin yse ysp ypa rA yb ybd ybc yr rF rP ywd rN rO rW rL rD yd rI rX rY rZ rU yro yc ybe yco rC rV qT qW G K M N e a b' kk at_) (T57 : Int32 → Int32 → Int32 → Int32 → Int32 → Prop) (hT57 : ∀ (kk : Int32) (at_ : Int32) (nn : Int32) (sm : Int32) (ii : Int32), T57 kk at_ nn sm ii → paX9_wordAt_57 B g x y h0 yt rT rH yw yp yg yu ysl yin yse ysp ypa rA yb ybd ybc yr rF rP ywd rN rO rW rL rD yd rI rX rY rZ rU yro yc ybe yco rC rV qT qW G K M N e a b' kk at_ nn sm ii) (kk : Int32) (at_ : Int32) (nn : Int32) (sm : Int32) (ii : Int32) (vc : ((nn ≤ ii → ((sm = 0 → ∀ x_3 : Int32, x_3 = (at_ + (nn + 1)) → ∀ x_4 : Int32, x_4 = kk + 1 → T5 x_4 x_3) ∧ (¬ sm = 0 → Post (some (.int kk)) [(h0, .inr (8, [.ref yt, .int rT, .int rH, .int (nI G), .ref yw, .int (nI K), .ref yp, .ref yg, .int (nI M), .ref yu, .int (nI N), .ref ysl, .ref yin, .ref yse, .ref ysp, .ref ypa, .int rA, .ref yb, .ref ybd, .ref ybc, .ref yr, .int rF, .int rP, .ref ywd, .int (nI e), .int rN, .int rO, .int rW, .int rL, .int rD, .ref yd, .int rI, .int rX, .int rY, .int rZ, .int rU, .ref yro, .ref yc, .ref ybe, .ref yco, .long rC, .long rV])), (yt, .inl (g.2.1 1, 400, .inl qT)), (ywd, .inl (g.2.1 1, 77, .inl qW))]))) ∧ (¬ nn ≤ ii → ((sm = 0 → ((sm = 0 → ∀ x_7 : Int32, x_7 = (at_ + (nn + 1)) → ∀ x_8 : Int32, x_8 = kk + 1 → T5 x_8 x_7) ∧ (¬ sm = 0 → Post (some (.int kk)) [(h0, .inr (8, [.ref yt, .int rT, .int rH, .int (nI G), .ref yw, .int (nI K), .ref yp, .ref yg, .int (nI M), .ref yu, .int (nI N), .ref ysl, .ref yin, .ref yse, .ref ysp, .ref ypa, .int rA, .ref yb, .ref ybd, .ref ybc, .ref yr, .int rF, .int rP, .ref ywd, .int (nI e), .int rN, .int rO, .int rW, .int rL, .int rD, .ref yd, .int rI, .int rX, .int rY, .int rZ, .int rU, .ref yro, .ref yc, .ref ybe, .ref yco, .long rC, .long rV])), (yt, .inl (g.2.1 1, 400, .inl qT)), (ywd, .inl (g.2.1 1, 77, .inl qW))]))) ∧ (¬ sm = 0 → vp_in (at_ + ii) 77 ∧ vp_in (x + ii) 400 ∧ ((¬ (qW (at_ + ii).toNatClampNeg) = (qT (x + ii).toNatClampNeg) → ∀ x_12 : Int32, x_12 = ii + 1 → T57 kk at_ nn 0 x_12) ∧ ((qW (at_ + ii).toNatClampNeg) = (qT (x + ii).toNatClampNeg) → ∀ x_13 : Int32, x_13 = ii + 1 → T57 kk at_ nn 1 x_13))))))) : pz_At B 0 0 57 [(0, .ref h0), (1, .int x), (2, .int y), (3, .int kk), (4, .int at_), (5, .int nn), (6, .int sm), (7, .int ii)] [] [(h0, .inr (8, [.ref yt, .int rT, .int rH, .int (nI G), .ref yw, .int (nI K), .ref yp, .ref yg, .int (nI M), .ref yu, .int (nI N), .ref ysl, .ref yin, .ref yse, .ref ysp, .ref ypa, .int rA, .ref yb, .ref ybd, .ref ybc, .ref yr, .int rF, .int rP, .ref ywd, .int (nI e), .int rN, .int rO, .int rW, .int rL, .int rD, .ref yd, .int rI, .int rX, .int rY, .int rZ, .int rU, .ref yro, .ref yc, .ref ybe, .ref yco, .long rC, .long rV])), (yt, .inl (g.2.1 1, 400, .inl qT)), (ywd, .inl (g.2.1 1, 77, .inl qW))] := by
  refine pz_iload 7 F rfl dX9_wordAt_57 ?_
  refine pz_iload 5 F rfl dX9_wordAt_59 ?_
  refine pz_icmp_ge (tgt := 104) F dX9_wordAt_61 (by decide) (fun q_1 => ?_) (fun q_1 => ?_)
  · replace vc := vc.1 q_1
    refine pz_iload 6 F rfl dX9_wordAt_104 ?_
    refine pz_if_eq (tgt := 111) F dX9_wordAt_106 (by decide) (fun q_2 => ?_) (fun q_2 => ?_)
    · replace vc := vc.1 q_2
      refine pz_iload 4 F rfl dX9_wordAt_111 ?_
      refine pz_iload 5 F rfl dX9_wordAt_113 ?_
      refine pz_iconst (v := 1) F dX9_wordAt_115 rfl ?_
      refine pz_iadd F dX9_wordAt_116 ?_
      refine pz_iadd F dX9_wordAt_117 ?_
      refine pz_topi (fun x_3 ex_3 => ?_)
      replace vc := vc x_3 ex_3
      refine pz_istore (lv' := [(4, .int x_3), (0, .ref h0), (1, .int x), (2, .int y), (3, .int kk), (5, .int nn), (6, .int sm), (7, .int ii)]) F dX9_wordAt_118 (by decide) rfl ?_
      obtain ⟨x_4, ex_4⟩ : ∃ z : Int32, z = kk + 1 := ⟨_, rfl⟩
      replace vc := vc x_4 ex_4
      refine pz_iinc (v := x_4) (lv' := [(3, .int x_4), (4, .int x_3), (0, .ref h0), (1, .int x), (2, .int y), (5, .int nn), (6, .int sm), (7, .int ii)]) 4 F rfl dX9_wordAt_120 (by rw [ex_4]; rfl) (by decide) rfl ?_
      refine pz_goto (tgt := 5) F dX9_wordAt_123 (by decide) ?_
      exact pz_sub [2, 3, 4, 0, 1] [0, 1, 2] rfl rfl rfl (hT5 x_4 x_3 vc)
    · replace vc := vc.2 q_2
      refine pz_iload_n 3 F rfl dX9_wordAt_109 rfl ?_
      exact pz_ireturn (w1 := [(h0, .inr (8, [.ref yt, .int rT, .int rH, .int (nI G), .ref yw, .int (nI K), .ref yp, .ref yg, .int (nI M), .ref yu, .int (nI N), .ref ysl, .ref yin, .ref yse, .ref ysp, .ref ypa, .int rA, .ref yb, .ref ybd, .ref ybc, .ref yr, .int rF, .int rP, .ref ywd, .int (nI e), .int rN, .int rO, .int rW, .int rL, .int rD, .ref yd, .int rI, .int rX, .int rY, .int rZ, .int rU, .ref yro, .ref yc, .ref ybe, .ref yco, .long rC, .long rV])), (yt, .inl (g.2.1 1, 400, .inl qT)), (ywd, .inl (g.2.1 1, 77, .inl qW))]) F Rt (by decide) (by decide) dX9_wordAt_110 [0, 1, 2] rfl rfl rfl vc
  · replace vc := vc.2 q_1
    refine pz_iload 6 F rfl dX9_wordAt_64 ?_
    refine pz_if_eq (tgt := 104) F dX9_wordAt_66 (by decide) (fun q_5 => ?_) (fun q_5 => ?_)
    · replace vc := vc.1 q_5
      refine pz_iload 6 F rfl dX9_wordAt_104 ?_
      refine pz_if_eq (tgt := 111) F dX9_wordAt_106 (by decide) (fun q_6 => ?_) (fun q_6 => ?_)
      · replace vc := vc.1 q_6
        refine pz_iload 4 F rfl dX9_wordAt_111 ?_
        refine pz_iload 5 F rfl dX9_wordAt_113 ?_
        refine pz_iconst (v := 1) F dX9_wordAt_115 rfl ?_
        refine pz_iadd F dX9_wordAt_116 ?_
        refine pz_iadd F dX9_wordAt_117 ?_
        refine pz_topi (fun x_7 ex_7 => ?_)
        replace vc := vc x_7 ex_7
        refine pz_istore (lv' := [(4, .int x_7), (0, .ref h0), (1, .int x), (2, .int y), (3, .int kk), (5, .int nn), (6, .int sm), (7, .int ii)]) F dX9_wordAt_118 (by decide) rfl ?_
        obtain ⟨x_8, ex_8⟩ : ∃ z : Int32, z = kk + 1 := ⟨_, rfl⟩
        replace vc := vc x_8 ex_8
        refine pz_iinc (v := x_8) (lv' := [(3, .int x_8), (4, .int x_7), (0, .ref h0), (1, .int x), (2, .int y), (5, .int nn), (6, .int sm), (7, .int ii)]) 4 F rfl dX9_wordAt_120 (by rw [ex_8]; rfl) (by decide) rfl ?_
        refine pz_goto (tgt := 5) F dX9_wordAt_123 (by decide) ?_
        exact pz_sub [2, 3, 4, 0, 1] [0, 1, 2] rfl rfl rfl (hT5 x_8 x_7 vc)
      · replace vc := vc.2 q_6
        refine pz_iload_n 3 F rfl dX9_wordAt_109 rfl ?_
        exact pz_ireturn (w1 := [(h0, .inr (8, [.ref yt, .int rT, .int rH, .int (nI G), .ref yw, .int (nI K), .ref yp, .ref yg, .int (nI M), .ref yu, .int (nI N), .ref ysl, .ref yin, .ref yse, .ref ysp, .ref ypa, .int rA, .ref yb, .ref ybd, .ref ybc, .ref yr, .int rF, .int rP, .ref ywd, .int (nI e), .int rN, .int rO, .int rW, .int rL, .int rD, .ref yd, .int rI, .int rX, .int rY, .int rZ, .int rU, .ref yro, .ref yc, .ref ybe, .ref yco, .long rC, .long rV])), (yt, .inl (g.2.1 1, 400, .inl qT)), (ywd, .inl (g.2.1 1, 77, .inl qW))]) F Rt (by decide) (by decide) dX9_wordAt_110 [0, 1, 2] rfl rfl rfl vc
    · replace vc := vc.2 q_5
      refine pz_aload_n 0 F rfl dX9_wordAt_69 rfl ?_
      refine pz_get (ci := 8) (C := RX9) (T := TX9) (N := 42) (v := .ref ywd) 0 F rfl rfl pz_inX9 23 (by decide) pw_831 rfl dX9_wordAt_70 ?_
      refine pz_iload 4 F rfl dX9_wordAt_73 ?_
      refine pz_iload 7 F rfl dX9_wordAt_75 ?_
      refine pz_iadd F dX9_wordAt_77 ?_
      obtain ⟨h_9, vc⟩ := vc
      refine pz_iaload 2 F rfl h_9 dX9_wordAt_78 ?_
      refine pz_aload_n 0 F rfl dX9_wordAt_79 rfl ?_
      refine pz_get (ci := 8) (C := RX9) (T := TX9) (N := 42) (v := .ref yt) 0 F rfl rfl pz_inX9 0 (by decide) pw_808 rfl dX9_wordAt_80 ?_
      refine pz_iload_n 1 F rfl dX9_wordAt_83 rfl ?_
      refine pz_iload 7 F rfl dX9_wordAt_84 ?_
      refine pz_iadd F dX9_wordAt_86 ?_
      obtain ⟨h_10, vc⟩ := vc
      refine pz_iaload 1 F rfl h_10 dX9_wordAt_87 ?_
      refine pz_icmp_ne (tgt := 95) F dX9_wordAt_88 (by decide) (fun q_11 => ?_) (fun q_11 => ?_)
      · replace vc := vc.1 q_11
        refine pz_iconst (v := 0) F dX9_wordAt_95 rfl ?_
        refine pz_istore (lv' := [(6, .int 0), (0, .ref h0), (1, .int x), (2, .int y), (3, .int kk), (4, .int at_), (5, .int nn), (7, .int ii)]) F dX9_wordAt_96 (by decide) rfl ?_
        obtain ⟨x_12, ex_12⟩ : ∃ z : Int32, z = ii + 1 := ⟨_, rfl⟩
        replace vc := vc x_12 ex_12
        refine pz_iinc (v := x_12) (lv' := [(7, .int x_12), (6, .int 0), (0, .ref h0), (1, .int x), (2, .int y), (3, .int kk), (4, .int at_), (5, .int nn)]) 7 F rfl dX9_wordAt_98 (by rw [ex_12]; rfl) (by decide) rfl ?_
        refine pz_goto (tgt := 57) F dX9_wordAt_101 (by decide) ?_
        exact pz_sub [2, 3, 4, 5, 6, 7, 1, 0] [0, 1, 2] rfl rfl rfl (hT57 kk at_ nn 0 x_12 vc)
      · replace vc := vc.2 q_11
        refine pz_iconst (v := 1) F dX9_wordAt_91 rfl ?_
        refine pz_goto (tgt := 96) F dX9_wordAt_92 (by decide) ?_
        refine pz_istore (lv' := [(6, .int 1), (0, .ref h0), (1, .int x), (2, .int y), (3, .int kk), (4, .int at_), (5, .int nn), (7, .int ii)]) F dX9_wordAt_96 (by decide) rfl ?_
        obtain ⟨x_13, ex_13⟩ : ∃ z : Int32, z = ii + 1 := ⟨_, rfl⟩
        replace vc := vc x_13 ex_13
        refine pz_iinc (v := x_13) (lv' := [(7, .int x_13), (6, .int 1), (0, .ref h0), (1, .int x), (2, .int y), (3, .int kk), (4, .int at_), (5, .int nn)]) 7 F rfl dX9_wordAt_98 (by rw [ex_13]; rfl) (by decide) rfl ?_
        refine pz_goto (tgt := 57) F dX9_wordAt_101 (by decide) ?_
        exact pz_sub [2, 3, 4, 5, 6, 7, 1, 0] [0, 1, 2] rfl rfl rfl (hT57 kk at_ nn 1 x_13 vc)
theorem lpX9_wordAt_57 {B : pz_B} {g : pz_G} {wc : va_W} {Post : Option Value → va_W → Prop} (F : pz_F B cX9_wordAt 8 (some .int) yX9_wordAt.cls g rmX9_wordAt) (Rt : pz_Rt B g wc Post rmX9_wordAt) (x : Int32) (y : Int32) (h0 : Nat) (yt : Nat) (rT : Int32) (rH : Int32) (yw : Nat) (yp : Nat) (yg : Nat) (yu : Nat) (ysl : Nat) (yin : Nat) (yse : Nat) (ysp : Nat) (ypa : Nat) (rA : Int32) (yb : Nat) (ybd : Nat) (ybc : Nat) (yr : Nat) (rF : Int32) (rP : Int32) (ywd : Nat) (rN : Int32) (rO : Int32) (rW : Int32) (rL : Int32) (rD : Int32) (yd : Nat) (rI : Int32) (rX : Int32) (rY : Int32) (rZ : Int32) (rU : Int32) (yro : Nat) (yc : Nat) (ybe : Nat) (yco : Nat) (rC : Int64) (rV : Int64) (qT : Nat → Int32) (qW : Nat → Int32) (G : Nat) (K : Nat) (M : Nat) (N : Nat) (e : Nat) (a : Nat) (b' : Nat) (T5 : Int32 → Int32 → Prop) (hT5 : ∀ (kk : Int32) (at_ : Int32), T5 kk at_ → paX9_wordAt_5 B g x y h0 yt rT rH yw yp yg yu ysl yin yse ysp ypa rA yb ybd ybc yr rF rP ywd rN rO rW rL rD yd rI rX rY rZ rU yro yc ybe yco rC rV qT qW G K M N e a b' kk at_) (Inv : Nat → Int32 → Int32 → Int32 → Int32 → Int32 → Prop) (step : ∀ (mz : Nat) (kk : Int32) (at_ : Int32) (nn : Int32) (sm : Int32) (ii : Int32), Inv mz kk at_ nn sm ii → ∀ TT : Int32 → Int32 → Int32 → Int32 → Int32 → Prop, TT = (fun kk at_ nn sm ii => ∃ mz', mz' < mz ∧ Inv mz' kk at_ nn sm ii) → ((nn ≤ ii → ((sm = 0 → ∀ x_3 : Int32, x_3 = (at_ + (nn + 1)) → ∀ x_4 : Int32, x_4 = kk + 1 → T5 x_4 x_3) ∧ (¬ sm = 0 → Post (some (.int kk)) [(h0, .inr (8, [.ref yt, .int rT, .int rH, .int (nI G), .ref yw, .int (nI K), .ref yp, .ref yg, .int (nI M), .ref yu, .int (nI N), .ref ysl, .ref yin, .ref yse, .ref ysp, .ref ypa, .int rA, .ref yb, .ref ybd, .ref ybc, .ref yr, .int rF, .int rP, .ref ywd, .int (nI e), .int rN, .int rO, .int rW, .int rL, .int rD, .ref yd, .int rI, .int rX, .int rY, .int rZ, .int rU, .ref yro, .ref yc, .ref ybe, .ref yco, .long rC, .long rV])), (yt, .inl (g.2.1 1, 400, .inl qT)), (ywd, .inl (g.2.1 1, 77, .inl qW))]))) ∧ (¬ nn ≤ ii → ((sm = 0 → ((sm = 0 → ∀ x_7 : Int32, x_7 = (at_ + (nn + 1)) → ∀ x_8 : Int32, x_8 = kk + 1 → T5 x_8 x_7) ∧ (¬ sm = 0 → Post (some (.int kk)) [(h0, .inr (8, [.ref yt, .int rT, .int rH, .int (nI G), .ref yw, .int (nI K), .ref yp, .ref yg, .int (nI M), .ref yu, .int (nI N), .ref ysl, .ref yin, .ref yse, .ref ysp, .ref ypa, .int rA, .ref yb, .ref ybd, .ref ybc, .ref yr, .int rF, .int rP, .ref ywd, .int (nI e), .int rN, .int rO, .int rW, .int rL, .int rD, .ref yd, .int rI, .int rX, .int rY, .int rZ, .int rU, .ref yro, .ref yc, .ref ybe, .ref yco, .long rC, .long rV])), (yt, .inl (g.2.1 1, 400, .inl qT)), (ywd, .inl (g.2.1 1, 77, .inl qW))]))) ∧ (¬ sm = 0 → vp_in (at_ + ii) 77 ∧ vp_in (x + ii) 400 ∧ ((¬ (qW (at_ + ii).toNatClampNeg) = (qT (x + ii).toNatClampNeg) → ∀ x_12 : Int32, x_12 = ii + 1 → TT kk at_ nn 0 x_12) ∧ ((qW (at_ + ii).toNatClampNeg) = (qT (x + ii).toNatClampNeg) → ∀ x_13 : Int32, x_13 = ii + 1 → TT kk at_ nn 1 x_13))))))) : ∀ (mz : Nat) (kk : Int32) (at_ : Int32) (nn : Int32) (sm : Int32) (ii : Int32), Inv mz kk at_ nn sm ii → paX9_wordAt_57 B g x y h0 yt rT rH yw yp yg yu ysl yin yse ysp ypa rA yb ybd ybc yr rF rP ywd rN rO rW rL rD yd rI rX rY rZ rU yro yc ybe yco rC rV qT qW G K M N e a b' kk at_ nn sm ii := by
  intro mz
  induction mz using Nat.strongRecOn with
  | _ mz ih =>
    intro kk at_ nn sm ii hI
    exact sgX9_wordAt_57 F Rt x y h0 yt rT rH yw yp yg yu ysl yin yse ysp ypa rA yb ybd ybc yr rF rP ywd rN rO rW rL rD yd rI rX rY rZ rU yro yc ybe yco rC rV qT qW G K M N e a b' T5 hT5 (fun kk at_ nn sm ii => ∃ mz', mz' < mz ∧ Inv mz' kk at_ nn sm ii) (fun kk at_ nn sm ii ⟨mz', h1, h2⟩ => ih mz' h1 kk at_ nn sm ii h2) kk at_ nn sm ii (step mz kk at_ nn sm ii hI _ rfl)
set_option maxHeartbeats 4000000 in
set_option maxRecDepth 100000 in
theorem ctX9_wordAt (l : Launch) (g : pz_G) (x : Int32) (y : Int32) (h0 : Nat) (yt : Nat) (rT : Int32) (rH : Int32) (yw : Nat) (yp : Nat) (yg : Nat) (yu : Nat) (ysl : Nat) (yin : Nat) (yse : Nat) (ysp : Nat) (ypa : Nat) (rA : Int32) (yb : Nat) (ybd : Nat) (ybc : Nat) (yr : Nat) (rF : Int32) (rP : Int32) (ywd : Nat) (rN : Int32) (rO : Int32) (rW : Int32) (rL : Int32) (rD : Int32) (yd : Nat) (rI : Int32) (rX : Int32) (rY : Int32) (rZ : Int32) (rU : Int32) (yro : Nat) (yc : Nat) (ybe : Nat) (yco : Nat) (rC : Int64) (rV : Int64) (qT : Nat → Int32) (qW : Nat → Int32) (G : Nat) (K : Nat) (M : Nat) (N : Nat) (e : Nat) (a : Nat) (b' : Nat) (hpre : a ≤ b' ∧ b' ≤ e ∧ e ≤ 400 ∧ (∀ a, a < 77 → qW a = pz_wd.getD a 0) ∧ x = nI a ∧ y = nI b') : pz_Ct l g yX9_wordAt cX9_wordAt 8 (some .int) rmX9_wordAt [.ref h0, .int x, .int y] [(h0, .inr (8, [.ref yt, .int rT, .int rH, .int (nI G), .ref yw, .int (nI K), .ref yp, .ref yg, .int (nI M), .ref yu, .int (nI N), .ref ysl, .ref yin, .ref yse, .ref ysp, .ref ypa, .int rA, .ref yb, .ref ybd, .ref ybc, .ref yr, .int rF, .int rP, .ref ywd, .int (nI e), .int rN, .int rO, .int rW, .int rL, .int rD, .ref yd, .int rI, .int rX, .int rY, .int rZ, .int rU, .ref yro, .ref yc, .ref ybe, .ref yco, .long rC, .long rV])), (yt, .inl (g.2.1 1, 400, .inl qT)), (ywd, .inl (g.2.1 1, 77, .inl qW))] (pz_pi (fun (r : Int32) (u : Unit) => r = rt_w0 (rt_c qT e) a b') (fun (u : Unit) => [(h0, .inr (8, [.ref yt, .int rT, .int rH, .int (nI G), .ref yw, .int (nI K), .ref yp, .ref yg, .int (nI M), .ref yu, .int (nI N), .ref ysl, .ref yin, .ref yse, .ref ysp, .ref ypa, .int rA, .ref yb, .ref ybd, .ref ybc, .ref yr, .int rF, .int rP, .ref ywd, .int (nI e), .int rN, .int rO, .int rW, .int rL, .int rD, .ref yd, .int rI, .int rX, .int rY, .int rZ, .int rU, .ref yro, .ref yc, .ref ybe, .ref yco, .long rC, .long rV])), (yt, .inl (g.2.1 1, 400, .inl qT)), (ywd, .inl (g.2.1 1, 77, .inl qW))])) := by
  refine pz_ofAt (by decide +kernel) (Nat.le_of_ble_eq_true rfl) (fun B F Rt hme => ?_)
  obtain ⟨hab, hbe, he, hW, h1, h2⟩ := hpre
  subst h1; subst h2
  have main : ∀ (m : Nat) (kk at_ : Int32), (∃ k, k + m = 13 ∧ kk = nI k ∧ at_ = nI (wo_off k) ∧ ∀ x, x < k → pu_wb (rt_c qT e) a b' x = false) → paX9_wordAt_5 B g (nI a) (nI b') h0 yt rT rH yw yp yg yu ysl yin yse ysp ypa rA yb ybd ybc yr rF rP ywd rN rO rW rL rD yd rI rX rY rZ rU yro yc ybe yco rC rV qT qW G K M N e a b' kk at_ := by
    intro m
    induction m using Nat.strongRecOn with
    | _ m ih =>
      rintro kk at_ ⟨k, hk, rfl, rfl, hno⟩
      refine sgX9_wordAt_5 F Rt (nI a) (nI b') h0 yt rT rH yw yp yg yu ysl yin yse ysp ypa rA yb ybd ybc yr rF rP ywd rN rO rW rL rD yd rI rX rY rZ rU yro yc ybe yco rC rV qT qW G K M N e a b' (fun kk at_ nn => kk = nI k ∧ at_ = nI (wo_off k) ∧ k < 13 ∧ ∃ i, i ≤ pz_ln k ∧ nn = nI i) ?_ _ _ ?_
      · rintro kk at_ nn ⟨rfl, rfl, hk13, i, hi, rfl⟩
        obtain ⟨w1, w2, w3⟩ := wo_f2 hk13
        have hl8 := pz_ln8 (i := k) (by omega)
        refine lpX9_wordAt_18 F Rt (nI a) (nI b') h0 yt rT rH yw yp yg yu ysl yin yse ysp ypa rA yb ybd ybc yr rF rP ywd rN rO rW rL rD yd rI rX rY rZ rU yro yc ybe yco rC rV qT qW G K M N e a b' (fun kk at_ nn sm ii => kk = nI k ∧ at_ = nI (wo_off k) ∧ nn = nI (pz_ln k) ∧ ii = nI 0 ∧ ((sm = 1 ∧ b' = a + pz_ln k) ∨ (sm = 0 ∧ ¬ b' = a + pz_ln k))) ?_ (fun z kk at_ nn => kk = nI k ∧ at_ = nI (wo_off k) ∧ ∃ i, i + z = pz_ln k ∧ nn = nI i) ?_ (pz_ln k - i) _ _ _ ⟨rfl, rfl, i, by omega, rfl⟩
        · rintro kk at_ nn sm ii ⟨rfl, rfl, rfl, rfl, hsm⟩
          refine lpX9_wordAt_57 F Rt (nI a) (nI b') h0 yt rT rH yw yp yg yu ysl yin yse ysp ypa rA yb ybd ybc yr rF rP ywd rN rO rW rL rD yd rI rX rY rZ rU yro yc ybe yco rC rV qT qW G K M N e a b' (fun kk at_ => ∃ m', m' < m ∧ ∃ k, k + m' = 13 ∧ kk = nI k ∧ at_ = nI (wo_off k) ∧ ∀ x, x < k → pu_wb (rt_c qT e) a b' x = false) (fun kk at_ ⟨m', h1, h2⟩ => ih m' h1 kk at_ h2) (fun z kk at_ nn sm ii => kk = nI k ∧ at_ = nI (wo_off k) ∧ nn = nI (pz_ln k) ∧ ∃ i, i + z = pz_ln k ∧ ii = nI i ∧ ((sm = 1 ∧ b' = a + pz_ln k ∧ ∀ x, x < i → (rt_c qT e) (a + x) = pz_by k x) ∨ (sm = 0 ∧ ¬ pu_wd (rt_c qT e) a b' k))) ?_ (pz_ln k) _ _ _ _ _ ⟨rfl, rfl, rfl, 0, by omega, rfl, ?_⟩
          · rintro z kk at_ nn sm ii ⟨rfl, rfl, rfl, i, hi, rfl, hs⟩ TT rfl
            have next : ¬ pu_wd (rt_c qT e) a b' k → ∀ x : Int32, x = nI (wo_off k) + (nI (pz_ln k) + 1) → ∀ y : Int32, y = nI k + 1 → ∃ m', m' < m ∧ ∃ k, k + m' = 13 ∧ y = nI k ∧ x = nI (wo_off k) ∧ ∀ x, x < k → pu_wb (rt_c qT e) a b' x = false := by
              rintro hn x rfl y rfl
              refine ⟨m - 1, by omega, k + 1, by omega, nI_1 k, by rw [nI_1, nI_add, w2, Nat.add_assoc], fun x hx => ?_⟩
              by_cases ee : x = k
              · rw [ee]
                cases hc : pu_wb (rt_c qT e) a b' k
                · rfl
                · exact absurd (pu_wb_iff.mp hc) hn
              · exact hno x (by omega)
            have fin : ∀ (h3 : pz_ln k ≤ i), (¬ sm = 0 → pu_wd (rt_c qT e) a b' k) := by
              intro h3 hs0
              rcases hs with ⟨_, hb, hx⟩ | ⟨h0, _⟩
              · exact ⟨hb, fun x hx2 => hx x (by omega)⟩
              · exact absurd h0 hs0
            have ret : pu_wd (rt_c qT e) a b' k → nI k = rt_w0 (rt_c qT e) a b' := fun h => (rt_w0_some hk13 (pu_wb_iff.mpr h) hno).symm
            refine ⟨fun q => ?_, fun q => ?_⟩
            · have h3 := pu_ge (by omega) q
              refine ⟨fun q2 => next ?_, fun q2 => ⟨_, (), rfl, rfl, ret (fin h3 q2)⟩⟩
              rcases hs with ⟨h0, _⟩ | ⟨_, h0⟩
              · rw [h0] at q2; exact absurd q2 (by decide)
              · exact h0
            · have h3 := pu_lt (by omega) (by omega) q
              refine ⟨fun q2 => ⟨fun _ => next ?_, fun q3 => absurd q2 q3⟩, fun q2 => ?_⟩
              · rcases hs with ⟨h0, _⟩ | ⟨_, h0⟩
                · rw [h0] at q2; exact absurd q2 (by decide)
                · exact h0
              · rcases hs with ⟨rfl, hb, hx⟩ | ⟨h0, _⟩
                · obtain ⟨c1, c2⟩ := wo_f1 hk13 h3
                  rw [nI_add, nI_add, nI_clamp (by omega), nI_clamp (by omega), hW _ (by omega), c1]
                  have hct : (rt_c qT e) (a + i) = qT (a + i) := by unfold rt_c; rw [if_pos (by omega)]
                  refine ⟨vp_in_nI (by omega) (by omega), vp_in_nI (by omega) (by omega), fun q3 => ?_, fun q3 => ?_⟩
                  · rintro y rfl
                    refine ⟨z - 1, by omega, rfl, rfl, rfl, i + 1, by omega, nI_1 i, Or.inr ⟨rfl, fun h => q3 ?_⟩⟩
                    rw [← h.2 i h3, hct]
                  · rintro y rfl
                    refine ⟨z - 1, by omega, rfl, rfl, rfl, i + 1, by omega, nI_1 i, Or.inl ⟨rfl, hb, fun x hx2 => ?_⟩⟩
                    by_cases e : x = i
                    · rw [e, hct, q3]
                    · exact hx x (by omega)
                · exact absurd h0 q2
          · rcases hsm with ⟨h0, hb⟩ | ⟨h0, hb⟩
            · exact Or.inl ⟨h0, hb, fun x hx => absurd hx (by omega)⟩
            · exact Or.inr ⟨h0, fun h => hb h.1⟩
        · rintro z kk at_ nn ⟨rfl, rfl, i, hi, rfl⟩ TT rfl
          rw [nI_add, nI_clamp (by omega), hW _ (by omega), pk_sub hab]
          refine ⟨vp_in_nI (by omega) (by omega), fun q => ?_, fun q => ?_⟩
          · have hil : i = pz_ln k := by
              rcases Nat.lt_or_ge i (pz_ln k) with h | h
              · obtain ⟨c1, c2⟩ := wo_f1 hk13 h
                rw [c1] at q
                exact absurd q c2
              · omega
            subst hil
            refine ⟨fun q2 => ⟨rfl, rfl, rfl, rfl, Or.inr ⟨rfl, fun e => q2 ?_⟩⟩, fun q2 => ⟨rfl, rfl, rfl, rfl, Or.inl ⟨rfl, ?_⟩⟩⟩
            · exact congrArg nI (by omega)
            · have := (nI_eq (by omega) (by omega)).mp q2
              omega
          · have hil : i < pz_ln k := by
              rcases Nat.lt_or_ge i (pz_ln k) with h | h
              · exact h
              · have e : i = pz_ln k := by omega
                rw [e, w1] at q
                exact absurd rfl q
            rintro y rfl
            exact ⟨z - 1, by omega, rfl, rfl, i + 1, by omega, nI_1 i⟩
      · refine ⟨fun q => ?_, fun q => ?_⟩
        · have h77 : 77 ≤ wo_off k := pu_ge (n := 77) (by have : wo_off k ≤ 77 := wo_le k; omega) q
          have hk13 : k = 13 := by
            rcases Nat.lt_or_ge k 13 with h | h
            · have := (wo_f2 h).2.2
              omega
            · omega
          subst hk13
          exact ⟨_, (), rfl, rfl, (rt_w0_none hno).symm⟩
        · have h77 : wo_off k < 77 := pu_lt (n := 77) (by have : wo_off k ≤ 77 := wo_le k; omega) (by omega) q
          have hk13 : k < 13 := by
            rcases Nat.lt_or_ge k 13 with h | h
            · exact h
            · have e : k = 13 := by omega
              rw [e] at h77
              exact absurd h77 (by decide)
          exact ⟨rfl, rfl, hk13, 0, by omega, nI_0.symm⟩
  exact sgX9_wordAt_0 F Rt (nI a) (nI b') h0 yt rT rH yw yp yg yu ysl yin yse ysp ypa rA yb ybd ybc yr rF rP ywd rN rO rW rL rD yd rI rX rY rZ rU yro yc ybe yco rC rV qT qW G K M N e a b' _ (fun kk at_ => main 13 kk at_) ⟨0, by omega, nI_0.symm, rfl, fun x hx => absurd hx (by omega)⟩
