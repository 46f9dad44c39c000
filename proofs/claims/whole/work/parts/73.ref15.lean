
abbrev rmX9_bid_V : Room := { frames := 2, cells := 0, slots := 0, locals := 42 }
abbrev paX9_bid_V_51 (B : pz_B) (g : pz_G) (m : Int32) (x : Int32) (c : Int32) (h0 : Nat) (yt : Nat) (rT : Int32) (rH : Int32) (yw : Nat) (yp : Nat) (yg : Nat) (yu : Nat) (ysl : Nat) (yin : Nat) (yse : Nat) (ysp : Nat) (ypa : Nat) (rA : Int32) (yb : Nat) (ybd : Nat) (ybc : Nat) (yr : Nat) (rF : Int32) (rP : Int32) (ywd : Nat) (rS : Int32) (rN : Int32) (rO : Int32) (rW : Int32) (rL : Int32) (rD : Int32) (yd : Nat) (rI : Int32) (rX : Int32) (rY : Int32) (rZ : Int32) (rU : Int32) (yro : Nat) (yc : Nat) (ybe : Nat) (yco : Nat) (rC : Int64) (rV : Int64) (qk : Nat → Int32) (qa : Nat → Int32) (qb : Nat → Int32) (qd : Nat → Int32) (qc : Nat → Int32) (G : Nat) (K : Nat) (M : Nat) (N : Nat) (b : Nat) (Bc : Nat) (i : Int32) : Prop := pz_At B 0 0 51 [(0, .ref h0), (1, .int m), (2, .int x), (3, .int c), (4, .int i)] [] [(h0, .inr (8, [.ref yt, .int rT, .int 0, .int (nI G), .ref yw, .int (nI K), .ref yp, .ref yg, .int (nI M), .ref yu, .int (nI N), .ref ysl, .ref yin, .ref yse, .ref ysp, .ref ypa, .int rA, .ref yb, .ref ybd, .ref ybc, .ref yr, .int rF, .int rP, .ref ywd, .int rS, .int rN, .int rO, .int rW, .int rL, .int rD, .ref yd, .int rI, .int rX, .int rY, .int rZ, .int rU, .ref yro, .ref yc, .ref ybe, .ref yco, .long rC, .long rV])), (ysp, .inl (g.2.1 3, 10, .inl qk)), (ypa, .inl (g.2.1 1, 80, .inl qa)), (yb, .inl (g.2.1 1, 10, .inl qb)), (ybd, .inl (g.2.1 1, 80, .inl qd)), (ybc, .inl (g.2.1 1, 80, .inl qc))]
set_option maxHeartbeats 4000000 in
set_option maxRecDepth 100000 in
theorem sgX9_bid_V_0 {B : pz_B} {g : pz_G} {wc : va_W} {Post : Option Value → va_W → Prop} (F : pz_F B cX9_bid 5 (some .int) yX9_bid.cls g rmX9_bid_V) (Rt : pz_Rt B g wc Post rmX9_bid_V) (m : Int32) (x : Int32) (c : Int32) (h0 : Nat) (yt : Nat) (rT : Int32) (rH : Int32) (yw : Nat) (yp : Nat) (yg : Nat) (yu : Nat) (ysl : Nat) (yin : Nat) (yse : Nat) (ysp : Nat) (ypa : Nat) (rA : Int32) (yb : Nat) (ybd : Nat) (ybc : Nat) (yr : Nat) (rF : Int32) (rP : Int32) (ywd : Nat) (rS : Int32) (rN : Int32) (rO : Int32) (rW : Int32) (rL : Int32) (rD : Int32) (yd : Nat) (rI : Int32) (rX : Int32) (rY : Int32) (rZ : Int32) (rU : Int32) (yro : Nat) (yc : Nat) (ybe : Nat) (yco : Nat) (rC : Int64) (rV : Int64) (qk : Nat → Int32) (qa : Nat → Int32) (qb : Nat → Int32) (qd : Nat → Int32) (qc : Nat → Int32) (G : Nat) (K : Nat) (M : Nat) (N : Nat) (b : Nat) (Bc : Nat) (T51 : Int32 → Prop) (hT51 : ∀ (i : Int32), T51 i → paX9_bid_V_51 B g m x c h0 yt rT rH yw yp yg yu ysl yin yse ysp ypa rA yb ybd ybc yr rF rP ywd rS rN rO rW rL rD yd rI rX rY rZ rU yro yc ybe yco rC rV qk qa qb qd qc G K M N b Bc i)  (vc : ∀ r_1 : Int32, ∀ _ : (r_1 = if m < 0 then 0 else if (nI M) ≤ m then 0 else 1), ((r_1 = 0 → Post (some (.int (-1))) [(h0, .inr (8, [.ref yt, .int rT, .int 0, .int (nI G), .ref yw, .int (nI K), .ref yp, .ref yg, .int (nI M), .ref yu, .int (nI N), .ref ysl, .ref yin, .ref yse, .ref ysp, .ref ypa, .int rA, .ref yb, .ref ybd, .ref ybc, .ref yr, .int rF, .int rP, .ref ywd, .int rS, .int rN, .int rO, .int rW, .int rL, .int rD, .ref yd, .int rI, .int rX, .int rY, .int rZ, .int rU, .ref yro, .ref yc, .ref ybe, .ref yco, .long rC, .long rV])), (ysp, .inl (g.2.1 3, 10, .inl qk)), (ypa, .inl (g.2.1 1, 80, .inl qa)), (yb, .inl (g.2.1 1, 10, .inl qb)), (ybd, .inl (g.2.1 1, 80, .inl qd)), (ybc, .inl (g.2.1 1, 80, .inl qc))]) ∧ (¬ r_1 = 0 → (N ≤ 10) ∧ ∀ r_5 : Int32, ∀ _ : ((wh_ok x N qk ∧ r_5 = 1) ∨ (¬ wh_ok x N qk ∧ r_5 = 0)), ((r_5 = 0 → Post (some (.int (-1))) [(h0, .inr (8, [.ref yt, .int rT, .int 0, .int (nI G), .ref yw, .int (nI K), .ref yp, .ref yg, .int (nI M), .ref yu, .int (nI N), .ref ysl, .ref yin, .ref yse, .ref ysp, .ref ypa, .int rA, .ref yb, .ref ybd, .ref ybc, .ref yr, .int rF, .int rP, .ref ywd, .int rS, .int rN, .int rO, .int rW, .int rL, .int rD, .ref yd, .int rI, .int rX, .int rY, .int rZ, .int rU, .ref yro, .ref yc, .ref ybe, .ref yco, .long rC, .long rV])), (ysp, .inl (g.2.1 3, 10, .inl qk)), (ypa, .inl (g.2.1 1, 80, .inl qa)), (yb, .inl (g.2.1 1, 10, .inl qb)), (ybd, .inl (g.2.1 1, 80, .inl qd)), (ybc, .inl (g.2.1 1, 80, .inl qc))]) ∧ (¬ r_5 = 0 → ((c < 1 → Post (some (.int (-1))) [(h0, .inr (8, [.ref yt, .int rT, .int 0, .int (nI G), .ref yw, .int (nI K), .ref yp, .ref yg, .int (nI M), .ref yu, .int (nI N), .ref ysl, .ref yin, .ref yse, .ref ysp, .ref ypa, .int rA, .ref yb, .ref ybd, .ref ybc, .ref yr, .int rF, .int rP, .ref ywd, .int rS, .int rN, .int rO, .int rW, .int rL, .int rD, .ref yd, .int rI, .int rX, .int rY, .int rZ, .int rU, .ref yro, .ref yc, .ref ybe, .ref yco, .long rC, .long rV])), (ysp, .inl (g.2.1 3, 10, .inl qk)), (ypa, .inl (g.2.1 1, 80, .inl qa)), (yb, .inl (g.2.1 1, 10, .inl qb)), (ybd, .inl (g.2.1 1, 80, .inl qd)), (ybc, .inl (g.2.1 1, 80, .inl qc))]) ∧ (¬ c < 1 → (((99999 : Int32) < c → Post (some (.int (-1))) [(h0, .inr (8, [.ref yt, .int rT, .int 0, .int (nI G), .ref yw, .int (nI K), .ref yp, .ref yg, .int (nI M), .ref yu, .int (nI N), .ref ysl, .ref yin, .ref yse, .ref ysp, .ref ypa, .int rA, .ref yb, .ref ybd, .ref ybc, .ref yr, .int rF, .int rP, .ref ywd, .int rS, .int rN, .int rO, .int rW, .int rL, .int rD, .ref yd, .int rI, .int rX, .int rY, .int rZ, .int rU, .ref yro, .ref yc, .ref ybe, .ref yco, .long rC, .long rV])), (ysp, .inl (g.2.1 3, 10, .inl qk)), (ypa, .inl (g.2.1 1, 80, .inl qa)), (yb, .inl (g.2.1 1, 10, .inl qb)), (ybd, .inl (g.2.1 1, 80, .inl qd)), (ybc, .inl (g.2.1 1, 80, .inl qc))]) ∧ (¬ (99999 : Int32) < c → vp_in ((8 * x) + m) 80 ∧ (((qa ((8 * x) + m).toNatClampNeg) ≤ 0 → T51 0) ∧ (¬ (qa ((8 * x) + m).toNatClampNeg) ≤ 0 → Post (some (.int (-1))) [(h0, .inr (8, [.ref yt, .int rT, .int 0, .int (nI G), .ref yw, .int (nI K), .ref yp, .ref yg, .int (nI M), .ref yu, .int (nI N), .ref ysl, .ref yin, .ref yse, .ref ysp, .ref ypa, .int rA, .ref yb, .ref ybd, .ref ybc, .ref yr, .int rF, .int rP, .ref ywd, .int rS, .int rN, .int rO, .int rW, .int rL, .int rD, .ref yd, .int rI, .int rX, .int rY, .int rZ, .int rU, .ref yro, .ref yc, .ref ybe, .ref yco, .long rC, .long rV])), (ysp, .inl (g.2.1 3, 10, .inl qk)), (ypa, .inl (g.2.1 1, 80, .inl qa)), (yb, .inl (g.2.1 1, 10, .inl qb)), (ybd, .inl (g.2.1 1, 80, .inl qd)), (ybc, .inl (g.2.1 1, 80, .inl qc))]))))))))))) : pz_At B 0 0 0 [(0, .ref h0), (1, .int m), (2, .int x), (3, .int c)] [] [(h0, .inr (8, [.ref yt, .int rT, .int rH, .int (nI G), .ref yw, .int (nI K), .ref yp, .ref yg, .int (nI M), .ref yu, .int (nI N), .ref ysl, .ref yin, .ref yse, .ref ysp, .ref ypa, .int rA, .ref yb, .ref ybd, .ref ybc, .ref yr, .int rF, .int rP, .ref ywd, .int rS, .int rN, .int rO, .int rW, .int rL, .int rD, .ref yd, .int rI, .int rX, .int rY, .int rZ, .int rU, .ref yro, .ref yc, .ref ybe, .ref yco, .long rC, .long rV])), (ysp, .inl (g.2.1 3, 10, .inl qk)), (ypa, .inl (g.2.1 1, 80, .inl qa)), (yb, .inl (g.2.1 1, 10, .inl qb)), (ybd, .inl (g.2.1 1, 80, .inl qd)), (ybc, .inl (g.2.1 1, 80, .inl qc))] := by
  refine pz_aload_n 0 F rfl dX9_bid_0 rfl ?_
  refine pz_iconst (v := 0) F dX9_bid_1 rfl ?_
  refine pz_put (ws' := [(h0, .inr (8, [.ref yt, .int rT, .int 0, .int (nI G), .ref yw, .int (nI K), .ref yp, .ref yg, .int (nI M), .ref yu, .int (nI N), .ref ysl, .ref yin, .ref yse, .ref ysp, .ref ypa, .int rA, .ref yb, .ref ybd, .ref ybc, .ref yr, .int rF, .int rP, .ref ywd, .int rS, .int rN, .int rO, .int rW, .int rL, .int rD, .ref yd, .int rI, .int rX, .int rY, .int rZ, .int rU, .ref yro, .ref yc, .ref ybe, .ref yco, .long rC, .long rV])), (ysp, .inl (g.2.1 3, 10, .inl qk)), (ypa, .inl (g.2.1 1, 80, .inl qa)), (yb, .inl (g.2.1 1, 10, .inl qb)), (ybd, .inl (g.2.1 1, 80, .inl qd)), (ybc, .inl (g.2.1 1, 80, .inl qc))]) (ci := 8) (C := RX9) (T := TX9) (N := 42) (v := .int 0) (ty := .int) 0 F rfl rfl pz_inX9 2 (by decide) pw_810 tyX9_ok nmX9 rfl rfl rfl rfl (Nat.le_of_ble_eq_true rfl) dX9_bid_2 rfl ?_
  refine pz_aload_n 0 F rfl dX9_bid_5 rfl ?_
  refine pz_iload_n 1 F rfl dX9_bid_6 rfl ?_
  refine pz_callV (nA := 1) (ci := 8) (C := RX9) (T := TX9) (N := 42) (As := [.int m]) (rest := []) (wr := [(ysp, .inl (g.2.1 3, 10, .inl qk)), (ypa, .inl (g.2.1 1, 80, .inl qa)), (yb, .inl (g.2.1 1, 10, .inl qb)), (ybd, .inl (g.2.1 1, 80, .inl qd)), (ybc, .inl (g.2.1 1, 80, .inl qc))]) F (ctX9_isMan _ g m h0 yt rT 0 yw yp yg yu ysl yin yse ysp ypa rA yb ybd ybc yr rF rP ywd rS rN rO rW rL rD yd rI rX rY rZ rU yro yc ybe yco rC rV G K M N) 0 rfl rfl pw_1004 pw_1006 pv_35 pw_8 pw_1007 (by decide +kernel) (by decide) (by decide) rfl rfl (Nat.le_of_ble_eq_true rfl) [0] [1, 2, 3, 4, 5] rfl rfl rfl rfl (by decide) dX9_bid_7 (fun r0 w0 hp0 => ?_)
  obtain ⟨r_1, _, rfl, rfl, hq_2⟩ := hp0
  replace vc := vc r_1  hq_2
  refine pz_eq (st' := [.int r_1]) (ws' := [(ysp, .inl (g.2.1 3, 10, .inl qk)), (ypa, .inl (g.2.1 1, 80, .inl qa)), (yb, .inl (g.2.1 1, 10, .inl qb)), (ybd, .inl (g.2.1 1, 80, .inl qd)), (ybc, .inl (g.2.1 1, 80, .inl qc)), (h0, .inr (8, [.ref yt, .int rT, .int 0, .int (nI G), .ref yw, .int (nI K), .ref yp, .ref yg, .int (nI M), .ref yu, .int (nI N), .ref ysl, .ref yin, .ref yse, .ref ysp, .ref ypa, .int rA, .ref yb, .ref ybd, .ref ybc, .ref yr, .int rF, .int rP, .ref ywd, .int rS, .int rN, .int rO, .int rW, .int rL, .int rD, .ref yd, .int rI, .int rX, .int rY, .int rZ, .int rU, .ref yro, .ref yc, .ref ybe, .ref yco, .long rC, .long rV]))]) rfl rfl ?_
  refine pz_if_eq (tgt := 46) F dX9_bid_10 (by decide) (fun q_3 => ?_) (fun q_3 => ?_)
  · replace vc := vc.1 q_3
    refine pz_iconst (v := (-1)) F dX9_bid_46 rfl ?_
    exact pz_ireturn (w1 := [(h0, .inr (8, [.ref yt, .int rT, .int 0, .int (nI G), .ref yw, .int (nI K), .ref yp, .ref yg, .int (nI M), .ref yu, .int (nI N), .ref ysl, .ref yin, .ref yse, .ref ysp, .ref ypa, .int rA, .ref yb, .ref ybd, .ref ybc, .ref yr, .int rF, .int rP, .ref ywd, .int rS, .int rN, .int rO, .int rW, .int rL, .int rD, .ref yd, .int rI, .int rX, .int rY, .int rZ, .int rU, .ref yro, .ref yc, .ref ybe, .ref yco, .long rC, .long rV])), (ysp, .inl (g.2.1 3, 10, .inl qk)), (ypa, .inl (g.2.1 1, 80, .inl qa)), (yb, .inl (g.2.1 1, 10, .inl qb)), (ybd, .inl (g.2.1 1, 80, .inl qd)), (ybc, .inl (g.2.1 1, 80, .inl qc))]) F Rt (by decide) (by decide) dX9_bid_47 [5, 0, 1, 2, 3, 4] rfl rfl rfl vc
  · replace vc := vc.2 q_3
    refine pz_aload_n 0 F rfl dX9_bid_13 rfl ?_
    refine pz_iload_n 2 F rfl dX9_bid_14 rfl ?_
    obtain ⟨h_4, vc⟩ := vc
    refine pz_callV (nA := 1) (ci := 8) (C := RX9) (T := TX9) (N := 42) (As := [.int x]) (rest := []) (wr := [(ypa, .inl (g.2.1 1, 80, .inl qa)), (yb, .inl (g.2.1 1, 10, .inl qb)), (ybd, .inl (g.2.1 1, 80, .inl qd)), (ybc, .inl (g.2.1 1, 80, .inl qc))]) F (ctX9_isWhole _ g x h0 yt rT 0 yw yp yg yu ysl yin yse ysp ypa rA yb ybd ybc yr rF rP ywd rS rN rO rW rL rD yd rI rX rY rZ rU yro yc ybe yco rC rV qk G K M N h_4) 5 rfl rfl pw_1012 pw_1014 pv_36 pw_8 pw_1015 (by decide +kernel) (by decide) (by decide) rfl rfl (Nat.le_of_ble_eq_true rfl) [5, 0] [1, 2, 3, 4] rfl rfl rfl rfl (by decide) dX9_bid_15 (fun r0 w0 hp0 => ?_)
    obtain ⟨r_5, _, rfl, rfl, hq_6⟩ := hp0
    replace vc := vc r_5  hq_6
    refine pz_eq (st' := [.int r_5]) (ws' := [(ypa, .inl (g.2.1 1, 80, .inl qa)), (yb, .inl (g.2.1 1, 10, .inl qb)), (ybd, .inl (g.2.1 1, 80, .inl qd)), (ybc, .inl (g.2.1 1, 80, .inl qc)), (h0, .inr (8, [.ref yt, .int rT, .int 0, .int (nI G), .ref yw, .int (nI K), .ref yp, .ref yg, .int (nI M), .ref yu, .int (nI N), .ref ysl, .ref yin, .ref yse, .ref ysp, .ref ypa, .int rA, .ref yb, .ref ybd, .ref ybc, .ref yr, .int rF, .int rP, .ref ywd, .int rS, .int rN, .int rO, .int rW, .int rL, .int rD, .ref yd, .int rI, .int rX, .int rY, .int rZ, .int rU, .ref yro, .ref yc, .ref ybe, .ref yco, .long rC, .long rV])), (ysp, .inl (g.2.1 3, 10, .inl qk))]) rfl rfl ?_
    refine pz_if_eq (tgt := 46) F dX9_bid_18 (by decide) (fun q_7 => ?_) (fun q_7 => ?_)
    · replace vc := vc.1 q_7
      refine pz_iconst (v := (-1)) F dX9_bid_46 rfl ?_
      exact pz_ireturn (w1 := [(h0, .inr (8, [.ref yt, .int rT, .int 0, .int (nI G), .ref yw, .int (nI K), .ref yp, .ref yg, .int (nI M), .ref yu, .int (nI N), .ref ysl, .ref yin, .ref yse, .ref ysp, .ref ypa, .int rA, .ref yb, .ref ybd, .ref ybc, .ref yr, .int rF, .int rP, .ref ywd, .int rS, .int rN, .int rO, .int rW, .int rL, .int rD, .ref yd, .int rI, .int rX, .int rY, .int rZ, .int rU, .ref yro, .ref yc, .ref ybe, .ref yco, .long rC, .long rV])), (ysp, .inl (g.2.1 3, 10, .inl qk)), (ypa, .inl (g.2.1 1, 80, .inl qa)), (yb, .inl (g.2.1 1, 10, .inl qb)), (ybd, .inl (g.2.1 1, 80, .inl qd)), (ybc, .inl (g.2.1 1, 80, .inl qc))]) F Rt (by decide) (by decide) dX9_bid_47 [4, 5, 0, 1, 2, 3] rfl rfl rfl vc
    · replace vc := vc.2 q_7
      refine pz_iload_n 3 F rfl dX9_bid_21 rfl ?_
      refine pz_iconst (v := 1) F dX9_bid_22 rfl ?_
      refine pz_icmp_lt (tgt := 46) F dX9_bid_23 (by decide) (fun q_8 => ?_) (fun q_8 => ?_)
      · replace vc := vc.1 q_8
        refine pz_iconst (v := (-1)) F dX9_bid_46 rfl ?_
        exact pz_ireturn (w1 := [(h0, .inr (8, [.ref yt, .int rT, .int 0, .int (nI G), .ref yw, .int (nI K), .ref yp, .ref yg, .int (nI M), .ref yu, .int (nI N), .ref ysl, .ref yin, .ref yse, .ref ysp, .ref ypa, .int rA, .ref yb, .ref ybd, .ref ybc, .ref yr, .int rF, .int rP, .ref ywd, .int rS, .int rN, .int rO, .int rW, .int rL, .int rD, .ref yd, .int rI, .int rX, .int rY, .int rZ, .int rU, .ref yro, .ref yc, .ref ybe, .ref yco, .long rC, .long rV])), (ysp, .inl (g.2.1 3, 10, .inl qk)), (ypa, .inl (g.2.1 1, 80, .inl qa)), (yb, .inl (g.2.1 1, 10, .inl qb)), (ybd, .inl (g.2.1 1, 80, .inl qd)), (ybc, .inl (g.2.1 1, 80, .inl qc))]) F Rt (by decide) (by decide) dX9_bid_47 [4, 5, 0, 1, 2, 3] rfl rfl rfl vc
      · replace vc := vc.2 q_8
        refine pz_iload_n 3 F rfl dX9_bid_26 rfl ?_
        refine pz_ldc (v := 99999) F pw_979 dX9_bid_27 ?_
        refine pz_icmp_gt (tgt := 46) F dX9_bid_29 (by decide) (fun q_9 => ?_) (fun q_9 => ?_)
        · replace vc := vc.1 q_9
          refine pz_iconst (v := (-1)) F dX9_bid_46 rfl ?_
          exact pz_ireturn (w1 := [(h0, .inr (8, [.ref yt, .int rT, .int 0, .int (nI G), .ref yw, .int (nI K), .ref yp, .ref yg, .int (nI M), .ref yu, .int (nI N), .ref ysl, .ref yin, .ref yse, .ref ysp, .ref ypa, .int rA, .ref yb, .ref ybd, .ref ybc, .ref yr, .int rF, .int rP, .ref ywd, .int rS, .int rN, .int rO, .int rW, .int rL, .int rD, .ref yd, .int rI, .int rX, .int rY, .int rZ, .int rU, .ref yro, .ref yc, .ref ybe, .ref yco, .long rC, .long rV])), (ysp, .inl (g.2.1 3, 10, .inl qk)), (ypa, .inl (g.2.1 1, 80, .inl qa)), (yb, .inl (g.2.1 1, 10, .inl qb)), (ybd, .inl (g.2.1 1, 80, .inl qd)), (ybc, .inl (g.2.1 1, 80, .inl qc))]) F Rt (by decide) (by decide) dX9_bid_47 [4, 5, 0, 1, 2, 3] rfl rfl rfl vc
        · replace vc := vc.2 q_9
          refine pz_aload_n 0 F rfl dX9_bid_32 rfl ?_
          refine pz_get (ci := 8) (C := RX9) (T := TX9) (N := 42) (v := .ref ypa) 4 F rfl rfl pz_inX9 15 (by decide) pw_823 rfl dX9_bid_33 ?_
          refine pz_bipush (v := 8) F dX9_bid_36 rfl ?_
          refine pz_iload_n 2 F rfl dX9_bid_38 rfl ?_
          refine pz_imul F dX9_bid_39 ?_
          refine pz_iload_n 1 F rfl dX9_bid_40 rfl ?_
          refine pz_iadd F dX9_bid_41 ?_
          obtain ⟨h_10, vc⟩ := vc
          refine pz_iaload 0 F rfl h_10 dX9_bid_42 ?_
          refine pz_if_le (tgt := 48) F dX9_bid_43 (by decide) (fun q_11 => ?_) (fun q_11 => ?_)
          · replace vc := vc.1 q_11
            refine pz_iconst (v := 0) F dX9_bid_48 rfl ?_
            refine pz_istore (lv' := [(4, .int 0), (0, .ref h0), (1, .int m), (2, .int x), (3, .int c)]) F dX9_bid_49 (by decide) rfl ?_
            exact pz_sub [1, 2, 3, 4, 0] [4, 5, 0, 1, 2, 3] rfl rfl rfl (hT51 0 vc)
          · replace vc := vc.2 q_11
            refine pz_iconst (v := (-1)) F dX9_bid_46 rfl ?_
            exact pz_ireturn (w1 := [(h0, .inr (8, [.ref yt, .int rT, .int 0, .int (nI G), .ref yw, .int (nI K), .ref yp, .ref yg, .int (nI M), .ref yu, .int (nI N), .ref ysl, .ref yin, .ref yse, .ref ysp, .ref ypa, .int rA, .ref yb, .ref ybd, .ref ybc, .ref yr, .int rF, .int rP, .ref ywd, .int rS, .int rN, .int rO, .int rW, .int rL, .int rD, .ref yd, .int rI, .int rX, .int rY, .int rZ, .int rU, .ref yro, .ref yc, .ref ybe, .ref yco, .long rC, .long rV])), (ysp, .inl (g.2.1 3, 10, .inl qk)), (ypa, .inl (g.2.1 1, 80, .inl qa)), (yb, .inl (g.2.1 1, 10, .inl qb)), (ybd, .inl (g.2.1 1, 80, .inl qd)), (ybc, .inl (g.2.1 1, 80, .inl qc))]) F Rt (by decide) (by decide) dX9_bid_47 [4, 5, 0, 1, 2, 3] rfl rfl rfl vc
set_option maxHeartbeats 4000000 in
set_option maxRecDepth 100000 in
theorem sgX9_bid_V_51 {B : pz_B} {g : pz_G} {wc : va_W} {Post : Option Value → va_W → Prop} (F : pz_F B cX9_bid 5 (some .int) yX9_bid.cls g rmX9_bid_V) (Rt : pz_Rt B g wc Post rmX9_bid_V) (m : Int32) (x : Int32) (c : Int32) (h0 : Nat) (yt : Nat) (rT : Int32) (rH : Int32) (yw : Nat) (yp : Nat) (yg : Nat) (yu : Nat) (ysl : Nat) (yin : Nat) (yse : Nat) (ysp : Nat) (ypa : Nat) (rA : Int32) (yb : Nat) (ybd : Nat) (ybc : Nat) (yr : Nat) (rF : Int32) (rP : Int32) (ywd : Nat) (rS : Int32) (rN : Int32) (rO : Int32) (rW : Int32) (rL : Int32) (rD : Int32) (yd : Nat) (rI : Int32) (rX : Int32) (rY : Int32) (rZ : Int32) (rU : Int32) (yro : Nat) (yc : Nat) (ybe : Nat) (yco : Nat) (rC : Int64) (rV : Int64) (qk : Nat → Int32) (qa : Nat → Int32) (qb : Nat → Int32) (qd : Nat → Int32) (qc : Nat → Int32) (G : Nat) (K : Nat) (M : Nat) (N : Nat) (b : Nat) (Bc : Nat) (T51 : Int32 → Prop) (hT51 : ∀ (i : Int32), T51 i → paX9_bid_V_51 B g m x c h0 yt rT rH yw yp yg yu ysl yin yse ysp ypa rA yb ybd ybc yr rF rP ywd rS rN rO rW rL rD yd rI rX rY rZ rU yro yc ybe yco rC rV qk qa qb qd qc G K M N b Bc i) (i : Int32) (vc : vp_in x 10 ∧ (((qb x.toNatClampNeg) ≤ i → vp_in x 10 ∧ vp_in ((8 * x) + (qb x.toNatClampNeg)) 80 ∧ ∀ f_5 : Nat → Int32, f_5 = upd qd ((8 * x) + (qb x.toNatClampNeg)).toNatClampNeg m → vp_in x 10 ∧ vp_in ((8 * x) + (qb x.toNatClampNeg)) 80 ∧ ∀ f_8 : Nat → Int32, f_8 = upd qc ((8 * x) + (qb x.toNatClampNeg)).toNatClampNeg c → vp_in x 10 ∧ ∀ x_10 : Int32, x_10 = ((qb x.toNatClampNeg) + 1) → vp_in x 10 ∧ ∀ f_12 : Nat → Int32, f_12 = upd qb x.toNatClampNeg x_10 → vp_in x 10 ∧ ∀ x_14 : Int32, x_14 = (f_12 x.toNatClampNeg) → Post (some (.int x_14)) [(h0, .inr (8, [.ref yt, .int rT, .int 0, .int (nI G), .ref yw, .int (nI K), .ref yp, .ref yg, .int (nI M), .ref yu, .int (nI N), .ref ysl, .ref yin, .ref yse, .ref ysp, .ref ypa, .int rA, .ref yb, .ref ybd, .ref ybc, .ref yr, .int rF, .int rP, .ref ywd, .int rS, .int rN, .int rO, .int rW, .int rL, .int rD, .ref yd, .int rI, .int rX, .int rY, .int rZ, .int rU, .ref yro, .ref yc, .ref ybe, .ref yco, .long rC, .long rV])), (ysp, .inl (g.2.1 3, 10, .inl qk)), (ypa, .inl (g.2.1 1, 80, .inl qa)), (yb, .inl (g.2.1 1, 10, .inl f_12)), (ybd, .inl (g.2.1 1, 80, .inl f_5)), (ybc, .inl (g.2.1 1, 80, .inl f_8))]) ∧ (¬ (qb x.toNatClampNeg) ≤ i → vp_in ((8 * x) + i) 80 ∧ (((qd ((8 * x) + i).toNatClampNeg) = m → vp_in ((8 * x) + i) 80 ∧ ∀ f_18 : Nat → Int32, f_18 = upd qc ((8 * x) + i).toNatClampNeg c → vp_in x 10 ∧ ∀ x_20 : Int32, x_20 = (qb x.toNatClampNeg) → Post (some (.int x_20)) [(h0, .inr (8, [.ref yt, .int rT, .int 0, .int (nI G), .ref yw, .int (nI K), .ref yp, .ref yg, .int (nI M), .ref yu, .int (nI N), .ref ysl, .ref yin, .ref yse, .ref ysp, .ref ypa, .int rA, .ref yb, .ref ybd, .ref ybc, .ref yr, .int rF, .int rP, .ref ywd, .int rS, .int rN, .int rO, .int rW, .int rL, .int rD, .ref yd, .int rI, .int rX, .int rY, .int rZ, .int rU, .ref yro, .ref yc, .ref ybe, .ref yco, .long rC, .long rV])), (ysp, .inl (g.2.1 3, 10, .inl qk)), (ypa, .inl (g.2.1 1, 80, .inl qa)), (yb, .inl (g.2.1 1, 10, .inl qb)), (ybd, .inl (g.2.1 1, 80, .inl qd)), (ybc, .inl (g.2.1 1, 80, .inl f_18))]) ∧ (¬ (qd ((8 * x) + i).toNatClampNeg) = m → ∀ x_21 : Int32, x_21 = i + 1 → T51 x_21))))) : pz_At B 0 0 51 [(0, .ref h0), (1, .int m), (2, .int x), (3, .int c), (4, .int i)] [] [(h0, .inr (8, [.ref yt, .int rT, .int 0, .int (nI G), .ref yw, .int (nI K), .ref yp, .ref yg, .int (nI M), .ref yu, .int (nI N), .ref ysl, .ref yin, .ref yse, .ref ysp, .ref ypa, .int rA, .ref yb, .ref ybd, .ref ybc, .ref yr, .int rF, .int rP, .ref ywd, .int rS, .int rN, .int rO, .int rW, .int rL, .int rD, .ref yd, .int rI, .int rX, .int rY, .int rZ, .int rU, .ref yro, .ref yc, .ref ybe, .ref yco, .long rC, .long rV])), (ysp, .inl (g.2.1 3, 10, .inl qk)), (ypa, .inl (g.2.1 1, 80, .inl qa)), (yb, .inl (g.2.1 1, 10, .inl qb)), (ybd, .inl (g.2.1 1, 80, .inl qd)), (ybc, .inl (g.2.1 1, 80, .inl qc))] := by
  refine pz_iload 4 F rfl dX9_bid_51 ?_
  refine pz_aload_n 0 F rfl dX9_bid_53 rfl ?_
  refine pz_get (ci := 8) (C := RX9) (T := TX9) (N := 42) (v := .ref yb) 0 F rfl rfl pz_inX9 17 (by decide) pw_825 rfl dX9_bid_54 ?_
  refine pz_iload_n 2 F rfl dX9_bid_57 rfl ?_
  obtain ⟨h_1, vc⟩ := vc
  refine pz_iaload 3 F rfl h_1 dX9_bid_58 ?_
  refine pz_icmp_ge (tgt := 107) F dX9_bid_59 (by decide) (fun q_2 => ?_) (fun q_2 => ?_)
  · replace vc := vc.1 q_2
    refine pz_aload_n 0 F rfl dX9_bid_107 rfl ?_
    refine pz_get (ci := 8) (C := RX9) (T := TX9) (N := 42) (v := .ref ybd) 0 F rfl rfl pz_inX9 18 (by decide) pw_826 rfl dX9_bid_108 ?_
    refine pz_bipush (v := 8) F dX9_bid_111 rfl ?_
    refine pz_iload_n 2 F rfl dX9_bid_113 rfl ?_
    refine pz_imul F dX9_bid_114 ?_
    refine pz_aload_n 0 F rfl dX9_bid_115 rfl ?_
    refine pz_get (ci := 8) (C := RX9) (T := TX9) (N := 42) (v := .ref yb) 0 F rfl rfl pz_inX9 17 (by decide) pw_825 rfl dX9_bid_116 ?_
    refine pz_iload_n 2 F rfl dX9_bid_119 rfl ?_
    obtain ⟨h_3, vc⟩ := vc
    refine pz_iaload 3 F rfl h_3 dX9_bid_120 ?_
    refine pz_iadd F dX9_bid_121 ?_
    refine pz_iload_n 1 F rfl dX9_bid_122 rfl ?_
    obtain ⟨h_4, vc⟩ := vc
    obtain ⟨f_5, ef_5⟩ : ∃ z : Nat → Int32, z = upd qd ((8 * x) + (qb x.toNatClampNeg)).toNatClampNeg m := ⟨_, rfl⟩
    replace vc := vc f_5 ef_5
    refine pz_iastore (ws' := [(h0, .inr (8, [.ref yt, .int rT, .int 0, .int (nI G), .ref yw, .int (nI K), .ref yp, .ref yg, .int (nI M), .ref yu, .int (nI N), .ref ysl, .ref yin, .ref yse, .ref ysp, .ref ypa, .int rA, .ref yb, .ref ybd, .ref ybc, .ref yr, .int rF, .int rP, .ref ywd, .int rS, .int rN, .int rO, .int rW, .int rL, .int rD, .ref yd, .int rI, .int rX, .int rY, .int rZ, .int rU, .ref yro, .ref yc, .ref ybe, .ref yco, .long rC, .long rV])), (ysp, .inl (g.2.1 3, 10, .inl qk)), (ypa, .inl (g.2.1 1, 80, .inl qa)), (yb, .inl (g.2.1 1, 10, .inl qb)), (ybd, .inl (g.2.1 1, 80, .inl f_5)), (ybc, .inl (g.2.1 1, 80, .inl qc))]) F 4 rfl h_4 dX9_bid_123 (by rw [ef_5]; rfl) ?_
    refine pz_aload_n 0 F rfl dX9_bid_124 rfl ?_
    refine pz_get (ci := 8) (C := RX9) (T := TX9) (N := 42) (v := .ref ybc) 0 F rfl rfl pz_inX9 19 (by decide) pw_827 rfl dX9_bid_125 ?_
    refine pz_bipush (v := 8) F dX9_bid_128 rfl ?_
    refine pz_iload_n 2 F rfl dX9_bid_130 rfl ?_
    refine pz_imul F dX9_bid_131 ?_
    refine pz_aload_n 0 F rfl dX9_bid_132 rfl ?_
    refine pz_get (ci := 8) (C := RX9) (T := TX9) (N := 42) (v := .ref yb) 0 F rfl rfl pz_inX9 17 (by decide) pw_825 rfl dX9_bid_133 ?_
    refine pz_iload_n 2 F rfl dX9_bid_136 rfl ?_
    obtain ⟨h_6, vc⟩ := vc
    refine pz_iaload 3 F rfl h_6 dX9_bid_137 ?_
    refine pz_iadd F dX9_bid_138 ?_
    refine pz_iload_n 3 F rfl dX9_bid_139 rfl ?_
    obtain ⟨h_7, vc⟩ := vc
    obtain ⟨f_8, ef_8⟩ : ∃ z : Nat → Int32, z = upd qc ((8 * x) + (qb x.toNatClampNeg)).toNatClampNeg c := ⟨_, rfl⟩
    replace vc := vc f_8 ef_8
    refine pz_iastore (ws' := [(h0, .inr (8, [.ref yt, .int rT, .int 0, .int (nI G), .ref yw, .int (nI K), .ref yp, .ref yg, .int (nI M), .ref yu, .int (nI N), .ref ysl, .ref yin, .ref yse, .ref ysp, .ref ypa, .int rA, .ref yb, .ref ybd, .ref ybc, .ref yr, .int rF, .int rP, .ref ywd, .int rS, .int rN, .int rO, .int rW, .int rL, .int rD, .ref yd, .int rI, .int rX, .int rY, .int rZ, .int rU, .ref yro, .ref yc, .ref ybe, .ref yco, .long rC, .long rV])), (ysp, .inl (g.2.1 3, 10, .inl qk)), (ypa, .inl (g.2.1 1, 80, .inl qa)), (yb, .inl (g.2.1 1, 10, .inl qb)), (ybd, .inl (g.2.1 1, 80, .inl f_5)), (ybc, .inl (g.2.1 1, 80, .inl f_8))]) F 5 rfl h_7 dX9_bid_140 (by rw [ef_8]; rfl) ?_
    refine pz_aload_n 0 F rfl dX9_bid_141 rfl ?_
    refine pz_get (ci := 8) (C := RX9) (T := TX9) (N := 42) (v := .ref yb) 0 F rfl rfl pz_inX9 17 (by decide) pw_825 rfl dX9_bid_142 ?_
    refine pz_iload_n 2 F rfl dX9_bid_145 rfl ?_
    refine pz_dup2 F dX9_bid_146 rfl rfl ?_
    obtain ⟨h_9, vc⟩ := vc
    refine pz_iaload 3 F rfl h_9 dX9_bid_147 ?_
    refine pz_iconst (v := 1) F dX9_bid_148 rfl ?_
    refine pz_iadd F dX9_bid_149 ?_
    refine pz_topi (fun x_10 ex_10 => ?_)
    replace vc := vc x_10 ex_10
    obtain ⟨h_11, vc⟩ := vc
    obtain ⟨f_12, ef_12⟩ : ∃ z : Nat → Int32, z = upd qb x.toNatClampNeg x_10 := ⟨_, rfl⟩
    replace vc := vc f_12 ef_12
    refine pz_iastore (ws' := [(h0, .inr (8, [.ref yt, .int rT, .int 0, .int (nI G), .ref yw, .int (nI K), .ref yp, .ref yg, .int (nI M), .ref yu, .int (nI N), .ref ysl, .ref yin, .ref yse, .ref ysp, .ref ypa, .int rA, .ref yb, .ref ybd, .ref ybc, .ref yr, .int rF, .int rP, .ref ywd, .int rS, .int rN, .int rO, .int rW, .int rL, .int rD, .ref yd, .int rI, .int rX, .int rY, .int rZ, .int rU, .ref yro, .ref yc, .ref ybe, .ref yco, .long rC, .long rV])), (ysp, .inl (g.2.1 3, 10, .inl qk)), (ypa, .inl (g.2.1 1, 80, .inl qa)), (yb, .inl (g.2.1 1, 10, .inl f_12)), (ybd, .inl (g.2.1 1, 80, .inl f_5)), (ybc, .inl (g.2.1 1, 80, .inl f_8))]) F 3 rfl h_11 dX9_bid_150 (by rw [ef_12]; rfl) ?_
    refine pz_aload_n 0 F rfl dX9_bid_151 rfl ?_
    refine pz_get (ci := 8) (C := RX9) (T := TX9) (N := 42) (v := .ref yb) 0 F rfl rfl pz_inX9 17 (by decide) pw_825 rfl dX9_bid_152 ?_
    refine pz_iload_n 2 F rfl dX9_bid_155 rfl ?_
    obtain ⟨h_13, vc⟩ := vc
    refine pz_iaload 3 F rfl h_13 dX9_bid_156 ?_
    refine pz_topi (fun x_14 ex_14 => ?_)
    replace vc := vc x_14 ex_14
    exact pz_ireturn (w1 := [(h0, .inr (8, [.ref yt, .int rT, .int 0, .int (nI G), .ref yw, .int (nI K), .ref yp, .ref yg, .int (nI M), .ref yu, .int (nI N), .ref ysl, .ref yin, .ref yse, .ref ysp, .ref ypa, .int rA, .ref yb, .ref ybd, .ref ybc, .ref yr, .int rF, .int rP, .ref ywd, .int rS, .int rN, .int rO, .int rW, .int rL, .int rD, .ref yd, .int rI, .int rX, .int rY, .int rZ, .int rU, .ref yro, .ref yc, .ref ybe, .ref yco, .long rC, .long rV])), (ysp, .inl (g.2.1 3, 10, .inl qk)), (ypa, .inl (g.2.1 1, 80, .inl qa)), (yb, .inl (g.2.1 1, 10, .inl f_12)), (ybd, .inl (g.2.1 1, 80, .inl f_5)), (ybc, .inl (g.2.1 1, 80, .inl f_8))]) F Rt (by decide) (by decide) dX9_bid_157 [0, 1, 2, 3, 4, 5] rfl rfl rfl vc
  · replace vc := vc.2 q_2
    refine pz_aload_n 0 F rfl dX9_bid_62 rfl ?_
    refine pz_get (ci := 8) (C := RX9) (T := TX9) (N := 42) (v := .ref ybd) 0 F rfl rfl pz_inX9 18 (by decide) pw_826 rfl dX9_bid_63 ?_
    refine pz_bipush (v := 8) F dX9_bid_66 rfl ?_
    refine pz_iload_n 2 F rfl dX9_bid_68 rfl ?_
    refine pz_imul F dX9_bid_69 ?_
    refine pz_iload 4 F rfl dX9_bid_70 ?_
    refine pz_iadd F dX9_bid_72 ?_
    obtain ⟨h_15, vc⟩ := vc
    refine pz_iaload 4 F rfl h_15 dX9_bid_73 ?_
    refine pz_iload_n 1 F rfl dX9_bid_74 rfl ?_
    refine pz_icmp_eq (tgt := 81) F dX9_bid_75 (by decide) (fun q_16 => ?_) (fun q_16 => ?_)
    · replace vc := vc.1 q_16
      refine pz_aload_n 0 F rfl dX9_bid_81 rfl ?_
      refine pz_get (ci := 8) (C := RX9) (T := TX9) (N := 42) (v := .ref ybc) 0 F rfl rfl pz_inX9 19 (by decide) pw_827 rfl dX9_bid_82 ?_
      refine pz_bipush (v := 8) F dX9_bid_85 rfl ?_
      refine pz_iload_n 2 F rfl dX9_bid_87 rfl ?_
      refine pz_imul F dX9_bid_88 ?_
      refine pz_iload 4 F rfl dX9_bid_89 ?_
      refine pz_iadd F dX9_bid_91 ?_
      refine pz_iload_n 3 F rfl dX9_bid_92 rfl ?_
      obtain ⟨h_17, vc⟩ := vc
      obtain ⟨f_18, ef_18⟩ : ∃ z : Nat → Int32, z = upd qc ((8 * x) + i).toNatClampNeg c := ⟨_, rfl⟩
      replace vc := vc f_18 ef_18
      refine pz_iastore (ws' := [(h0, .inr (8, [.ref yt, .int rT, .int 0, .int (nI G), .ref yw, .int (nI K), .ref yp, .ref yg, .int (nI M), .ref yu, .int (nI N), .ref ysl, .ref yin, .ref yse, .ref ysp, .ref ypa, .int rA, .ref yb, .ref ybd, .ref ybc, .ref yr, .int rF, .int rP, .ref ywd, .int rS, .int rN, .int rO, .int rW, .int rL, .int rD, .ref yd, .int rI, .int rX, .int rY, .int rZ, .int rU, .ref yro, .ref yc, .ref ybe, .ref yco, .long rC, .long rV])), (ysp, .inl (g.2.1 3, 10, .inl qk)), (ypa, .inl (g.2.1 1, 80, .inl qa)), (yb, .inl (g.2.1 1, 10, .inl qb)), (ybd, .inl (g.2.1 1, 80, .inl qd)), (ybc, .inl (g.2.1 1, 80, .inl f_18))]) F 5 rfl h_17 dX9_bid_93 (by rw [ef_18]; rfl) ?_
      refine pz_aload_n 0 F rfl dX9_bid_94 rfl ?_
      refine pz_get (ci := 8) (C := RX9) (T := TX9) (N := 42) (v := .ref yb) 0 F rfl rfl pz_inX9 17 (by decide) pw_825 rfl dX9_bid_95 ?_
      refine pz_iload_n 2 F rfl dX9_bid_98 rfl ?_
      obtain ⟨h_19, vc⟩ := vc
      refine pz_iaload 3 F rfl h_19 dX9_bid_99 ?_
      refine pz_topi (fun x_20 ex_20 => ?_)
      replace vc := vc x_20 ex_20
      exact pz_ireturn (w1 := [(h0, .inr (8, [.ref yt, .int rT, .int 0, .int (nI G), .ref yw, .int (nI K), .ref yp, .ref yg, .int (nI M), .ref yu, .int (nI N), .ref ysl, .ref yin, .ref yse, .ref ysp, .ref ypa, .int rA, .ref yb, .ref ybd, .ref ybc, .ref yr, .int rF, .int rP, .ref ywd, .int rS, .int rN, .int rO, .int rW, .int rL, .int rD, .ref yd, .int rI, .int rX, .int rY, .int rZ, .int rU, .ref yro, .ref yc, .ref ybe, .ref yco, .long rC, .long rV])), (ysp, .inl (g.2.1 3, 10, .inl qk)), (ypa, .inl (g.2.1 1, 80, .inl qa)), (yb, .inl (g.2.1 1, 10, .inl qb)), (ybd, .inl (g.2.1 1, 80, .inl qd)), (ybc, .inl (g.2.1 1, 80, .inl f_18))]) F Rt (by decide) (by decide) dX9_bid_100 [0, 1, 2, 3, 4, 5] rfl rfl rfl vc
    · replace vc := vc.2 q_16
      refine pz_goto (tgt := 101) F dX9_bid_78 (by decide) ?_
      obtain ⟨x_21, ex_21⟩ : ∃ z : Int32, z = i + 1 := ⟨_, rfl⟩
      replace vc := vc x_21 ex_21
      refine pz_iinc (v := x_21) (lv' := [(4, .int x_21), (0, .ref h0), (1, .int m), (2, .int x), (3, .int c)]) 4 F rfl dX9_bid_101 (by rw [ex_21]; rfl) (by decide) rfl ?_
      refine pz_goto (tgt := 51) F dX9_bid_104 (by decide) ?_
      exact pz_sub [1, 2, 3, 4, 0] [0, 1, 2, 3, 4, 5] rfl rfl rfl (hT51 x_21 vc)
theorem lpX9_bid_V_51 {B : pz_B} {g : pz_G} {wc : va_W} {Post : Option Value → va_W → Prop} (F : pz_F B cX9_bid 5 (some .int) yX9_bid.cls g rmX9_bid_V) (Rt : pz_Rt B g wc Post rmX9_bid_V) (m : Int32) (x : Int32) (c : Int32) (h0 : Nat) (yt : Nat) (rT : Int32) (rH : Int32) (yw : Nat) (yp : Nat) (yg : Nat) (yu : Nat) (ysl : Nat) (yin : Nat) (yse : Nat) (ysp : Nat) (ypa : Nat) (rA : Int32) (yb : Nat) (ybd : Nat) (ybc : Nat) (yr : Nat) (rF : Int32) (rP : Int32) (ywd : Nat) (rS : Int32) (rN : Int32) (rO : Int32) (rW : Int32) (rL : Int32) (rD : Int32) (yd : Nat) (rI : Int32) (rX : Int32) (rY : Int32) (rZ : Int32) (rU : Int32) (yro : Nat) (yc : Nat) (ybe : Nat) (yco : Nat) (rC : Int64) (rV : Int64) (qk : Nat → Int32) (qa : Nat → Int32) (qb : Nat → Int32) (qd : Nat → Int32) (qc : Nat → Int32) (G : Nat) (K : Nat) (M : Nat) (N : Nat) (b : Nat) (Bc : Nat) (Inv : Nat → Int32 → Prop) (step : ∀ (mz : Nat) (i : Int32), Inv mz i → ∀ TT : Int32 → Prop, TT = (fun i => ∃ mz', mz' < mz ∧ Inv mz' i) → vp_in x 10 ∧ (((qb x.toNatClampNeg) ≤ i → vp_in x 10 ∧ vp_in ((8 * x) + (qb x.toNatClampNeg)) 80 ∧ ∀ f_5 : Nat → Int32, f_5 = upd qd ((8 * x) + (qb x.toNatClampNeg)).toNatClampNeg m → vp_in x 10 ∧ vp_in ((8 * x) + (qb x.toNatClampNeg)) 80 ∧ ∀ f_8 : Nat → Int32, f_8 = upd qc ((8 * x) + (qb x.toNatClampNeg)).toNatClampNeg c → vp_in x 10 ∧ ∀ x_10 : Int32, x_10 = ((qb x.toNatClampNeg) + 1) → vp_in x 10 ∧ ∀ f_12 : Nat → Int32, f_12 = upd qb x.toNatClampNeg x_10 → vp_in x 10 ∧ ∀ x_14 : Int32, x_14 = (f_12 x.toNatClampNeg) → Post (some (.int x_14)) [(h0, .inr (8, [.ref yt, .int rT, .int 0, .int (nI G), .ref yw, .int (nI K), .ref yp, .ref yg, .int (nI M), .ref yu, .int (nI N), .ref ysl, .ref yin, .ref yse, .ref ysp, .ref ypa, .int rA, .ref yb, .ref ybd, .ref ybc, .ref yr, .int rF, .int rP, .ref ywd, .int rS, .int rN, .int rO, .int rW, .int rL, .int rD, .ref yd, .int rI, .int rX, .int rY, .int rZ, .int rU, .ref yro, .ref yc, .ref ybe, .ref yco, .long rC, .long rV])), (ysp, .inl (g.2.1 3, 10, .inl qk)), (ypa, .inl (g.2.1 1, 80, .inl qa)), (yb, .inl (g.2.1 1, 10, .inl f_12)), (ybd, .inl (g.2.1 1, 80, .inl f_5)), (ybc, .inl (g.2.1 1, 80, .inl f_8))]) ∧ (¬ (qb x.toNatClampNeg) ≤ i → vp_in ((8 * x) + i) 80 ∧ (((qd ((8 * x) + i).toNatClampNeg) = m → vp_in ((8 * x) + i) 80 ∧ ∀ f_18 : Nat → Int32, f_18 = upd qc ((8 * x) + i).toNatClampNeg c → vp_in x 10 ∧ ∀ x_20 : Int32, x_20 = (qb x.toNatClampNeg) → Post (some (.int x_20)) [(h0, .inr (8, [.ref yt, .int rT, .int 0, .int (nI G), .ref yw, .int (nI K), .ref yp, .ref yg, .int (nI M), .ref yu, .int (nI N), .ref ysl, .ref yin, .ref yse, .ref ysp, .ref ypa, .int rA, .ref yb, .ref ybd, .ref ybc, .ref yr, .int rF, .int rP, .ref ywd, .int rS, .int rN, .int rO, .int rW, .int rL, .int rD, .ref yd, .int rI, .int rX, .int rY, .int rZ, .int rU, .ref yro, .ref yc, .ref ybe, .ref yco, .long rC, .long rV])), (ysp, .inl (g.2.1 3, 10, .inl qk)), (ypa, .inl (g.2.1 1, 80, .inl qa)), (yb, .inl (g.2.1 1, 10, .inl qb)), (ybd, .inl (g.2.1 1, 80, .inl qd)), (ybc, .inl (g.2.1 1, 80, .inl f_18))]) ∧ (¬ (qd ((8 * x) + i).toNatClampNeg) = m → ∀ x_21 : Int32, x_21 = i + 1 → TT x_21))))) : ∀ (mz : Nat) (i : Int32), Inv mz i → paX9_bid_V_51 B g m x c h0 yt rT rH yw yp yg yu ysl yin yse ysp ypa rA yb ybd ybc yr rF rP ywd rS rN rO rW rL rD yd rI rX rY rZ rU yro yc ybe yco rC rV qk qa qb qd qc G K M N b Bc i := by
  intro mz
  induction mz using Nat.strongRecOn with
  | _ mz ih =>
    intro i hI
    exact sgX9_bid_V_51 F Rt m x c h0 yt rT rH yw yp yg yu ysl yin yse ysp ypa rA yb ybd ybc yr rF rP ywd rS rN rO rW rL rD yd rI rX rY rZ rU yro yc ybe yco rC rV qk qa qb qd qc G K M N b Bc (fun i => ∃ mz', mz' < mz ∧ Inv mz' i) (fun i ⟨mz', h1, h2⟩ => ih mz' h1 i h2) i (step mz i hI _ rfl)
set_option maxHeartbeats 4000000 in
set_option maxRecDepth 100000 in
theorem ctX9_bid_V (l : Launch) (g : pz_G) (m : Int32) (x : Int32) (c : Int32) (h0 : Nat) (yt : Nat) (rT : Int32) (rH : Int32) (yw : Nat) (yp : Nat) (yg : Nat) (yu : Nat) (ysl : Nat) (yin : Nat) (yse : Nat) (ysp : Nat) (ypa : Nat) (rA : Int32) (yb : Nat) (ybd : Nat) (ybc : Nat) (yr : Nat) (rF : Int32) (rP : Int32) (ywd : Nat) (rS : Int32) (rN : Int32) (rO : Int32) (rW : Int32) (rL : Int32) (rD : Int32) (yd : Nat) (rI : Int32) (rX : Int32) (rY : Int32) (rZ : Int32) (rU : Int32) (yro : Nat) (yc : Nat) (ybe : Nat) (yco : Nat) (rC : Int64) (rV : Int64) (qk : Nat → Int32) (qa : Nat → Int32) (qb : Nat → Int32) (qd : Nat → Int32) (qc : Nat → Int32) (G : Nat) (K : Nat) (M : Nat) (N : Nat) (b : Nat) (Bc : Nat) (hpre : N ≤ 10 ∧ M ≤ 8 ∧ (wh_ok x N qk → x = nI b ∧ b < N ∧ qb b = nI Bc ∧ Bc ≤ 8 ∧ (hs_in m M → (∀ a, a < Bc → ¬ qd (8 * b + a) = m) → Bc < 8))) : pz_Ct l g yX9_bid cX9_bid 5 (some .int) rmX9_bid_V [.ref h0, .int m, .int x, .int c] [(h0, .inr (8, [.ref yt, .int rT, .int rH, .int (nI G), .ref yw, .int (nI K), .ref yp, .ref yg, .int (nI M), .ref yu, .int (nI N), .ref ysl, .ref yin, .ref yse, .ref ysp, .ref ypa, .int rA, .ref yb, .ref ybd, .ref ybc, .ref yr, .int rF, .int rP, .ref ywd, .int rS, .int rN, .int rO, .int rW, .int rL, .int rD, .ref yd, .int rI, .int rX, .int rY, .int rZ, .int rU, .ref yro, .ref yc, .ref ybe, .ref yco, .long rC, .long rV])), (ysp, .inl (g.2.1 3, 10, .inl qk)), (ypa, .inl (g.2.1 1, 80, .inl qa)), (yb, .inl (g.2.1 1, 10, .inl qb)), (ybd, .inl (g.2.1 1, 80, .inl qd)), (ybc, .inl (g.2.1 1, 80, .inl qc))] (pz_pi (fun (r : Int32) (u : (Nat → Int32) × (Nat → Int32) × (Nat → Int32)) => ((hs_in m M ∧ wh_ok x N qk ∧ ¬ c < 1 ∧ c ≤ 99999 ∧ qa (8 * b + m.toNatClampNeg) ≤ 0) ∧ ((∃ j, j < Bc ∧ qd (8 * b + j) = m ∧ (∀ a, a < j → ¬ qd (8 * b + a) = m) ∧ u.1 = qd ∧ u.2.1 = upd qc (8 * b + j) c ∧ u.2.2 = qb ∧ r = nI Bc) ∨ ((∀ a, a < Bc → ¬ qd (8 * b + a) = m) ∧ Bc < 8 ∧ u.1 = upd qd (8 * b + Bc) m ∧ u.2.1 = upd qc (8 * b + Bc) c ∧ u.2.2 = upd qb b (nI (Bc + 1)) ∧ r = nI (Bc + 1)))) ∨ (¬ (hs_in m M ∧ wh_ok x N qk ∧ ¬ c < 1 ∧ c ≤ 99999 ∧ qa (8 * b + m.toNatClampNeg) ≤ 0) ∧ r = -1 ∧ u.1 = qd ∧ u.2.1 = qc ∧ u.2.2 = qb)) (fun (u : (Nat → Int32) × (Nat → Int32) × (Nat → Int32)) => [(h0, .inr (8, [.ref yt, .int rT, .int 0, .int (nI G), .ref yw, .int (nI K), .ref yp, .ref yg, .int (nI M), .ref yu, .int (nI N), .ref ysl, .ref yin, .ref yse, .ref ysp, .ref ypa, .int rA, .ref yb, .ref ybd, .ref ybc, .ref yr, .int rF, .int rP, .ref ywd, .int rS, .int rN, .int rO, .int rW, .int rL, .int rD, .ref yd, .int rI, .int rX, .int rY, .int rZ, .int rU, .ref yro, .ref yc, .ref ybe, .ref yco, .long rC, .long rV])), (ysp, .inl (g.2.1 3, 10, .inl qk)), (ypa, .inl (g.2.1 1, 80, .inl qa)), (yb, .inl (g.2.1 1, 10, .inl u.2.2)), (ybd, .inl (g.2.1 1, 80, .inl u.1)), (ybc, .inl (g.2.1 1, 80, .inl u.2.1))])) := by
  refine pz_ofAt (by decide +kernel) (Nat.le_of_ble_eq_true rfl) (fun B F Rt hme => ?_)
  obtain ⟨hN, hM, hw0⟩ := hpre
  have h51 : (hs_in m M ∧ wh_ok x N qk ∧ ¬ c < 1 ∧ c ≤ 99999 ∧ qa (8 * b + m.toNatClampNeg) ≤ 0) → ∀ (mz : Nat) (i : Int32), (∃ j, j + mz = Bc ∧ i = nI j ∧ ∀ a, a < j → ¬ qd (8 * b + a) = m) → paX9_bid_V_51 B g m x c h0 yt rT rH yw yp yg yu ysl yin yse ysp ypa rA yb ybd ybc yr rF rP ywd rS rN rO rW rL rD yd rI rX rY rZ rU yro yc ybe yco rC rV qk qa qb qd qc G K M N b Bc i := fun hok => lpX9_bid_V_51 F Rt m x c h0 yt rT rH yw yp yg yu ysl yin yse ysp ypa rA yb ybd ybc yr rF rP ywd rS rN rO rW rL rD yd rI rX rY rZ rU yro yc ybe yco rC rV qk qa qb qd qc G K M N b Bc (fun mz i => ∃ j, j + mz = Bc ∧ i = nI j ∧ ∀ a, a < j → ¬ qd (8 * b + a) = m) (by
    obtain ⟨rfl, hb, hq, hB, hfree⟩ := hw0 hok.2.1
    rintro mz i ⟨j, hj, rfl, hd⟩ TT rfl
    have hbin : vp_in (nI b) 10 := vp_in_nI (by omega) (by omega)
    rw [nI_clamp (by omega), hq]
    refine ⟨hbin, fun q => ?_, fun q => ?_⟩
    · have h1 := pu_ge (by omega) q
      have ej : j = Bc := by omega
      subst ej
      have hB8 := hfree hok.1 hd
      rw [pu_8, nI_clamp (by omega)]
      refine ⟨hbin, vp_in_nI (by omega) (by omega), ?_⟩
      rintro f1 rfl
      refine ⟨hbin, vp_in_nI (by omega) (by omega), ?_⟩
      rintro f2 rfl
      refine ⟨hbin, ?_⟩
      rintro x1 rfl
      refine ⟨hbin, ?_⟩
      rintro f3 rfl
      refine ⟨hbin, ?_⟩
      rintro x2 rfl
      exact ⟨_, (_, _, _), rfl, rfl, Or.inl ⟨hok, Or.inr ⟨hd, hB8, rfl, rfl, by show upd qb b (nI j + 1) = _; rw [nI_1], by rw [pk_us, nI_1]⟩⟩⟩
    · have h1 := pu_lt (by omega) (by omega) q
      rw [pu_8, nI_clamp (by omega)]
      refine ⟨vp_in_nI (by omega) (by omega), fun q2 => ⟨vp_in_nI (by omega) (by omega), ?_⟩, fun q2 => ?_⟩
      · rintro f rfl
        refine ⟨hbin, ?_⟩
        first | exact ⟨_, (_, _, _), rfl, rfl, Or.inl ⟨hok, Or.inl ⟨j, h1, q2, hd, rfl, rfl, rfl, rfl⟩⟩⟩ | (rintro x1 rfl; exact ⟨_, (_, _, _), rfl, rfl, Or.inl ⟨hok, Or.inl ⟨j, h1, q2, hd, rfl, rfl, rfl, rfl⟩⟩⟩)
      · rintro y rfl
        refine ⟨mz - 1, by omega, j + 1, by omega, nI_1 j, fun a ha => ?_⟩
        by_cases e : a = j
        · rw [e]; exact q2
        · exact hd a (by omega))
  refine sgX9_bid_V_0 F Rt m x c h0 yt rT rH yw yp yg yu ysl yin yse ysp ypa rA yb ybd ybc yr rF rP ywd rS rN rO rW rL rD yd rI rX rY rZ rU yro yc ybe yco rC rV qk qa qb qd qc G K M N b Bc (fun i => (hs_in m M ∧ wh_ok x N qk ∧ ¬ c < 1 ∧ c ≤ 99999 ∧ qa (8 * b + m.toNatClampNeg) ≤ 0) ∧ (∃ j, j + Bc = Bc ∧ i = nI j ∧ ∀ a, a < j → ¬ qd (8 * b + a) = m)) (fun i h => h51 h.1 Bc i h.2) ?_
  intro r1 h1
  rcases hs_of h1 with ⟨i1, rfl⟩ | ⟨i1, rfl⟩
  · refine ⟨fun q => absurd q (by decide), fun _ => ⟨hN, fun r2 h2 => ?_⟩⟩
    rcases h2 with ⟨hw, rfl⟩ | ⟨hw, rfl⟩
    · obtain ⟨rfl, hb, hq, hB, hfree⟩ := hw0 hw
      obtain ⟨c1, e1⟩ := hs_cl (by omega) i1
      have k1 : 8 * nI b + m = nI (8 * b + m.toNatClampNeg) := by rw [← pu_8, ← e1]
      rw [k1, nI_clamp (by omega)]
      refine ⟨fun q => absurd q (by decide), fun _ => ⟨fun q2 => ⟨_, (_, _, _), rfl, rfl, Or.inr ⟨fun h => h.2.2.1 q2, rfl, rfl, rfl, rfl⟩⟩, fun q2 => ⟨fun q3 => ⟨_, (_, _, _), rfl, rfl, Or.inr ⟨fun h => absurd h.2.2.2.1 (Int32.not_le.mpr q3), rfl, rfl, rfl, rfl⟩⟩, fun q3 => ⟨vp_in_nI (by omega) (by omega), fun q4 => ⟨⟨i1, hw, q2, Int32.not_lt.mp q3, q4⟩, 0, by omega, nI_0.symm, fun a ha => absurd ha (by omega)⟩, fun q4 => ⟨_, (_, _, _), rfl, rfl, Or.inr ⟨fun h => q4 h.2.2.2.2, rfl, rfl, rfl, rfl⟩⟩⟩⟩⟩⟩
    · exact ⟨fun q => ⟨_, (_, _, _), rfl, rfl, Or.inr ⟨fun h => hw h.2.1, rfl, rfl, rfl, rfl⟩⟩, fun q => absurd rfl q⟩
  · exact ⟨fun q => ⟨_, (_, _, _), rfl, rfl, Or.inr ⟨fun h => i1 h.1, rfl, rfl, rfl, rfl⟩⟩, fun q => absurd rfl q⟩
