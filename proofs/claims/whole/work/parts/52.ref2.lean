
abbrev rmX9_feed : Room := { frames := 0, cells := 0, slots := 0, locals := 0 }
abbrev paX9_feed_23 (B : pz_B) (g : pz_G) (a1 : Int32) (a2 : Int32) (a3 : Int32) (a4 : Int32) (a5 : Int32) (h0 : Nat) (yt : Nat) (rH : Int32) (yw : Nat) (yp : Nat) (yg : Nat) (yu : Nat) (ysl : Nat) (yin : Nat) (yse : Nat) (ysp : Nat) (ypa : Nat) (rA : Int32) (yb : Nat) (ybd : Nat) (ybc : Nat) (yr : Nat) (rF : Int32) (rP : Int32) (ywd : Nat) (rS : Int32) (rN : Int32) (rO : Int32) (rW : Int32) (rL : Int32) (rD : Int32) (yd : Nat) (rI : Int32) (rX : Int32) (rY : Int32) (rZ : Int32) (rU : Int32) (yro : Nat) (yc : Nat) (ybe : Nat) (yco : Nat) (rC : Int64) (rV : Int64) (qT : Nat → Int32) (G : Nat) (K : Nat) (M : Nat) (N : Nat) (Tn : Nat) (i : Int32) (t1 : Nat → Int32) : Prop := pz_At B 0 0 23 [(0, .ref h0), (1, .int a1), (2, .int a2), (3, .int a3), (4, .int a4), (5, .int a5), (6, .int i)] [] [(h0, .inr (8, [.ref yt, .int (nI Tn), .int 0, .int (nI G), .ref yw, .int (nI K), .ref yp, .ref yg, .int (nI M), .ref yu, .int (nI N), .ref ysl, .ref yin, .ref yse, .ref ysp, .ref ypa, .int rA, .ref yb, .ref ybd, .ref ybc, .ref yr, .int rF, .int rP, .ref ywd, .int rS, .int rN, .int rO, .int rW, .int rL, .int rD, .ref yd, .int rI, .int rX, .int rY, .int rZ, .int rU, .ref yro, .ref yc, .ref ybe, .ref yco, .long rC, .long rV])), (yt, .inl (g.2.1 1, 400, .inl t1))]
set_option maxHeartbeats 4000000 in
set_option maxRecDepth 100000 in
theorem sgX9_feed_0 {B : pz_B} {g : pz_G} {wc : va_W} {Post : Option Value → va_W → Prop} (F : pz_F B cX9_feed 8 (some .int) yX9_feed.cls g rmX9_feed) (Rt : pz_Rt B g wc Post rmX9_feed) (a1 : Int32) (a2 : Int32) (a3 : Int32) (a4 : Int32) (a5 : Int32) (h0 : Nat) (yt : Nat) (rH : Int32) (yw : Nat) (yp : Nat) (yg : Nat) (yu : Nat) (ysl : Nat) (yin : Nat) (yse : Nat) (ysp : Nat) (ypa : Nat) (rA : Int32) (yb : Nat) (ybd : Nat) (ybc : Nat) (yr : Nat) (rF : Int32) (rP : Int32) (ywd : Nat) (rS : Int32) (rN : Int32) (rO : Int32) (rW : Int32) (rL : Int32) (rD : Int32) (yd : Nat) (rI : Int32) (rX : Int32) (rY : Int32) (rZ : Int32) (rU : Int32) (yro : Nat) (yc : Nat) (ybe : Nat) (yco : Nat) (rC : Int64) (rV : Int64) (qT : Nat → Int32) (G : Nat) (K : Nat) (M : Nat) (N : Nat) (Tn : Nat) (T23 : Int32 → (Nat → Int32) → Prop) (hT23 : ∀ (i : Int32) (t1 : Nat → Int32), T23 i t1 → paX9_feed_23 B g a1 a2 a3 a4 a5 h0 yt rH yw yp yg yu ysl yin yse ysp ypa rA yb ybd ybc yr rF rP ywd rS rN rO rW rL rD yd rI rX rY rZ rU yro yc ybe yco rC rV qT G K M N Tn i t1)  (vc : ((((nI Tn) + 20) ≤ 400 → T23 0 qT) ∧ (¬ ((nI Tn) + 20) ≤ 400 → Post (some (.int (-1))) [(h0, .inr (8, [.ref yt, .int (nI Tn), .int 0, .int (nI G), .ref yw, .int (nI K), .ref yp, .ref yg, .int (nI M), .ref yu, .int (nI N), .ref ysl, .ref yin, .ref yse, .ref ysp, .ref ypa, .int rA, .ref yb, .ref ybd, .ref ybc, .ref yr, .int rF, .int rP, .ref ywd, .int rS, .int rN, .int rO, .int rW, .int rL, .int rD, .ref yd, .int rI, .int rX, .int rY, .int rZ, .int rU, .ref yro, .ref yc, .ref ybe, .ref yco, .long rC, .long rV])), (yt, .inl (g.2.1 1, 400, .inl qT))]))) : pz_At B 0 0 0 [(0, .ref h0), (1, .int a1), (2, .int a2), (3, .int a3), (4, .int a4), (5, .int a5)] [] [(h0, .inr (8, [.ref yt, .int (nI Tn), .int rH, .int (nI G), .ref yw, .int (nI K), .ref yp, .ref yg, .int (nI M), .ref yu, .int (nI N), .ref ysl, .ref yin, .ref yse, .ref ysp, .ref ypa, .int rA, .ref yb, .ref ybd, .ref ybc, .ref yr, .int rF, .int rP, .ref ywd, .int rS, .int rN, .int rO, .int rW, .int rL, .int rD, .ref yd, .int rI, .int rX, .int rY, .int rZ, .int rU, .ref yro, .ref yc, .ref ybe, .ref yco, .long rC, .long rV])), (yt, .inl (g.2.1 1, 400, .inl qT))] := by
  refine pz_aload_n 0 F rfl dX9_feed_0 rfl ?_
  refine pz_iconst (v := 0) F dX9_feed_1 rfl ?_
  refine pz_put (ws' := [(h0, .inr (8, [.ref yt, .int (nI Tn), .int 0, .int (nI G), .ref yw, .int (nI K), .ref yp, .ref yg, .int (nI M), .ref yu, .int (nI N), .ref ysl, .ref yin, .ref yse, .ref ysp, .ref ypa, .int rA, .ref yb, .ref ybd, .ref ybc, .ref yr, .int rF, .int rP, .ref ywd, .int rS, .int rN, .int rO, .int rW, .int rL, .int rD, .ref yd, .int rI, .int rX, .int rY, .int rZ, .int rU, .ref yro, .ref yc, .ref ybe, .ref yco, .long rC, .long rV])), (yt, .inl (g.2.1 1, 400, .inl qT))]) (ci := 8) (C := RX9) (T := TX9) (N := 42) (v := .int 0) (ty := .int) 0 F rfl rfl pz_inX9 2 (by decide) pw_810 tyX9_ok nmX9 rfl rfl rfl rfl (Nat.le_of_ble_eq_true rfl) dX9_feed_2 rfl ?_
  refine pz_aload_n 0 F rfl dX9_feed_5 rfl ?_
  refine pz_get (ci := 8) (C := RX9) (T := TX9) (N := 42) (v := .int (nI Tn)) 0 F rfl rfl pz_inX9 1 (by decide) pw_809 rfl dX9_feed_6 ?_
  refine pz_bipush (v := 20) F dX9_feed_9 rfl ?_
  refine pz_iadd F dX9_feed_11 ?_
  refine pz_sipush (v := 400) F dX9_feed_12 rfl ?_
  refine pz_icmp_le (tgt := 20) F dX9_feed_15 (by decide) (fun q_1 => ?_) (fun q_1 => ?_)
  · replace vc := vc.1 q_1
    refine pz_iconst (v := 0) F dX9_feed_20 rfl ?_
    refine pz_istore (lv' := [(6, .int 0), (0, .ref h0), (1, .int a1), (2, .int a2), (3, .int a3), (4, .int a4), (5, .int a5)]) F dX9_feed_21 (by decide) rfl ?_
    exact pz_sub [1, 2, 3, 4, 5, 6, 0] [0, 1] rfl rfl rfl (hT23 0 qT vc)
  · replace vc := vc.2 q_1
    refine pz_iconst (v := (-1)) F dX9_feed_18 rfl ?_
    exact pz_ireturn (w1 := [(h0, .inr (8, [.ref yt, .int (nI Tn), .int 0, .int (nI G), .ref yw, .int (nI K), .ref yp, .ref yg, .int (nI M), .ref yu, .int (nI N), .ref ysl, .ref yin, .ref yse, .ref ysp, .ref ypa, .int rA, .ref yb, .ref ybd, .ref ybc, .ref yr, .int rF, .int rP, .ref ywd, .int rS, .int rN, .int rO, .int rW, .int rL, .int rD, .ref yd, .int rI, .int rX, .int rY, .int rZ, .int rU, .ref yro, .ref yc, .ref ybe, .ref yco, .long rC, .long rV])), (yt, .inl (g.2.1 1, 400, .inl qT))]) F Rt (by decide) (by decide) dX9_feed_19 [0, 1] rfl rfl rfl vc
set_option maxHeartbeats 4000000 in
set_option maxRecDepth 100000 in
theorem sgX9_feed_23 {B : pz_B} {g : pz_G} {wc : va_W} {Post : Option Value → va_W → Prop} (F : pz_F B cX9_feed 8 (some .int) yX9_feed.cls g rmX9_feed) (Rt : pz_Rt B g wc Post rmX9_feed) (a1 : Int32) (a2 : Int32) (a3 : Int32) (a4 : Int32) (a5 : Int32) (h0 : Nat) (yt : Nat) (rH : Int32) (yw : Nat) (yp : Nat) (yg : Nat) (yu : Nat) (ysl : Nat) (yin : Nat) (yse : Nat) (ysp : Nat) (ypa : Nat) (rA : Int32) (yb : Nat) (ybd : Nat) (ybc : Nat) (yr : Nat) (rF : Int32) (rP : Int32) (ywd : Nat) (rS : Int32) (rN : Int32) (rO : Int32) (rW : Int32) (rL : Int32) (rD : Int32) (yd : Nat) (rI : Int32) (rX : Int32) (rY : Int32) (rZ : Int32) (rU : Int32) (yro : Nat) (yc : Nat) (ybe : Nat) (yco : Nat) (rC : Int64) (rV : Int64) (qT : Nat → Int32) (G : Nat) (K : Nat) (M : Nat) (N : Nat) (Tn : Nat) (T23 : Int32 → (Nat → Int32) → Prop) (hT23 : ∀ (i : Int32) (t1 : Nat → Int32), T23 i t1 → paX9_feed_23 B g a1 a2 a3 a4 a5 h0 yt rH yw yp yg yu ysl yin yse ysp ypa rA yb ybd ybc yr rF rP ywd rS rN rO rW rL rD yd rI rX rY rZ rU yro yc ybe yco rC rV qT G K M N Tn i t1) (i : Int32) (t1 : Nat → Int32) (vc : (((20 : Int32) ≤ i → ∀ x_2 : Int32, x_2 = ((nI Tn) + 20) → Post (some (.int x_2)) [(h0, .inr (8, [.ref yt, .int x_2, .int 0, .int (nI G), .ref yw, .int (nI K), .ref yp, .ref yg, .int (nI M), .ref yu, .int (nI N), .ref ysl, .ref yin, .ref yse, .ref ysp, .ref ypa, .int rA, .ref yb, .ref ybd, .ref ybc, .ref yr, .int rF, .int rP, .ref ywd, .int rS, .int rN, .int rO, .int rW, .int rL, .int rD, .ref yd, .int rI, .int rX, .int rY, .int rZ, .int rU, .ref yro, .ref yc, .ref ybe, .ref yco, .long rC, .long rV])), (yt, .inl (g.2.1 1, 400, .inl t1))]) ∧ (¬ (20 : Int32) ≤ i → (((4 : Int32) ≤ i → (((8 : Int32) ≤ i → (((12 : Int32) ≤ i → (((16 : Int32) ≤ i → ∀ x_7 : Int32, x_7 = ((a5 >>> ((24 - (8 * (i - i / 4 * 4))) &&& 31)) &&& 255) → vp_in ((nI Tn) + i) 400 ∧ ∀ f_9 : Nat → Int32, f_9 = upd t1 ((nI Tn) + i).toNatClampNeg x_7 → ∀ x_10 : Int32, x_10 = i + 1 → T23 x_10 f_9) ∧ (¬ (16 : Int32) ≤ i → ∀ x_11 : Int32, x_11 = ((a4 >>> ((24 - (8 * (i - i / 4 * 4))) &&& 31)) &&& 255) → vp_in ((nI Tn) + i) 400 ∧ ∀ f_13 : Nat → Int32, f_13 = upd t1 ((nI Tn) + i).toNatClampNeg x_11 → ∀ x_14 : Int32, x_14 = i + 1 → T23 x_14 f_13))) ∧ (¬ (12 : Int32) ≤ i → ∀ x_15 : Int32, x_15 = ((a3 >>> ((24 - (8 * (i - i / 4 * 4))) &&& 31)) &&& 255) → vp_in ((nI Tn) + i) 400 ∧ ∀ f_17 : Nat → Int32, f_17 = upd t1 ((nI Tn) + i).toNatClampNeg x_15 → ∀ x_18 : Int32, x_18 = i + 1 → T23 x_18 f_17))) ∧ (¬ (8 : Int32) ≤ i → ∀ x_19 : Int32, x_19 = ((a2 >>> ((24 - (8 * (i - i / 4 * 4))) &&& 31)) &&& 255) → vp_in ((nI Tn) + i) 400 ∧ ∀ f_21 : Nat → Int32, f_21 = upd t1 ((nI Tn) + i).toNatClampNeg x_19 → ∀ x_22 : Int32, x_22 = i + 1 → T23 x_22 f_21))) ∧ (¬ (4 : Int32) ≤ i → ∀ x_23 : Int32, x_23 = ((a1 >>> ((24 - (8 * (i - i / 4 * 4))) &&& 31)) &&& 255) → vp_in ((nI Tn) + i) 400 ∧ ∀ f_25 : Nat → Int32, f_25 = upd t1 ((nI Tn) + i).toNatClampNeg x_23 → ∀ x_26 : Int32, x_26 = i + 1 → T23 x_26 f_25))))) : pz_At B 0 0 23 [(0, .ref h0), (1, .int a1), (2, .int a2), (3, .int a3), (4, .int a4), (5, .int a5), (6, .int i)] [] [(h0, .inr (8, [.ref yt, .int (nI Tn), .int 0, .int (nI G), .ref yw, .int (nI K), .ref yp, .ref yg, .int (nI M), .ref yu, .int (nI N), .ref ysl, .ref yin, .ref yse, .ref ysp, .ref ypa, .int rA, .ref yb, .ref ybd, .ref ybc, .ref yr, .int rF, .int rP, .ref ywd, .int rS, .int rN, .int rO, .int rW, .int rL, .int rD, .ref yd, .int rI, .int rX, .int rY, .int rZ, .int rU, .ref yro, .ref yc, .ref ybe, .ref yco, .long rC, .long rV])), (yt, .inl (g.2.1 1, 400, .inl t1))] := by
  refine pz_iload 6 F rfl dX9_feed_23 ?_
  refine pz_bipush (v := 20) F dX9_feed_25 rfl ?_
  refine pz_icmp_ge (tgt := 113) F dX9_feed_27 (by decide) (fun q_1 => ?_) (fun q_1 => ?_)
  · replace vc := vc.1 q_1
    refine pz_aload_n 0 F rfl dX9_feed_113 rfl ?_
    refine pz_dup F dX9_feed_114 rfl ?_
    refine pz_get (ci := 8) (C := RX9) (T := TX9) (N := 42) (v := .int (nI Tn)) 0 F rfl rfl pz_inX9 1 (by decide) pw_809 rfl dX9_feed_115 ?_
    refine pz_bipush (v := 20) F dX9_feed_118 rfl ?_
    refine pz_iadd F dX9_feed_120 ?_
    refine pz_topi (fun x_2 ex_2 => ?_)
    replace vc := vc x_2 ex_2
    refine pz_put (ws' := [(h0, .inr (8, [.ref yt, .int x_2, .int 0, .int (nI G), .ref yw, .int (nI K), .ref yp, .ref yg, .int (nI M), .ref yu, .int (nI N), .ref ysl, .ref yin, .ref yse, .ref ysp, .ref ypa, .int rA, .ref yb, .ref ybd, .ref ybc, .ref yr, .int rF, .int rP, .ref ywd, .int rS, .int rN, .int rO, .int rW, .int rL, .int rD, .ref yd, .int rI, .int rX, .int rY, .int rZ, .int rU, .ref yro, .ref yc, .ref ybe, .ref yco, .long rC, .long rV])), (yt, .inl (g.2.1 1, 400, .inl t1))]) (ci := 8) (C := RX9) (T := TX9) (N := 42) (v := .int x_2) (ty := .int) 0 F rfl rfl pz_inX9 1 (by decide) pw_809 tyX9_ok nmX9 rfl rfl rfl rfl (Nat.le_of_ble_eq_true rfl) dX9_feed_121 rfl ?_
    refine pz_aload_n 0 F rfl dX9_feed_124 rfl ?_
    refine pz_get (ci := 8) (C := RX9) (T := TX9) (N := 42) (v := .int x_2) 0 F rfl rfl pz_inX9 1 (by decide) pw_809 rfl dX9_feed_125 ?_
    exact pz_ireturn (w1 := [(h0, .inr (8, [.ref yt, .int x_2, .int 0, .int (nI G), .ref yw, .int (nI K), .ref yp, .ref yg, .int (nI M), .ref yu, .int (nI N), .ref ysl, .ref yin, .ref yse, .ref ysp, .ref ypa, .int rA, .ref yb, .ref ybd, .ref ybc, .ref yr, .int rF, .int rP, .ref ywd, .int rS, .int rN, .int rO, .int rW, .int rL, .int rD, .ref yd, .int rI, .int rX, .int rY, .int rZ, .int rU, .ref yro, .ref yc, .ref ybe, .ref yco, .long rC, .long rV])), (yt, .inl (g.2.1 1, 400, .inl t1))]) F Rt (by decide) (by decide) dX9_feed_128 [0, 1] rfl rfl rfl vc
  · replace vc := vc.2 q_1
    refine pz_iload 6 F rfl dX9_feed_30 ?_
    refine pz_iconst (v := 4) F dX9_feed_32 rfl ?_
    refine pz_icmp_ge (tgt := 40) F dX9_feed_33 (by decide) (fun q_3 => ?_) (fun q_3 => ?_)
    · replace vc := vc.1 q_3
      refine pz_iload 6 F rfl dX9_feed_40 ?_
      refine pz_bipush (v := 8) F dX9_feed_42 rfl ?_
      refine pz_icmp_ge (tgt := 51) F dX9_feed_44 (by decide) (fun q_4 => ?_) (fun q_4 => ?_)
      · replace vc := vc.1 q_4
        refine pz_iload 6 F rfl dX9_feed_51 ?_
        refine pz_bipush (v := 12) F dX9_feed_53 rfl ?_
        refine pz_icmp_ge (tgt := 62) F dX9_feed_55 (by decide) (fun q_5 => ?_) (fun q_5 => ?_)
        · replace vc := vc.1 q_5
          refine pz_iload 6 F rfl dX9_feed_62 ?_
          refine pz_bipush (v := 16) F dX9_feed_64 rfl ?_
          refine pz_icmp_ge (tgt := 74) F dX9_feed_66 (by decide) (fun q_6 => ?_) (fun q_6 => ?_)
          · replace vc := vc.1 q_6
            refine pz_iload 5 F rfl dX9_feed_74 ?_
            refine pz_istore (lv' := [(7, .int a5), (0, .ref h0), (1, .int a1), (2, .int a2), (3, .int a3), (4, .int a4), (5, .int a5), (6, .int i)]) F dX9_feed_76 (by decide) rfl ?_
            refine pz_aload_n 1 F rfl dX9_feed_78 rfl ?_
            refine pz_get (ci := 8) (C := RX9) (T := TX9) (N := 42) (v := .ref yt) 0 F rfl rfl pz_inX9 0 (by decide) pw_808 rfl dX9_feed_79 ?_
            refine pz_aload_n 1 F rfl dX9_feed_82 rfl ?_
            refine pz_get (ci := 8) (C := RX9) (T := TX9) (N := 42) (v := .int (nI Tn)) 0 F rfl rfl pz_inX9 1 (by decide) pw_809 rfl dX9_feed_83 ?_
            refine pz_iload 7 F rfl dX9_feed_86 ?_
            refine pz_iadd F dX9_feed_88 ?_
            refine pz_iload 0 F rfl dX9_feed_89 ?_
            refine pz_bipush (v := 24) F dX9_feed_91 rfl ?_
            refine pz_bipush (v := 8) F dX9_feed_93 rfl ?_
            refine pz_iload 7 F rfl dX9_feed_95 ?_
            refine pz_iconst (v := 4) F dX9_feed_97 rfl ?_
            refine pz_irem F (by decide) dX9_feed_98 ?_
            refine pz_imul F dX9_feed_99 ?_
            refine pz_isub F dX9_feed_100 ?_
            refine pz_ishr F dX9_feed_101 ?_
            refine pz_sipush (v := 255) F dX9_feed_102 rfl ?_
            refine pz_iand F dX9_feed_105 ?_
            refine pz_topi (fun x_7 ex_7 => ?_)
            replace vc := vc x_7 ex_7
            obtain ⟨h_8, vc⟩ := vc
            obtain ⟨f_9, ef_9⟩ : ∃ z : Nat → Int32, z = upd t1 ((nI Tn) + i).toNatClampNeg x_7 := ⟨_, rfl⟩
            replace vc := vc f_9 ef_9
            refine pz_iastore (ws' := [(h0, .inr (8, [.ref yt, .int (nI Tn), .int 0, .int (nI G), .ref yw, .int (nI K), .ref yp, .ref yg, .int (nI M), .ref yu, .int (nI N), .ref ysl, .ref yin, .ref yse, .ref ysp, .ref ypa, .int rA, .ref yb, .ref ybd, .ref ybc, .ref yr, .int rF, .int rP, .ref ywd, .int rS, .int rN, .int rO, .int rW, .int rL, .int rD, .ref yd, .int rI, .int rX, .int rY, .int rZ, .int rU, .ref yro, .ref yc, .ref ybe, .ref yco, .long rC, .long rV])), (yt, .inl (g.2.1 1, 400, .inl f_9))]) F 1 rfl h_8 dX9_feed_106 (by rw [ef_9]; rfl) ?_
            obtain ⟨x_10, ex_10⟩ : ∃ z : Int32, z = i + 1 := ⟨_, rfl⟩
            replace vc := vc x_10 ex_10
            refine pz_iinc (v := x_10) (lv' := [(6, .int x_10), (7, .int a5), (0, .ref h0), (1, .int a1), (2, .int a2), (3, .int a3), (4, .int a4), (5, .int a5)]) 7 F rfl dX9_feed_107 (by rw [ex_10]; rfl) (by decide) rfl ?_
            refine pz_goto (tgt := 23) F dX9_feed_110 (by decide) ?_
            exact pz_sub [2, 3, 4, 5, 6, 7, 0] [0, 1] rfl rfl rfl (hT23 x_10 f_9 vc)
          · replace vc := vc.2 q_6
            refine pz_iload 4 F rfl dX9_feed_69 ?_
            refine pz_goto (tgt := 76) F dX9_feed_71 (by decide) ?_
            refine pz_istore (lv' := [(7, .int a4), (0, .ref h0), (1, .int a1), (2, .int a2), (3, .int a3), (4, .int a4), (5, .int a5), (6, .int i)]) F dX9_feed_76 (by decide) rfl ?_
            refine pz_aload_n 1 F rfl dX9_feed_78 rfl ?_
            refine pz_get (ci := 8) (C := RX9) (T := TX9) (N := 42) (v := .ref yt) 0 F rfl rfl pz_inX9 0 (by decide) pw_808 rfl dX9_feed_79 ?_
            refine pz_aload_n 1 F rfl dX9_feed_82 rfl ?_
            refine pz_get (ci := 8) (C := RX9) (T := TX9) (N := 42) (v := .int (nI Tn)) 0 F rfl rfl pz_inX9 1 (by decide) pw_809 rfl dX9_feed_83 ?_
            refine pz_iload 7 F rfl dX9_feed_86 ?_
            refine pz_iadd F dX9_feed_88 ?_
            refine pz_iload 0 F rfl dX9_feed_89 ?_
            refine pz_bipush (v := 24) F dX9_feed_91 rfl ?_
            refine pz_bipush (v := 8) F dX9_feed_93 rfl ?_
            refine pz_iload 7 F rfl dX9_feed_95 ?_
            refine pz_iconst (v := 4) F dX9_feed_97 rfl ?_
            refine pz_irem F (by decide) dX9_feed_98 ?_
            refine pz_imul F dX9_feed_99 ?_
            refine pz_isub F dX9_feed_100 ?_
            refine pz_ishr F dX9_feed_101 ?_
            refine pz_sipush (v := 255) F dX9_feed_102 rfl ?_
            refine pz_iand F dX9_feed_105 ?_
            refine pz_topi (fun x_11 ex_11 => ?_)
            replace vc := vc x_11 ex_11
            obtain ⟨h_12, vc⟩ := vc
            obtain ⟨f_13, ef_13⟩ : ∃ z : Nat → Int32, z = upd t1 ((nI Tn) + i).toNatClampNeg x_11 := ⟨_, rfl⟩
            replace vc := vc f_13 ef_13
            refine pz_iastore (ws' := [(h0, .inr (8, [.ref yt, .int (nI Tn), .int 0, .int (nI G), .ref yw, .int (nI K), .ref yp, .ref yg, .int (nI M), .ref yu, .int (nI N), .ref ysl, .ref yin, .ref yse, .ref ysp, .ref ypa, .int rA, .ref yb, .ref ybd, .ref ybc, .ref yr, .int rF, .int rP, .ref ywd, .int rS, .int rN, .int rO, .int rW, .int rL, .int rD, .ref yd, .int rI, .int rX, .int rY, .int rZ, .int rU, .ref yro, .ref yc, .ref ybe, .ref yco, .long rC, .long rV])), (yt, .inl (g.2.1 1, 400, .inl f_13))]) F 1 rfl h_12 dX9_feed_106 (by rw [ef_13]; rfl) ?_
            obtain ⟨x_14, ex_14⟩ : ∃ z : Int32, z = i + 1 := ⟨_, rfl⟩
            replace vc := vc x_14 ex_14
            refine pz_iinc (v := x_14) (lv' := [(6, .int x_14), (7, .int a4), (0, .ref h0), (1, .int a1), (2, .int a2), (3, .int a3), (4, .int a4), (5, .int a5)]) 7 F rfl dX9_feed_107 (by rw [ex_14]; rfl) (by decide) rfl ?_
            refine pz_goto (tgt := 23) F dX9_feed_110 (by decide) ?_
            exact pz_sub [2, 3, 4, 5, 6, 7, 0] [0, 1] rfl rfl rfl (hT23 x_14 f_13 vc)
        · replace vc := vc.2 q_5
          refine pz_iload_n 3 F rfl dX9_feed_58 rfl ?_
          refine pz_goto (tgt := 76) F dX9_feed_59 (by decide) ?_
          refine pz_istore (lv' := [(7, .int a3), (0, .ref h0), (1, .int a1), (2, .int a2), (3, .int a3), (4, .int a4), (5, .int a5), (6, .int i)]) F dX9_feed_76 (by decide) rfl ?_
          refine pz_aload_n 1 F rfl dX9_feed_78 rfl ?_
          refine pz_get (ci := 8) (C := RX9) (T := TX9) (N := 42) (v := .ref yt) 0 F rfl rfl pz_inX9 0 (by decide) pw_808 rfl dX9_feed_79 ?_
          refine pz_aload_n 1 F rfl dX9_feed_82 rfl ?_
          refine pz_get (ci := 8) (C := RX9) (T := TX9) (N := 42) (v := .int (nI Tn)) 0 F rfl rfl pz_inX9 1 (by decide) pw_809 rfl dX9_feed_83 ?_
          refine pz_iload 7 F rfl dX9_feed_86 ?_
          refine pz_iadd F dX9_feed_88 ?_
          refine pz_iload 0 F rfl dX9_feed_89 ?_
          refine pz_bipush (v := 24) F dX9_feed_91 rfl ?_
          refine pz_bipush (v := 8) F dX9_feed_93 rfl ?_
          refine pz_iload 7 F rfl dX9_feed_95 ?_
          refine pz_iconst (v := 4) F dX9_feed_97 rfl ?_
          refine pz_irem F (by decide) dX9_feed_98 ?_
          refine pz_imul F dX9_feed_99 ?_
          refine pz_isub F dX9_feed_100 ?_
          refine pz_ishr F dX9_feed_101 ?_
          refine pz_sipush (v := 255) F dX9_feed_102 rfl ?_
          refine pz_iand F dX9_feed_105 ?_
          refine pz_topi (fun x_15 ex_15 => ?_)
          replace vc := vc x_15 ex_15
          obtain ⟨h_16, vc⟩ := vc
          obtain ⟨f_17, ef_17⟩ : ∃ z : Nat → Int32, z = upd t1 ((nI Tn) + i).toNatClampNeg x_15 := ⟨_, rfl⟩
          replace vc := vc f_17 ef_17
          refine pz_iastore (ws' := [(h0, .inr (8, [.ref yt, .int (nI Tn), .int 0, .int (nI G), .ref yw, .int (nI K), .ref yp, .ref yg, .int (nI M), .ref yu, .int (nI N), .ref ysl, .ref yin, .ref yse, .ref ysp, .ref ypa, .int rA, .ref yb, .ref ybd, .ref ybc, .ref yr, .int rF, .int rP, .ref ywd, .int rS, .int rN, .int rO, .int rW, .int rL, .int rD, .ref yd, .int rI, .int rX, .int rY, .int rZ, .int rU, .ref yro, .ref yc, .ref ybe, .ref yco, .long rC, .long rV])), (yt, .inl (g.2.1 1, 400, .inl f_17))]) F 1 rfl h_16 dX9_feed_106 (by rw [ef_17]; rfl) ?_
          obtain ⟨x_18, ex_18⟩ : ∃ z : Int32, z = i + 1 := ⟨_, rfl⟩
          replace vc := vc x_18 ex_18
          refine pz_iinc (v := x_18) (lv' := [(6, .int x_18), (7, .int a3), (0, .ref h0), (1, .int a1), (2, .int a2), (3, .int a3), (4, .int a4), (5, .int a5)]) 7 F rfl dX9_feed_107 (by rw [ex_18]; rfl) (by decide) rfl ?_
          refine pz_goto (tgt := 23) F dX9_feed_110 (by decide) ?_
          exact pz_sub [2, 3, 4, 5, 6, 7, 0] [0, 1] rfl rfl rfl (hT23 x_18 f_17 vc)
      · replace vc := vc.2 q_4
        refine pz_iload_n 2 F rfl dX9_feed_47 rfl ?_
        refine pz_goto (tgt := 76) F dX9_feed_48 (by decide) ?_
        refine pz_istore (lv' := [(7, .int a2), (0, .ref h0), (1, .int a1), (2, .int a2), (3, .int a3), (4, .int a4), (5, .int a5), (6, .int i)]) F dX9_feed_76 (by decide) rfl ?_
        refine pz_aload_n 1 F rfl dX9_feed_78 rfl ?_
        refine pz_get (ci := 8) (C := RX9) (T := TX9) (N := 42) (v := .ref yt) 0 F rfl rfl pz_inX9 0 (by decide) pw_808 rfl dX9_feed_79 ?_
        refine pz_aload_n 1 F rfl dX9_feed_82 rfl ?_
        refine pz_get (ci := 8) (C := RX9) (T := TX9) (N := 42) (v := .int (nI Tn)) 0 F rfl rfl pz_inX9 1 (by decide) pw_809 rfl dX9_feed_83 ?_
        refine pz_iload 7 F rfl dX9_feed_86 ?_
        refine pz_iadd F dX9_feed_88 ?_
        refine pz_iload 0 F rfl dX9_feed_89 ?_
        refine pz_bipush (v := 24) F dX9_feed_91 rfl ?_
        refine pz_bipush (v := 8) F dX9_feed_93 rfl ?_
        refine pz_iload 7 F rfl dX9_feed_95 ?_
        refine pz_iconst (v := 4) F dX9_feed_97 rfl ?_
        refine pz_irem F (by decide) dX9_feed_98 ?_
        refine pz_imul F dX9_feed_99 ?_
        refine pz_isub F dX9_feed_100 ?_
        refine pz_ishr F dX9_feed_101 ?_
        refine pz_sipush (v := 255) F dX9_feed_102 rfl ?_
        refine pz_iand F dX9_feed_105 ?_
        refine pz_topi (fun x_19 ex_19 => ?_)
        replace vc := vc x_19 ex_19
        obtain ⟨h_20, vc⟩ := vc
        obtain ⟨f_21, ef_21⟩ : ∃ z : Nat → Int32, z = upd t1 ((nI Tn) + i).toNatClampNeg x_19 := ⟨_, rfl⟩
        replace vc := vc f_21 ef_21
        refine pz_iastore (ws' := [(h0, .inr (8, [.ref yt, .int (nI Tn), .int 0, .int (nI G), .ref yw, .int (nI K), .ref yp, .ref yg, .int (nI M), .ref yu, .int (nI N), .ref ysl, .ref yin, .ref yse, .ref ysp, .ref ypa, .int rA, .ref yb, .ref ybd, .ref ybc, .ref yr, .int rF, .int rP, .ref ywd, .int rS, .int rN, .int rO, .int rW, .int rL, .int rD, .ref yd, .int rI, .int rX, .int rY, .int rZ, .int rU, .ref yro, .ref yc, .ref ybe, .ref yco, .long rC, .long rV])), (yt, .inl (g.2.1 1, 400, .inl f_21))]) F 1 rfl h_20 dX9_feed_106 (by rw [ef_21]; rfl) ?_
        obtain ⟨x_22, ex_22⟩ : ∃ z : Int32, z = i + 1 := ⟨_, rfl⟩
        replace vc := vc x_22 ex_22
        refine pz_iinc (v := x_22) (lv' := [(6, .int x_22), (7, .int a2), (0, .ref h0), (1, .int a1), (2, .int a2), (3, .int a3), (4, .int a4), (5, .int a5)]) 7 F rfl dX9_feed_107 (by rw [ex_22]; rfl) (by decide) rfl ?_
        refine pz_goto (tgt := 23) F dX9_feed_110 (by decide) ?_
        exact pz_sub [2, 3, 4, 5, 6, 7, 0] [0, 1] rfl rfl rfl (hT23 x_22 f_21 vc)
    · replace vc := vc.2 q_3
      refine pz_iload_n 1 F rfl dX9_feed_36 rfl ?_
      refine pz_goto (tgt := 76) F dX9_feed_37 (by decide) ?_
      refine pz_istore (lv' := [(7, .int a1), (0, .ref h0), (1, .int a1), (2, .int a2), (3, .int a3), (4, .int a4), (5, .int a5), (6, .int i)]) F dX9_feed_76 (by decide) rfl ?_
      refine pz_aload_n 1 F rfl dX9_feed_78 rfl ?_
      refine pz_get (ci := 8) (C := RX9) (T := TX9) (N := 42) (v := .ref yt) 0 F rfl rfl pz_inX9 0 (by decide) pw_808 rfl dX9_feed_79 ?_
      refine pz_aload_n 1 F rfl dX9_feed_82 rfl ?_
      refine pz_get (ci := 8) (C := RX9) (T := TX9) (N := 42) (v := .int (nI Tn)) 0 F rfl rfl pz_inX9 1 (by decide) pw_809 rfl dX9_feed_83 ?_
      refine pz_iload 7 F rfl dX9_feed_86 ?_
      refine pz_iadd F dX9_feed_88 ?_
      refine pz_iload 0 F rfl dX9_feed_89 ?_
      refine pz_bipush (v := 24) F dX9_feed_91 rfl ?_
      refine pz_bipush (v := 8) F dX9_feed_93 rfl ?_
      refine pz_iload 7 F rfl dX9_feed_95 ?_
      refine pz_iconst (v := 4) F dX9_feed_97 rfl ?_
      refine pz_irem F (by decide) dX9_feed_98 ?_
      refine pz_imul F dX9_feed_99 ?_
      refine pz_isub F dX9_feed_100 ?_
      refine pz_ishr F dX9_feed_101 ?_
      refine pz_sipush (v := 255) F dX9_feed_102 rfl ?_
      refine pz_iand F dX9_feed_105 ?_
      refine pz_topi (fun x_23 ex_23 => ?_)
      replace vc := vc x_23 ex_23
      obtain ⟨h_24, vc⟩ := vc
      obtain ⟨f_25, ef_25⟩ : ∃ z : Nat → Int32, z = upd t1 ((nI Tn) + i).toNatClampNeg x_23 := ⟨_, rfl⟩
      replace vc := vc f_25 ef_25
      refine pz_iastore (ws' := [(h0, .inr (8, [.ref yt, .int (nI Tn), .int 0, .int (nI G), .ref yw, .int (nI K), .ref yp, .ref yg, .int (nI M), .ref yu, .int (nI N), .ref ysl, .ref yin, .ref yse, .ref ysp, .ref ypa, .int rA, .ref yb, .ref ybd, .ref ybc, .ref yr, .int rF, .int rP, .ref ywd, .int rS, .int rN, .int rO, .int rW, .int rL, .int rD, .ref yd, .int rI, .int rX, .int rY, .int rZ, .int rU, .ref yro, .ref yc, .ref ybe, .ref yco, .long rC, .long rV])), (yt, .inl (g.2.1 1, 400, .inl f_25))]) F 1 rfl h_24 dX9_feed_106 (by rw [ef_25]; rfl) ?_
      obtain ⟨x_26, ex_26⟩ : ∃ z : Int32, z = i + 1 := ⟨_, rfl⟩
      replace vc := vc x_26 ex_26
      refine pz_iinc (v := x_26) (lv' := [(6, .int x_26), (7, .int a1), (0, .ref h0), (1, .int a1), (2, .int a2), (3, .int a3), (4, .int a4), (5, .int a5)]) 7 F rfl dX9_feed_107 (by rw [ex_26]; rfl) (by decide) rfl ?_
      refine pz_goto (tgt := 23) F dX9_feed_110 (by decide) ?_
      exact pz_sub [2, 3, 4, 5, 6, 7, 0] [0, 1] rfl rfl rfl (hT23 x_26 f_25 vc)
theorem lpX9_feed_23 {B : pz_B} {g : pz_G} {wc : va_W} {Post : Option Value → va_W → Prop} (F : pz_F B cX9_feed 8 (some .int) yX9_feed.cls g rmX9_feed) (Rt : pz_Rt B g wc Post rmX9_feed) (a1 : Int32) (a2 : Int32) (a3 : Int32) (a4 : Int32) (a5 : Int32) (h0 : Nat) (yt : Nat) (rH : Int32) (yw : Nat) (yp : Nat) (yg : Nat) (yu : Nat) (ysl : Nat) (yin : Nat) (yse : Nat) (ysp : Nat) (ypa : Nat) (rA : Int32) (yb : Nat) (ybd : Nat) (ybc : Nat) (yr : Nat) (rF : Int32) (rP : Int32) (ywd : Nat) (rS : Int32) (rN : Int32) (rO : Int32) (rW : Int32) (rL : Int32) (rD : Int32) (yd : Nat) (rI : Int32) (rX : Int32) (rY : Int32) (rZ : Int32) (rU : Int32) (yro : Nat) (yc : Nat) (ybe : Nat) (yco : Nat) (rC : Int64) (rV : Int64) (qT : Nat → Int32) (G : Nat) (K : Nat) (M : Nat) (N : Nat) (Tn : Nat) (Inv : Nat → Int32 → (Nat → Int32) → Prop) (step : ∀ (mz : Nat) (i : Int32) (t1 : Nat → Int32), Inv mz i t1 → ∀ TT : Int32 → (Nat → Int32) → Prop, TT = (fun i t1 => ∃ mz', mz' < mz ∧ Inv mz' i t1) → (((20 : Int32) ≤ i → ∀ x_2 : Int32, x_2 = ((nI Tn) + 20) → Post (some (.int x_2)) [(h0, .inr (8, [.ref yt, .int x_2, .int 0, .int (nI G), .ref yw, .int (nI K), .ref yp, .ref yg, .int (nI M), .ref yu, .int (nI N), .ref ysl, .ref yin, .ref yse, .ref ysp, .ref ypa, .int rA, .ref yb, .ref ybd, .ref ybc, .ref yr, .int rF, .int rP, .ref ywd, .int rS, .int rN, .int rO, .int rW, .int rL, .int rD, .ref yd, .int rI, .int rX, .int rY, .int rZ, .int rU, .ref yro, .ref yc, .ref ybe, .ref yco, .long rC, .long rV])), (yt, .inl (g.2.1 1, 400, .inl t1))]) ∧ (¬ (20 : Int32) ≤ i → (((4 : Int32) ≤ i → (((8 : Int32) ≤ i → (((12 : Int32) ≤ i → (((16 : Int32) ≤ i → ∀ x_7 : Int32, x_7 = ((a5 >>> ((24 - (8 * (i - i / 4 * 4))) &&& 31)) &&& 255) → vp_in ((nI Tn) + i) 400 ∧ ∀ f_9 : Nat → Int32, f_9 = upd t1 ((nI Tn) + i).toNatClampNeg x_7 → ∀ x_10 : Int32, x_10 = i + 1 → TT x_10 f_9) ∧ (¬ (16 : Int32) ≤ i → ∀ x_11 : Int32, x_11 = ((a4 >>> ((24 - (8 * (i - i / 4 * 4))) &&& 31)) &&& 255) → vp_in ((nI Tn) + i) 400 ∧ ∀ f_13 : Nat → Int32, f_13 = upd t1 ((nI Tn) + i).toNatClampNeg x_11 → ∀ x_14 : Int32, x_14 = i + 1 → TT x_14 f_13))) ∧ (¬ (12 : Int32) ≤ i → ∀ x_15 : Int32, x_15 = ((a3 >>> ((24 - (8 * (i - i / 4 * 4))) &&& 31)) &&& 255) → vp_in ((nI Tn) + i) 400 ∧ ∀ f_17 : Nat → Int32, f_17 = upd t1 ((nI Tn) + i).toNatClampNeg x_15 → ∀ x_18 : Int32, x_18 = i + 1 → TT x_18 f_17))) ∧ (¬ (8 : Int32) ≤ i → ∀ x_19 : Int32, x_19 = ((a2 >>> ((24 - (8 * (i - i / 4 * 4))) &&& 31)) &&& 255) → vp_in ((nI Tn) + i) 400 ∧ ∀ f_21 : Nat → Int32, f_21 = upd t1 ((nI Tn) + i).toNatClampNeg x_19 → ∀ x_22 : Int32, x_22 = i + 1 → TT x_22 f_21))) ∧ (¬ (4 : Int32) ≤ i → ∀ x_23 : Int32, x_23 = ((a1 >>> ((24 - (8 * (i - i / 4 * 4))) &&& 31)) &&& 255) → vp_in ((nI Tn) + i) 400 ∧ ∀ f_25 : Nat → Int32, f_25 = upd t1 ((nI Tn) + i).toNatClampNeg x_23 → ∀ x_26 : Int32, x_26 = i + 1 → TT x_26 f_25))))) : ∀ (mz : Nat) (i : Int32) (t1 : Nat → Int32), Inv mz i t1 → paX9_feed_23 B g a1 a2 a3 a4 a5 h0 yt rH yw yp yg yu ysl yin yse ysp ypa rA yb ybd ybc yr rF rP ywd rS rN rO rW rL rD yd rI rX rY rZ rU yro yc ybe yco rC rV qT G K M N Tn i t1 := by
  intro mz
  induction mz using Nat.strongRecOn with
  | _ mz ih =>
    intro i t1 hI
    exact sgX9_feed_23 F Rt a1 a2 a3 a4 a5 h0 yt rH yw yp yg yu ysl yin yse ysp ypa rA yb ybd ybc yr rF rP ywd rS rN rO rW rL rD yd rI rX rY rZ rU yro yc ybe yco rC rV qT G K M N Tn (fun i t1 => ∃ mz', mz' < mz ∧ Inv mz' i t1) (fun i t1 ⟨mz', h1, h2⟩ => ih mz' h1 i t1 h2) i t1 (step mz i t1 hI _ rfl)
set_option maxHeartbeats 4000000 in
set_option maxRecDepth 100000 in
theorem ctX9_feed (l : Launch) (g : pz_G) (a1 : Int32) (a2 : Int32) (a3 : Int32) (a4 : Int32) (a5 : Int32) (h0 : Nat) (yt : Nat) (rH : Int32) (yw : Nat) (yp : Nat) (yg : Nat) (yu : Nat) (ysl : Nat) (yin : Nat) (yse : Nat) (ysp : Nat) (ypa : Nat) (rA : Int32) (yb : Nat) (ybd : Nat) (ybc : Nat) (yr : Nat) (rF : Int32) (rP : Int32) (ywd : Nat) (rS : Int32) (rN : Int32) (rO : Int32) (rW : Int32) (rL : Int32) (rD : Int32) (yd : Nat) (rI : Int32) (rX : Int32) (rY : Int32) (rZ : Int32) (rU : Int32) (yro : Nat) (yc : Nat) (ybe : Nat) (yco : Nat) (rC : Int64) (rV : Int64) (qT : Nat → Int32) (G : Nat) (K : Nat) (M : Nat) (N : Nat) (Tn : Nat) (hpre : Tn ≤ 400) : pz_Ct l g yX9_feed cX9_feed 8 (some .int) rmX9_feed [.ref h0, .int a1, .int a2, .int a3, .int a4, .int a5] [(h0, .inr (8, [.ref yt, .int (nI Tn), .int rH, .int (nI G), .ref yw, .int (nI K), .ref yp, .ref yg, .int (nI M), .ref yu, .int (nI N), .ref ysl, .ref yin, .ref yse, .ref ysp, .ref ypa, .int rA, .ref yb, .ref ybd, .ref ybc, .ref yr, .int rF, .int rP, .ref ywd, .int rS, .int rN, .int rO, .int rW, .int rL, .int rD, .ref yd, .int rI, .int rX, .int rY, .int rZ, .int rU, .ref yro, .ref yc, .ref ybe, .ref yco, .long rC, .long rV])), (yt, .inl (g.2.1 1, 400, .inl qT))] (pz_pi (fun (r : Int32) (u : Int32 × (Nat → Int32)) => (400 < Tn + 20 ∧ r = -1 ∧ u.1 = nI Tn ∧ u.2 = qT) ∨ (Tn + 20 ≤ 400 ∧ r = nI (Tn + 20) ∧ u.1 = nI (Tn + 20) ∧ ∀ a, a < 400 → u.2 a = if Tn ≤ a ∧ a < Tn + 20 then fe_u (fe_w a1 a2 a3 a4 a5 ((a - Tn) / 4)) ((a - Tn) % 4) else qT a)) (fun (u : Int32 × (Nat → Int32)) => [(h0, .inr (8, [.ref yt, .int u.1, .int 0, .int (nI G), .ref yw, .int (nI K), .ref yp, .ref yg, .int (nI M), .ref yu, .int (nI N), .ref ysl, .ref yin, .ref yse, .ref ysp, .ref ypa, .int rA, .ref yb, .ref ybd, .ref ybc, .ref yr, .int rF, .int rP, .ref ywd, .int rS, .int rN, .int rO, .int rW, .int rL, .int rD, .ref yd, .int rI, .int rX, .int rY, .int rZ, .int rU, .ref yro, .ref yc, .ref ybe, .ref yco, .long rC, .long rV])), (yt, .inl (g.2.1 1, 400, .inl u.2))])) := by
  refine pz_ofAt (by decide +kernel) (Nat.le_of_ble_eq_true rfl) (fun B F Rt hme => ?_)
  have e20 : nI Tn + 20 = nI (Tn + 20) := nI_add Tn 20
  have h23 : Tn + 20 ≤ 400 → ∀ (mz : Nat) (i : Int32) (t1 : Nat → Int32), (∃ j, j + mz = 20 ∧ i = nI j ∧ ∀ a, a < 400 → t1 a = if Tn ≤ a ∧ a < Tn + j then fe_u (fe_w a1 a2 a3 a4 a5 ((a - Tn) / 4)) ((a - Tn) % 4) else qT a) → paX9_feed_23 B g a1 a2 a3 a4 a5 h0 yt rH yw yp yg yu ysl yin yse ysp ypa rA yb ybd ybc yr rF rP ywd rS rN rO rW rL rD yd rI rX rY rZ rU yro yc ybe yco rC rV qT G K M N Tn i t1 := fun hT => lpX9_feed_23 F Rt a1 a2 a3 a4 a5 h0 yt rH yw yp yg yu ysl yin yse ysp ypa rA yb ybd ybc yr rF rP ywd rS rN rO rW rL rD yd rI rX rY rZ rU yro yc ybe yco rC rV qT G K M N Tn (fun mz i t1 => ∃ j, j + mz = 20 ∧ i = nI j ∧ ∀ a, a < 400 → t1 a = if Tn ≤ a ∧ a < Tn + j then fe_u (fe_w a1 a2 a3 a4 a5 ((a - Tn) / 4)) ((a - Tn) % 4) else qT a) (by
    rintro mz i t1 ⟨j, hj, rfl, ht⟩ TT rfl
    have key : ∀ w : Int32, j < 20 → w = (fe_w a1 a2 a3 a4 a5 (j / 4)) → (∀ y : Int32, y = w >>> ((24 - 8 * (nI j - nI j / 4 * 4)) &&& 31) &&& 255 → vp_in (nI Tn + nI j) 400 ∧ ∀ f : Nat → Int32, f = upd t1 (nI Tn + nI j).toNatClampNeg y → ∀ x : Int32, x = nI j + 1 → ∃ mz', mz' < mz ∧ ∃ j, j + mz' = 20 ∧ x = nI j ∧ ∀ a, a < 400 → f a = if Tn ≤ a ∧ a < Tn + j then fe_u (fe_w a1 a2 a3 a4 a5 ((a - Tn) / 4)) ((a - Tn) % 4) else qT a) := by
      intro w hj20 hw
      rintro y rfl
      rw [nI_add]
      refine ⟨vp_in_nI (by omega) (by omega), ?_⟩
      rintro f rfl x rfl
      rw [nI_clamp (by omega)]
      refine ⟨mz - 1, by omega, j + 1, by omega, nI_1 j, fun a ha => ?_⟩
      by_cases e : a = Tn + j
      · rw [e, pk_us, if_pos (by omega), Nat.add_sub_cancel_left, fe_sh hj20, hw]
        rfl
      · rw [pk_un e, ht a ha]
        by_cases e2 : Tn ≤ a ∧ a < Tn + j
        · rw [if_pos e2, if_pos (by omega)]
        · rw [if_neg e2, if_neg (by omega)]
    refine ⟨fun q => ?_, fun q => ?_⟩
    · have h1 := pu_ge (n := 20) (by omega) q
      have ej : j = 20 := by omega
      subst ej
      rw [e20]
      rintro x rfl
      exact ⟨_, (_, _), rfl, rfl, Or.inr ⟨hT, rfl, rfl, ht⟩⟩
    · have h1 := pu_lt (n := 20) (by omega) (by omega) q
      refine ⟨fun q1 => ⟨fun q2 => ⟨fun q3 => ⟨fun q4 => ?_, fun q4 => ?_⟩, fun q3 => ?_⟩, fun q2 => ?_⟩, fun q1 => ?_⟩
      · have k1 := pu_ge (n := 16) (by omega) q4
        exact key _ h1 (by unfold fe_w; rw [if_neg (by omega), if_neg (by omega), if_neg (by omega), if_neg (by omega)])
      · have k1 := pu_lt (n := 16) (by omega) (by omega) q4
        have k2 := pu_ge (n := 12) (by omega) q3
        exact key _ h1 (by unfold fe_w; rw [if_neg (by omega), if_neg (by omega), if_neg (by omega), if_pos (by omega)])
      · have k1 := pu_lt (n := 12) (by omega) (by omega) q3
        have k2 := pu_ge (n := 8) (by omega) q2
        exact key _ h1 (by unfold fe_w; rw [if_neg (by omega), if_neg (by omega), if_pos (by omega)])
      · have k1 := pu_lt (n := 8) (by omega) (by omega) q2
        have k2 := pu_ge (n := 4) (by omega) q1
        exact key _ h1 (by unfold fe_w; rw [if_neg (by omega), if_pos (by omega)])
      · have k1 := pu_lt (n := 4) (by omega) (by omega) q1
        exact key _ h1 (by unfold fe_w; rw [if_pos (by omega)]))
  refine sgX9_feed_0 F Rt a1 a2 a3 a4 a5 h0 yt rH yw yp yg yu ysl yin yse ysp ypa rA yb ybd ybc yr rF rP ywd rS rN rO rW rL rD yd rI rX rY rZ rU yro yc ybe yco rC rV qT G K M N Tn (fun i t1 => Tn + 20 ≤ 400 ∧ (∃ j, j + 20 = 20 ∧ i = nI j ∧ ∀ a, a < 400 → t1 a = if Tn ≤ a ∧ a < Tn + j then fe_u (fe_w a1 a2 a3 a4 a5 ((a - Tn) / 4)) ((a - Tn) % 4) else qT a)) (fun i t1 h => h23 h.1 20 i t1 h.2) ?_
  rw [e20]
  refine ⟨fun q => ⟨(nI_leI (b := 400) (by omega) (by omega)).mp q, 0, by omega, nI_0.symm, fun a ha => by rw [if_neg (by omega)]⟩, fun q => ⟨_, (_, _), rfl, rfl, Or.inl ⟨?_, rfl, rfl, rfl⟩⟩⟩
  have h : ¬ Tn + 20 ≤ 400 := fun h => q (nI_le (b := 400) h (by omega))
  omega
abbrev rmX9_deal : Room := { frames := 0, cells := 0, slots := 0, locals := 0 }
abbrev paX9_deal_5 (B : pz_B) (g : pz_G) (c : Int32) (h0 : Nat) (yt : Nat) (rT : Int32) (rH : Int32) (yw : Nat) (yp : Nat) (yg : Nat) (yu : Nat) (ysl : Nat) (yin : Nat) (yse : Nat) (ysp : Nat) (ypa : Nat) (rA : Int32) (yb : Nat) (ybd : Nat) (ybc : Nat) (yr : Nat) (rF : Int32) (rP : Int32) (ywd : Nat) (rS : Int32) (rN : Int32) (rO : Int32) (rW : Int32) (rL : Int32) (rD : Int32) (yd : Nat) (rI : Int32) (rX : Int32) (rY : Int32) (rZ : Int32) (rU : Int32) (yro : Nat) (yc : Nat) (ybe : Nat) (yco : Nat) (rC : Int64) (rV : Int64) (qa : Nat → Int32) (qD : Nat → Int32) (G : Nat) (K : Nat) (M : Nat) (N : Nat) (b : Nat) (ov : Int32) (i : Int32) (d1 : Nat → Int32) : Prop := pz_At B 0 0 5 [(0, .ref h0), (1, .int (nI b)), (2, .int c), (3, .int ov), (4, .int i)] [] [(h0, .inr (8, [.ref yt, .int rT, .int rH, .int (nI G), .ref yw, .int (nI K), .ref yp, .ref yg, .int (nI M), .ref yu, .int (nI N), .ref ysl, .ref yin, .ref yse, .ref ysp, .ref ypa, .int rA, .ref yb, .ref ybd, .ref ybc, .ref yr, .int rF, .int rP, .ref ywd, .int rS, .int rN, .int rO, .int rW, .int rL, .int rD, .ref yd, .int rI, .int rX, .int rY, .int rZ, .int rU, .ref yro, .ref yc, .ref ybe, .ref yco, .long rC, .long rV])), (ypa, .inl (g.2.1 1, 80, .inl qa)), (yd, .inl (g.2.1 1, 8, .inl d1))]
abbrev paX9_deal_55 (B : pz_B) (g : pz_G) (c : Int32) (h0 : Nat) (yt : Nat) (rT : Int32) (rH : Int32) (yw : Nat) (yp : Nat) (yg : Nat) (yu : Nat) (ysl : Nat) (yin : Nat) (yse : Nat) (ysp : Nat) (ypa : Nat) (rA : Int32) (yb : Nat) (ybd : Nat) (ybc : Nat) (yr : Nat) (rF : Int32) (rP : Int32) (ywd : Nat) (rS : Int32) (rN : Int32) (rO : Int32) (rW : Int32) (rL : Int32) (rD : Int32) (yd : Nat) (rI : Int32) (rX : Int32) (rY : Int32) (rZ : Int32) (rU : Int32) (yro : Nat) (yc : Nat) (ybe : Nat) (yco : Nat) (rC : Int64) (rV : Int64) (qa : Nat → Int32) (qD : Nat → Int32) (G : Nat) (K : Nat) (M : Nat) (N : Nat) (b : Nat) (ov : Int32) (i : Int32) (d1 : Nat → Int32) : Prop := pz_At B 0 0 55 [(0, .ref h0), (1, .int (nI b)), (2, .int c), (3, .int ov), (4, .int i)] [] [(h0, .inr (8, [.ref yt, .int rT, .int rH, .int (nI G), .ref yw, .int (nI K), .ref yp, .ref yg, .int (nI M), .ref yu, .int (nI N), .ref ysl, .ref yin, .ref yse, .ref ysp, .ref ypa, .int rA, .ref yb, .ref ybd, .ref ybc, .ref yr, .int rF, .int rP, .ref ywd, .int rS, .int rN, .int rO, .int rW, .int rL, .int rD, .ref yd, .int rI, .int rX, .int rY, .int rZ, .int rU, .ref yro, .ref yc, .ref ybe, .ref yco, .long rC, .long rV])), (ypa, .inl (g.2.1 1, 80, .inl qa)), (yd, .inl (g.2.1 1, 8, .inl d1))]
set_option maxHeartbeats 4000000 in
set_option maxRecDepth 100000 in
theorem sgX9_deal_0 {B : pz_B} {g : pz_G} {wc : va_W} {Post : Option Value → va_W → Prop} (F : pz_F B cX9_deal 5 none yX9_deal.cls g rmX9_deal) (Rt : pz_Rt B g wc Post rmX9_deal) (c : Int32) (h0 : Nat) (yt : Nat) (rT : Int32) (rH : Int32) (yw : Nat) (yp : Nat) (yg : Nat) (yu : Nat) (ysl : Nat) (yin : Nat) (yse : Nat) (ysp : Nat) (ypa : Nat) (rA : Int32) (yb : Nat) (ybd : Nat) (ybc : Nat) (yr : Nat) (rF : Int32) (rP : Int32) (ywd : Nat) (rS : Int32) (rN : Int32) (rO : Int32) (rW : Int32) (rL : Int32) (rD : Int32) (yd : Nat) (rI : Int32) (rX : Int32) (rY : Int32) (rZ : Int32) (rU : Int32) (yro : Nat) (yc : Nat) (ybe : Nat) (yco : Nat) (rC : Int64) (rV : Int64) (qa : Nat → Int32) (qD : Nat → Int32) (G : Nat) (K : Nat) (M : Nat) (N : Nat) (b : Nat) (T5 : Int32 → Int32 → (Nat → Int32) → Prop) (hT5 : ∀ (ov : Int32) (i : Int32) (d1 : Nat → Int32), T5 ov i d1 → paX9_deal_5 B g c h0 yt rT rH yw yp yg yu ysl yin yse ysp ypa rA yb ybd ybc yr rF rP ywd rS rN rO rW rL rD yd rI rX rY rZ rU yro yc ybe yco rC rV qa qD G K M N b ov i d1)  (vc : T5 c 0 qD) : pz_At B 0 0 0 [(0, .ref h0), (1, .int (nI b)), (2, .int c)] [] [(h0, .inr (8, [.ref yt, .int rT, .int rH, .int (nI G), .ref yw, .int (nI K), .ref yp, .ref yg, .int (nI M), .ref yu, .int (nI N), .ref ysl, .ref yin, .ref yse, .ref ysp, .ref ypa, .int rA, .ref yb, .ref ybd, .ref ybc, .ref yr, .int rF, .int rP, .ref ywd, .int rS, .int rN, .int rO, .int rW, .int rL, .int rD, .ref yd, .int rI, .int rX, .int rY, .int rZ, .int rU, .ref yro, .ref yc, .ref ybe, .ref yco, .long rC, .long rV])), (ypa, .inl (g.2.1 1, 80, .inl qa)), (yd, .inl (g.2.1 1, 8, .inl qD))] := by
  refine pz_iload_n 2 F rfl dX9_deal_0 rfl ?_
  refine pz_istore_n (lv' := [(3, .int c), (0, .ref h0), (1, .int (nI b)), (2, .int c)]) F dX9_deal_1 rfl (by decide) rfl ?_
  refine pz_iconst (v := 0) F dX9_deal_2 rfl ?_
  refine pz_istore (lv' := [(4, .int 0), (3, .int c), (0, .ref h0), (1, .int (nI b)), (2, .int c)]) F dX9_deal_3 (by decide) rfl ?_
  exact pz_sub [2, 3, 4, 1, 0] [0, 1, 2] rfl rfl rfl (hT5 c 0 qD vc)
set_option maxHeartbeats 4000000 in
set_option maxRecDepth 100000 in
theorem sgX9_deal_5 {B : pz_B} {g : pz_G} {wc : va_W} {Post : Option Value → va_W → Prop} (F : pz_F B cX9_deal 5 none yX9_deal.cls g rmX9_deal) (Rt : pz_Rt B g wc Post rmX9_deal) (c : Int32) (h0 : Nat) (yt : Nat) (rT : Int32) (rH : Int32) (yw : Nat) (yp : Nat) (yg : Nat) (yu : Nat) (ysl : Nat) (yin : Nat) (yse : Nat) (ysp : Nat) (ypa : Nat) (rA : Int32) (yb : Nat) (ybd : Nat) (ybc : Nat) (yr : Nat) (rF : Int32) (rP : Int32) (ywd : Nat) (rS : Int32) (rN : Int32) (rO : Int32) (rW : Int32) (rL : Int32) (rD : Int32) (yd : Nat) (rI : Int32) (rX : Int32) (rY : Int32) (rZ : Int32) (rU : Int32) (yro : Nat) (yc : Nat) (ybe : Nat) (yco : Nat) (rC : Int64) (rV : Int64) (qa : Nat → Int32) (qD : Nat → Int32) (G : Nat) (K : Nat) (M : Nat) (N : Nat) (b : Nat) (T5 : Int32 → Int32 → (Nat → Int32) → Prop) (hT5 : ∀ (ov : Int32) (i : Int32) (d1 : Nat → Int32), T5 ov i d1 → paX9_deal_5 B g c h0 yt rT rH yw yp yg yu ysl yin yse ysp ypa rA yb ybd ybc yr rF rP ywd rS rN rO rW rL rD yd rI rX rY rZ rU yro yc ybe yco rC rV qa qD G K M N b ov i d1) (T55 : Int32 → Int32 → (Nat → Int32) → Prop) (hT55 : ∀ (ov : Int32) (i : Int32) (d1 : Nat → Int32), T55 ov i d1 → paX9_deal_55 B g c h0 yt rT rH yw yp yg yu ysl yin yse ysp ypa rA yb ybd ybc yr rF rP ywd rS rN rO rW rL rD yd rI rX rY rZ rU yro yc ybe yco rC rV qa qD G K M N b ov i d1) (ov : Int32) (i : Int32) (d1 : Nat → Int32) (vc : (((8 : Int32) ≤ i → T55 ov 0 d1) ∧ (¬ (8 : Int32) ≤ i → vp_in ((8 * (nI b)) + i) 80 ∧ ∀ x_3 : Int32, x_3 = (((qa ((8 * (nI b)) + i).toNatClampNeg) * c) / 16) → vp_in i 8 ∧ ∀ f_5 : Nat → Int32, f_5 = upd d1 i.toNatClampNeg x_3 → vp_in i 8 ∧ ∀ x_7 : Int32, x_7 = (ov - (f_5 i.toNatClampNeg)) → ∀ x_8 : Int32, x_8 = i + 1 → T5 x_7 x_8 f_5))) : pz_At B 0 0 5 [(0, .ref h0), (1, .int (nI b)), (2, .int c), (3, .int ov), (4, .int i)] [] [(h0, .inr (8, [.ref yt, .int rT, .int rH, .int (nI G), .ref yw, .int (nI K), .ref yp, .ref yg, .int (nI M), .ref yu, .int (nI N), .ref ysl, .ref yin, .ref yse, .ref ysp, .ref ypa, .int rA, .ref yb, .ref ybd, .ref ybc, .ref yr, .int rF, .int rP, .ref ywd, .int rS, .int rN, .int rO, .int rW, .int rL, .int rD, .ref yd, .int rI, .int rX, .int rY, .int rZ, .int rU, .ref yro, .ref yc, .ref ybe, .ref yco, .long rC, .long rV])), (ypa, .inl (g.2.1 1, 80, .inl qa)), (yd, .inl (g.2.1 1, 8, .inl d1))] := by
  refine pz_iload 4 F rfl dX9_deal_5 ?_
  refine pz_bipush (v := 8) F dX9_deal_7 rfl ?_
  refine pz_icmp_ge (tgt := 52) F dX9_deal_9 (by decide) (fun q_1 => ?_) (fun q_1 => ?_)
  · replace vc := vc.1 q_1
    refine pz_iconst (v := 0) F dX9_deal_52 rfl ?_
    refine pz_istore (lv' := [(4, .int 0), (0, .ref h0), (1, .int (nI b)), (2, .int c), (3, .int ov)]) F dX9_deal_53 (by decide) rfl ?_
    exact pz_sub [1, 2, 3, 4, 0] [0, 1, 2] rfl rfl rfl (hT55 ov 0 d1 vc)
  · replace vc := vc.2 q_1
    refine pz_aload_n 0 F rfl dX9_deal_12 rfl ?_
    refine pz_get (ci := 8) (C := RX9) (T := TX9) (N := 42) (v := .ref yd) 0 F rfl rfl pz_inX9 30 (by decide) pw_838 rfl dX9_deal_13 ?_
    refine pz_iload 4 F rfl dX9_deal_16 ?_
    refine pz_aload_n 0 F rfl dX9_deal_18 rfl ?_
    refine pz_get (ci := 8) (C := RX9) (T := TX9) (N := 42) (v := .ref ypa) 0 F rfl rfl pz_inX9 15 (by decide) pw_823 rfl dX9_deal_19 ?_
    refine pz_bipush (v := 8) F dX9_deal_22 rfl ?_
    refine pz_iload_n 1 F rfl dX9_deal_24 rfl ?_
    refine pz_imul F dX9_deal_25 ?_
    refine pz_iload 4 F rfl dX9_deal_26 ?_
    refine pz_iadd F dX9_deal_28 ?_
    obtain ⟨h_2, vc⟩ := vc
    refine pz_iaload 1 F rfl h_2 dX9_deal_29 ?_
    refine pz_iload_n 2 F rfl dX9_deal_30 rfl ?_
    refine pz_imul F dX9_deal_31 ?_
    refine pz_bipush (v := 16) F dX9_deal_32 rfl ?_
    refine pz_idiv F (by decide) dX9_deal_34 ?_
    refine pz_topi (fun x_3 ex_3 => ?_)
    replace vc := vc x_3 ex_3
    obtain ⟨h_4, vc⟩ := vc
    obtain ⟨f_5, ef_5⟩ : ∃ z : Nat → Int32, z = upd d1 i.toNatClampNeg x_3 := ⟨_, rfl⟩
    replace vc := vc f_5 ef_5
    refine pz_iastore (ws' := [(h0, .inr (8, [.ref yt, .int rT, .int rH, .int (nI G), .ref yw, .int (nI K), .ref yp, .ref yg, .int (nI M), .ref yu, .int (nI N), .ref ysl, .ref yin, .ref yse, .ref ysp, .ref ypa, .int rA, .ref yb, .ref ybd, .ref ybc, .ref yr, .int rF, .int rP, .ref ywd, .int rS, .int rN, .int rO, .int rW, .int rL, .int rD, .ref yd, .int rI, .int rX, .int rY, .int rZ, .int rU, .ref yro, .ref yc, .ref ybe, .ref yco, .long rC, .long rV])), (ypa, .inl (g.2.1 1, 80, .inl qa)), (yd, .inl (g.2.1 1, 8, .inl f_5))]) F 2 rfl h_4 dX9_deal_35 (by rw [ef_5]; rfl) ?_
    refine pz_iload_n 3 F rfl dX9_deal_36 rfl ?_
    refine pz_aload_n 0 F rfl dX9_deal_37 rfl ?_
    refine pz_get (ci := 8) (C := RX9) (T := TX9) (N := 42) (v := .ref yd) 0 F rfl rfl pz_inX9 30 (by decide) pw_838 rfl dX9_deal_38 ?_
    refine pz_iload 4 F rfl dX9_deal_41 ?_
    obtain ⟨h_6, vc⟩ := vc
    refine pz_iaload 2 F rfl h_6 dX9_deal_43 ?_
    refine pz_isub F dX9_deal_44 ?_
    refine pz_topi (fun x_7 ex_7 => ?_)
    replace vc := vc x_7 ex_7
    refine pz_istore_n (lv' := [(3, .int x_7), (0, .ref h0), (1, .int (nI b)), (2, .int c), (4, .int i)]) F dX9_deal_45 rfl (by decide) rfl ?_
    obtain ⟨x_8, ex_8⟩ : ∃ z : Int32, z = i + 1 := ⟨_, rfl⟩
    replace vc := vc x_8 ex_8
    refine pz_iinc (v := x_8) (lv' := [(4, .int x_8), (3, .int x_7), (0, .ref h0), (1, .int (nI b)), (2, .int c)]) 4 F rfl dX9_deal_46 (by rw [ex_8]; rfl) (by decide) rfl ?_
    refine pz_goto (tgt := 5) F dX9_deal_49 (by decide) ?_
    exact pz_sub [2, 3, 4, 1, 0] [0, 1, 2] rfl rfl rfl (hT5 x_7 x_8 f_5 vc)
theorem lpX9_deal_5 {B : pz_B} {g : pz_G} {wc : va_W} {Post : Option Value → va_W → Prop} (F : pz_F B cX9_deal 5 none yX9_deal.cls g rmX9_deal) (Rt : pz_Rt B g wc Post rmX9_deal) (c : Int32) (h0 : Nat) (yt : Nat) (rT : Int32) (rH : Int32) (yw : Nat) (yp : Nat) (yg : Nat) (yu : Nat) (ysl : Nat) (yin : Nat) (yse : Nat) (ysp : Nat) (ypa : Nat) (rA : Int32) (yb : Nat) (ybd : Nat) (ybc : Nat) (yr : Nat) (rF : Int32) (rP : Int32) (ywd : Nat) (rS : Int32) (rN : Int32) (rO : Int32) (rW : Int32) (rL : Int32) (rD : Int32) (yd : Nat) (rI : Int32) (rX : Int32) (rY : Int32) (rZ : Int32) (rU : Int32) (yro : Nat) (yc : Nat) (ybe : Nat) (yco : Nat) (rC : Int64) (rV : Int64) (qa : Nat → Int32) (qD : Nat → Int32) (G : Nat) (K : Nat) (M : Nat) (N : Nat) (b : Nat) (T55 : Int32 → Int32 → (Nat → Int32) → Prop) (hT55 : ∀ (ov : Int32) (i : Int32) (d1 : Nat → Int32), T55 ov i d1 → paX9_deal_55 B g c h0 yt rT rH yw yp yg yu ysl yin yse ysp ypa rA yb ybd ybc yr rF rP ywd rS rN rO rW rL rD yd rI rX rY rZ rU yro yc ybe yco rC rV qa qD G K M N b ov i d1) (Inv : Nat → Int32 → Int32 → (Nat → Int32) → Prop) (step : ∀ (mz : Nat) (ov : Int32) (i : Int32) (d1 : Nat → Int32), Inv mz ov i d1 → ∀ TT : Int32 → Int32 → (Nat → Int32) → Prop, TT = (fun ov i d1 => ∃ mz', mz' < mz ∧ Inv mz' ov i d1) → (((8 : Int32) ≤ i → T55 ov 0 d1) ∧ (¬ (8 : Int32) ≤ i → vp_in ((8 * (nI b)) + i) 80 ∧ ∀ x_3 : Int32, x_3 = (((qa ((8 * (nI b)) + i).toNatClampNeg) * c) / 16) → vp_in i 8 ∧ ∀ f_5 : Nat → Int32, f_5 = upd d1 i.toNatClampNeg x_3 → vp_in i 8 ∧ ∀ x_7 : Int32, x_7 = (ov - (f_5 i.toNatClampNeg)) → ∀ x_8 : Int32, x_8 = i + 1 → TT x_7 x_8 f_5))) : ∀ (mz : Nat) (ov : Int32) (i : Int32) (d1 : Nat → Int32), Inv mz ov i d1 → paX9_deal_5 B g c h0 yt rT rH yw yp yg yu ysl yin yse ysp ypa rA yb ybd ybc yr rF rP ywd rS rN rO rW rL rD yd rI rX rY rZ rU yro yc ybe yco rC rV qa qD G K M N b ov i d1 := by
  intro mz
  induction mz using Nat.strongRecOn with
  | _ mz ih =>
    intro ov i d1 hI
    exact sgX9_deal_5 F Rt c h0 yt rT rH yw yp yg yu ysl yin yse ysp ypa rA yb ybd ybc yr rF rP ywd rS rN rO rW rL rD yd rI rX rY rZ rU yro yc ybe yco rC rV qa qD G K M N b (fun ov i d1 => ∃ mz', mz' < mz ∧ Inv mz' ov i d1) (fun ov i d1 ⟨mz', h1, h2⟩ => ih mz' h1 ov i d1 h2) T55 hT55 ov i d1 (step mz ov i d1 hI _ rfl)
set_option maxHeartbeats 4000000 in
set_option maxRecDepth 100000 in
theorem sgX9_deal_55 {B : pz_B} {g : pz_G} {wc : va_W} {Post : Option Value → va_W → Prop} (F : pz_F B cX9_deal 5 none yX9_deal.cls g rmX9_deal) (Rt : pz_Rt B g wc Post rmX9_deal) (c : Int32) (h0 : Nat) (yt : Nat) (rT : Int32) (rH : Int32) (yw : Nat) (yp : Nat) (yg : Nat) (yu : Nat) (ysl : Nat) (yin : Nat) (yse : Nat) (ysp : Nat) (ypa : Nat) (rA : Int32) (yb : Nat) (ybd : Nat) (ybc : Nat) (yr : Nat) (rF : Int32) (rP : Int32) (ywd : Nat) (rS : Int32) (rN : Int32) (rO : Int32) (rW : Int32) (rL : Int32) (rD : Int32) (yd : Nat) (rI : Int32) (rX : Int32) (rY : Int32) (rZ : Int32) (rU : Int32) (yro : Nat) (yc : Nat) (ybe : Nat) (yco : Nat) (rC : Int64) (rV : Int64) (qa : Nat → Int32) (qD : Nat → Int32) (G : Nat) (K : Nat) (M : Nat) (N : Nat) (b : Nat) (T55 : Int32 → Int32 → (Nat → Int32) → Prop) (hT55 : ∀ (ov : Int32) (i : Int32) (d1 : Nat → Int32), T55 ov i d1 → paX9_deal_55 B g c h0 yt rT rH yw yp yg yu ysl yin yse ysp ypa rA yb ybd ybc yr rF rP ywd rS rN rO rW rL rD yd rI rX rY rZ rU yro yc ybe yco rC rV qa qD G K M N b ov i d1) (ov : Int32) (i : Int32) (d1 : Nat → Int32) (vc : (((8 : Int32) ≤ i → Post none [(h0, .inr (8, [.ref yt, .int rT, .int rH, .int (nI G), .ref yw, .int (nI K), .ref yp, .ref yg, .int (nI M), .ref yu, .int (nI N), .ref ysl, .ref yin, .ref yse, .ref ysp, .ref ypa, .int rA, .ref yb, .ref ybd, .ref ybc, .ref yr, .int rF, .int rP, .ref ywd, .int rS, .int rN, .int rO, .int rW, .int rL, .int rD, .ref yd, .int rI, .int rX, .int rY, .int rZ, .int rU, .ref yro, .ref yc, .ref ybe, .ref yco, .long rC, .long rV])), (ypa, .inl (g.2.1 1, 80, .inl qa)), (yd, .inl (g.2.1 1, 8, .inl d1))]) ∧ (¬ (8 : Int32) ≤ i → ((ov ≤ 0 → Post none [(h0, .inr (8, [.ref yt, .int rT, .int rH, .int (nI G), .ref yw, .int (nI K), .ref yp, .ref yg, .int (nI M), .ref yu, .int (nI N), .ref ysl, .ref yin, .ref yse, .ref ysp, .ref ypa, .int rA, .ref yb, .ref ybd, .ref ybc, .ref yr, .int rF, .int rP, .ref ywd, .int rS, .int rN, .int rO, .int rW, .int rL, .int rD, .ref yd, .int rI, .int rX, .int rY, .int rZ, .int rU, .ref yro, .ref yc, .ref ybe, .ref yco, .long rC, .long rV])), (ypa, .inl (g.2.1 1, 80, .inl qa)), (yd, .inl (g.2.1 1, 8, .inl d1))]) ∧ (¬ ov ≤ 0 → vp_in ((8 * (nI b)) + i) 80 ∧ ((¬ (qa ((8 * (nI b)) + i).toNatClampNeg) = 0 → vp_in i 8 ∧ ∀ x_6 : Int32, x_6 = ((d1 i.toNatClampNeg) + 1) → vp_in i 8 ∧ ∀ f_8 : Nat → Int32, f_8 = upd d1 i.toNatClampNeg x_6 → ∀ x_9 : Int32, x_9 = ov + (-1) → ∀ x_10 : Int32, x_10 = i + 1 → T55 x_9 x_10 f_8) ∧ ((qa ((8 * (nI b)) + i).toNatClampNeg) = 0 → ∀ x_11 : Int32, x_11 = i + 1 → T55 ov x_11 d1))))))) : pz_At B 0 0 55 [(0, .ref h0), (1, .int (nI b)), (2, .int c), (3, .int ov), (4, .int i)] [] [(h0, .inr (8, [.ref yt, .int rT, .int rH, .int (nI G), .ref yw, .int (nI K), .ref yp, .ref yg, .int (nI M), .ref yu, .int (nI N), .ref ysl, .ref yin, .ref yse, .ref ysp, .ref ypa, .int rA, .ref yb, .ref ybd, .ref ybc, .ref yr, .int rF, .int rP, .ref ywd, .int rS, .int rN, .int rO, .int rW, .int rL, .int rD, .ref yd, .int rI, .int rX, .int rY, .int rZ, .int rU, .ref yro, .ref yc, .ref ybe, .ref yco, .long rC, .long rV])), (ypa, .inl (g.2.1 1, 80, .inl qa)), (yd, .inl (g.2.1 1, 8, .inl d1))] := by
  refine pz_iload 4 F rfl dX9_deal_55 ?_
  refine pz_bipush (v := 8) F dX9_deal_57 rfl ?_
  refine pz_icmp_ge (tgt := 104) F dX9_deal_59 (by decide) (fun q_1 => ?_) (fun q_1 => ?_)
  · replace vc := vc.1 q_1
    exact pz_return (w1 := [(h0, .inr (8, [.ref yt, .int rT, .int rH, .int (nI G), .ref yw, .int (nI K), .ref yp, .ref yg, .int (nI M), .ref yu, .int (nI N), .ref ysl, .ref yin, .ref yse, .ref ysp, .ref ypa, .int rA, .ref yb, .ref ybd, .ref ybc, .ref yr, .int rF, .int rP, .ref ywd, .int rS, .int rN, .int rO, .int rW, .int rL, .int rD, .ref yd, .int rI, .int rX, .int rY, .int rZ, .int rU, .ref yro, .ref yc, .ref ybe, .ref yco, .long rC, .long rV])), (ypa, .inl (g.2.1 1, 80, .inl qa)), (yd, .inl (g.2.1 1, 8, .inl d1))]) F Rt (by decide) (by decide) dX9_deal_104 [0, 1, 2] rfl rfl vc
  · replace vc := vc.2 q_1
    refine pz_iload_n 3 F rfl dX9_deal_62 rfl ?_
    refine pz_if_le (tgt := 104) F dX9_deal_63 (by decide) (fun q_2 => ?_) (fun q_2 => ?_)
    · replace vc := vc.1 q_2
      exact pz_return (w1 := [(h0, .inr (8, [.ref yt, .int rT, .int rH, .int (nI G), .ref yw, .int (nI K), .ref yp, .ref yg, .int (nI M), .ref yu, .int (nI N), .ref ysl, .ref yin, .ref yse, .ref ysp, .ref ypa, .int rA, .ref yb, .ref ybd, .ref ybc, .ref yr, .int rF, .int rP, .ref ywd, .int rS, .int rN, .int rO, .int rW, .int rL, .int rD, .ref yd, .int rI, .int rX, .int rY, .int rZ, .int rU, .ref yro, .ref yc, .ref ybe, .ref yco, .long rC, .long rV])), (ypa, .inl (g.2.1 1, 80, .inl qa)), (yd, .inl (g.2.1 1, 8, .inl d1))]) F Rt (by decide) (by decide) dX9_deal_104 [0, 1, 2] rfl rfl vc
    · replace vc := vc.2 q_2
      refine pz_aload_n 0 F rfl dX9_deal_66 rfl ?_
      refine pz_get (ci := 8) (C := RX9) (T := TX9) (N := 42) (v := .ref ypa) 0 F rfl rfl pz_inX9 15 (by decide) pw_823 rfl dX9_deal_67 ?_
      refine pz_bipush (v := 8) F dX9_deal_70 rfl ?_
      refine pz_iload_n 1 F rfl dX9_deal_72 rfl ?_
      refine pz_imul F dX9_deal_73 ?_
      refine pz_iload 4 F rfl dX9_deal_74 ?_
      refine pz_iadd F dX9_deal_76 ?_
      obtain ⟨h_3, vc⟩ := vc
      refine pz_iaload 1 F rfl h_3 dX9_deal_77 ?_
      refine pz_if_ne (tgt := 84) F dX9_deal_78 (by decide) (fun q_4 => ?_) (fun q_4 => ?_)
      · replace vc := vc.1 q_4
        refine pz_aload_n 0 F rfl dX9_deal_84 rfl ?_
        refine pz_get (ci := 8) (C := RX9) (T := TX9) (N := 42) (v := .ref yd) 0 F rfl rfl pz_inX9 30 (by decide) pw_838 rfl dX9_deal_85 ?_
        refine pz_iload 4 F rfl dX9_deal_88 ?_
        refine pz_dup2 F dX9_deal_90 rfl rfl ?_
        obtain ⟨h_5, vc⟩ := vc
        refine pz_iaload 2 F rfl h_5 dX9_deal_91 ?_
        refine pz_iconst (v := 1) F dX9_deal_92 rfl ?_
        refine pz_iadd F dX9_deal_93 ?_
        refine pz_topi (fun x_6 ex_6 => ?_)
        replace vc := vc x_6 ex_6
        obtain ⟨h_7, vc⟩ := vc
        obtain ⟨f_8, ef_8⟩ : ∃ z : Nat → Int32, z = upd d1 i.toNatClampNeg x_6 := ⟨_, rfl⟩
        replace vc := vc f_8 ef_8
        refine pz_iastore (ws' := [(h0, .inr (8, [.ref yt, .int rT, .int rH, .int (nI G), .ref yw, .int (nI K), .ref yp, .ref yg, .int (nI M), .ref yu, .int (nI N), .ref ysl, .ref yin, .ref yse, .ref ysp, .ref ypa, .int rA, .ref yb, .ref ybd, .ref ybc, .ref yr, .int rF, .int rP, .ref ywd, .int rS, .int rN, .int rO, .int rW, .int rL, .int rD, .ref yd, .int rI, .int rX, .int rY, .int rZ, .int rU, .ref yro, .ref yc, .ref ybe, .ref yco, .long rC, .long rV])), (ypa, .inl (g.2.1 1, 80, .inl qa)), (yd, .inl (g.2.1 1, 8, .inl f_8))]) F 2 rfl h_7 dX9_deal_94 (by rw [ef_8]; rfl) ?_
        obtain ⟨x_9, ex_9⟩ : ∃ z : Int32, z = ov + (-1) := ⟨_, rfl⟩
        replace vc := vc x_9 ex_9
        refine pz_iinc (v := x_9) (lv' := [(3, .int x_9), (0, .ref h0), (1, .int (nI b)), (2, .int c), (4, .int i)]) 3 F rfl dX9_deal_95 (by rw [ex_9]; rfl) (by decide) rfl ?_
        obtain ⟨x_10, ex_10⟩ : ∃ z : Int32, z = i + 1 := ⟨_, rfl⟩
        replace vc := vc x_10 ex_10
        refine pz_iinc (v := x_10) (lv' := [(4, .int x_10), (3, .int x_9), (0, .ref h0), (1, .int (nI b)), (2, .int c)]) 4 F rfl dX9_deal_98 (by rw [ex_10]; rfl) (by decide) rfl ?_
        refine pz_goto (tgt := 55) F dX9_deal_101 (by decide) ?_
        exact pz_sub [2, 3, 4, 1, 0] [0, 1, 2] rfl rfl rfl (hT55 x_9 x_10 f_8 vc)
      · replace vc := vc.2 q_4
        refine pz_goto (tgt := 98) F dX9_deal_81 (by decide) ?_
        obtain ⟨x_11, ex_11⟩ : ∃ z : Int32, z = i + 1 := ⟨_, rfl⟩
        replace vc := vc x_11 ex_11
        refine pz_iinc (v := x_11) (lv' := [(4, .int x_11), (0, .ref h0), (1, .int (nI b)), (2, .int c), (3, .int ov)]) 4 F rfl dX9_deal_98 (by rw [ex_11]; rfl) (by decide) rfl ?_
        refine pz_goto (tgt := 55) F dX9_deal_101 (by decide) ?_
        exact pz_sub [1, 2, 3, 4, 0] [0, 1, 2] rfl rfl rfl (hT55 ov x_11 d1 vc)
theorem lpX9_deal_55 {B : pz_B} {g : pz_G} {wc : va_W} {Post : Option Value → va_W → Prop} (F : pz_F B cX9_deal 5 none yX9_deal.cls g rmX9_deal) (Rt : pz_Rt B g wc Post rmX9_deal) (c : Int32) (h0 : Nat) (yt : Nat) (rT : Int32) (rH : Int32) (yw : Nat) (yp : Nat) (yg : Nat) (yu : Nat) (ysl : Nat) (yin : Nat) (yse : Nat) (ysp : Nat) (ypa : Nat) (rA : Int32) (yb : Nat) (ybd : Nat) (ybc : Nat) (yr : Nat) (rF : Int32) (rP : Int32) (ywd : Nat) (rS : Int32) (rN : Int32) (rO : Int32) (rW : Int32) (rL : Int32) (rD : Int32) (yd : Nat) (rI : Int32) (rX : Int32) (rY : Int32) (rZ : Int32) (rU : Int32) (yro : Nat) (yc : Nat) (ybe : Nat) (yco : Nat) (rC : Int64) (rV : Int64) (qa : Nat → Int32) (qD : Nat → Int32) (G : Nat) (K : Nat) (M : Nat) (N : Nat) (b : Nat) (Inv : Nat → Int32 → Int32 → (Nat → Int32) → Prop) (step : ∀ (mz : Nat) (ov : Int32) (i : Int32) (d1 : Nat → Int32), Inv mz ov i d1 → ∀ TT : Int32 → Int32 → (Nat → Int32) → Prop, TT = (fun ov i d1 => ∃ mz', mz' < mz ∧ Inv mz' ov i d1) → (((8 : Int32) ≤ i → Post none [(h0, .inr (8, [.ref yt, .int rT, .int rH, .int (nI G), .ref yw, .int (nI K), .ref yp, .ref yg, .int (nI M), .ref yu, .int (nI N), .ref ysl, .ref yin, .ref yse, .ref ysp, .ref ypa, .int rA, .ref yb, .ref ybd, .ref ybc, .ref yr, .int rF, .int rP, .ref ywd, .int rS, .int rN, .int rO, .int rW, .int rL, .int rD, .ref yd, .int rI, .int rX, .int rY, .int rZ, .int rU, .ref yro, .ref yc, .ref ybe, .ref yco, .long rC, .long rV])), (ypa, .inl (g.2.1 1, 80, .inl qa)), (yd, .inl (g.2.1 1, 8, .inl d1))]) ∧ (¬ (8 : Int32) ≤ i → ((ov ≤ 0 → Post none [(h0, .inr (8, [.ref yt, .int rT, .int rH, .int (nI G), .ref yw, .int (nI K), .ref yp, .ref yg, .int (nI M), .ref yu, .int (nI N), .ref ysl, .ref yin, .ref yse, .ref ysp, .ref ypa, .int rA, .ref yb, .ref ybd, .ref ybc, .ref yr, .int rF, .int rP, .ref ywd, .int rS, .int rN, .int rO, .int rW, .int rL, .int rD, .ref yd, .int rI, .int rX, .int rY, .int rZ, .int rU, .ref yro, .ref yc, .ref ybe, .ref yco, .long rC, .long rV])), (ypa, .inl (g.2.1 1, 80, .inl qa)), (yd, .inl (g.2.1 1, 8, .inl d1))]) ∧ (¬ ov ≤ 0 → vp_in ((8 * (nI b)) + i) 80 ∧ ((¬ (qa ((8 * (nI b)) + i).toNatClampNeg) = 0 → vp_in i 8 ∧ ∀ x_6 : Int32, x_6 = ((d1 i.toNatClampNeg) + 1) → vp_in i 8 ∧ ∀ f_8 : Nat → Int32, f_8 = upd d1 i.toNatClampNeg x_6 → ∀ x_9 : Int32, x_9 = ov + (-1) → ∀ x_10 : Int32, x_10 = i + 1 → TT x_9 x_10 f_8) ∧ ((qa ((8 * (nI b)) + i).toNatClampNeg) = 0 → ∀ x_11 : Int32, x_11 = i + 1 → TT ov x_11 d1))))))) : ∀ (mz : Nat) (ov : Int32) (i : Int32) (d1 : Nat → Int32), Inv mz ov i d1 → paX9_deal_55 B g c h0 yt rT rH yw yp yg yu ysl yin yse ysp ypa rA yb ybd ybc yr rF rP ywd rS rN rO rW rL rD yd rI rX rY rZ rU yro yc ybe yco rC rV qa qD G K M N b ov i d1 := by
  intro mz
  induction mz using Nat.strongRecOn with
  | _ mz ih =>
    intro ov i d1 hI
    exact sgX9_deal_55 F Rt c h0 yt rT rH yw yp yg yu ysl yin yse ysp ypa rA yb ybd ybc yr rF rP ywd rS rN rO rW rL rD yd rI rX rY rZ rU yro yc ybe yco rC rV qa qD G K M N b (fun ov i d1 => ∃ mz', mz' < mz ∧ Inv mz' ov i d1) (fun ov i d1 ⟨mz', h1, h2⟩ => ih mz' h1 ov i d1 h2) ov i d1 (step mz ov i d1 hI _ rfl)
set_option maxHeartbeats 4000000 in
set_option maxRecDepth 100000 in
theorem ctX9_deal (l : Launch) (g : pz_G) (c : Int32) (h0 : Nat) (yt : Nat) (rT : Int32) (rH : Int32) (yw : Nat) (yp : Nat) (yg : Nat) (yu : Nat) (ysl : Nat) (yin : Nat) (yse : Nat) (ysp : Nat) (ypa : Nat) (rA : Int32) (yb : Nat) (ybd : Nat) (ybc : Nat) (yr : Nat) (rF : Int32) (rP : Int32) (ywd : Nat) (rS : Int32) (rN : Int32) (rO : Int32) (rW : Int32) (rL : Int32) (rD : Int32) (yd : Nat) (rI : Int32) (rX : Int32) (rY : Int32) (rZ : Int32) (rU : Int32) (yro : Nat) (yc : Nat) (ybe : Nat) (yco : Nat) (rC : Int64) (rV : Int64) (qa : Nat → Int32) (qD : Nat → Int32) (G : Nat) (K : Nat) (M : Nat) (N : Nat) (b : Nat) (hpre : b < 10 ∧ ∀ v, v < 8 → ¬ qa (8 * b + v) < 0) : pz_Ct l g yX9_deal cX9_deal 5 none rmX9_deal [.ref h0, .int (nI b), .int c] [(h0, .inr (8, [.ref yt, .int rT, .int rH, .int (nI G), .ref yw, .int (nI K), .ref yp, .ref yg, .int (nI M), .ref yu, .int (nI N), .ref ysl, .ref yin, .ref yse, .ref ysp, .ref ypa, .int rA, .ref yb, .ref ybd, .ref ybc, .ref yr, .int rF, .int rP, .ref ywd, .int rS, .int rN, .int rO, .int rW, .int rL, .int rD, .ref yd, .int rI, .int rX, .int rY, .int rZ, .int rU, .ref yro, .ref yc, .ref ybe, .ref yco, .long rC, .long rV])), (ypa, .inl (g.2.1 1, 80, .inl qa)), (yd, .inl (g.2.1 1, 8, .inl qD))] (pz_pv (fun (u : (Nat → Int32)) => ∀ a, a < 8 → u a = dv_f (sl8 qa b) 8 c a) (fun (u : (Nat → Int32)) => [(h0, .inr (8, [.ref yt, .int rT, .int rH, .int (nI G), .ref yw, .int (nI K), .ref yp, .ref yg, .int (nI M), .ref yu, .int (nI N), .ref ysl, .ref yin, .ref yse, .ref ysp, .ref ypa, .int rA, .ref yb, .ref ybd, .ref ybc, .ref yr, .int rF, .int rP, .ref ywd, .int rS, .int rN, .int rO, .int rW, .int rL, .int rD, .ref yd, .int rI, .int rX, .int rY, .int rZ, .int rU, .ref yro, .ref yc, .ref ybe, .ref yco, .long rC, .long rV])), (ypa, .inl (g.2.1 1, 80, .inl qa)), (yd, .inl (g.2.1 1, 8, .inl u))])) := by
  refine pz_ofAt (by decide +kernel) (Nat.le_of_ble_eq_true rfl) (fun B F Rt hme => ?_)
  obtain ⟨hb, hnn⟩ := hpre
  have h55 := lpX9_deal_55 F Rt c h0 yt rT rH yw yp yg yu ysl yin yse ysp ypa rA yb ybd ybc yr rF rP ywd rS rN rO rW rL rD yd rI rX rY rZ rU yro yc ybe yco rC rV qa qD G K M N b (fun mz ov i d1 => ∃ j, j + mz = 8 ∧ i = nI j ∧ ov = dv_x (sl8 qa b) (dv_o (sl8 qa b) c 8) j ∧ ∀ a, a < 8 → d1 a = if a < j then dv_f (sl8 qa b) 8 c a else dv_q (sl8 qa b) c a) (by
    rintro m ov i d ⟨j, hj, rfl, rfl, hd⟩ TT rfl
    refine ⟨fun q => ?_, fun q => ?_⟩
    · have h1 := pu_ge (n := 8) (by omega) q
      exact ⟨d, rfl, rfl, fun a ha => by rw [hd a ha, if_pos (by omega)]⟩
    · have hjn := pu_lt (n := 8) (by omega) (by omega) q
      have hin : vp_in (nI j) 8 := vp_in_nI (by omega) (by omega)
      have hcl : (nI j).toNatClampNeg = j := nI_clamp (by omega)
      have hpj : qa (8 * b + j) = (sl8 qa b) j := rfl
      rw [pu_8, nI_clamp (by omega), hpj]
      refine ⟨fun q2 => ?_, fun q2 => ⟨vp_in_nI (by omega) (by omega), ⟨fun q3 => ?_, fun q3 => ?_⟩⟩⟩
      · refine ⟨d, rfl, rfl, fun a ha => ?_⟩
        rw [hd a ha]
        by_cases haj : a < j
        · rw [if_pos haj]
        · rw [if_neg haj]
          have hx : ∀ b', j ≤ b' → dv_x (sl8 qa b) (dv_o (sl8 qa b) c 8) b' = dv_x (sl8 qa b) (dv_o (sl8 qa b) c 8) j := by
            intro b' hb'
            induction b' with
            | zero => rw [show j = 0 by omega]
            | succ b' ih =>
              rcases Nat.lt_or_ge b' j with h | h
              · rw [show j = b' + 1 by omega]
              · rw [dv_x, ih h, if_neg (fun h => absurd h.1 (Int32.not_lt.mpr q2))]
          unfold dv_f
          rw [hx a (by omega), if_neg (fun h => absurd h.1 (Int32.not_lt.mpr q2))]
      · refine ⟨hin, ?_⟩
        rintro x rfl
        refine ⟨hin, ?_⟩
        rintro f rfl y rfl z rfl
        rw [hcl]
        have h0 : 0 < (sl8 qa b) j := by
          rcases Int32.lt_or_eq_of_le (Int32.not_lt.mp (hnn j hjn)) with h | h
          · exact h
          · exact absurd h.symm q3
        have hc : 0 < dv_x (sl8 qa b) (dv_o (sl8 qa b) c 8) j ∧ 0 < (sl8 qa b) j := ⟨Int32.not_le.mp q2, h0⟩
        refine ⟨m - 1, by omega, j + 1, by omega, nI_1 j, ?_, fun a ha => ?_⟩
        · rw [dv_x, if_pos hc]
        · by_cases hj2 : a = j
          · rw [hj2, pk_us, if_pos (by omega), hd j hjn, if_neg (by omega), dv_f, if_pos hc]
          · rw [pk_un hj2, hd a ha]
            by_cases haj : a < j
            · rw [if_pos haj, if_pos (by omega)]
            · rw [if_neg haj, if_neg (by omega)]
      · have hno : ¬ (0 : Int32) < (sl8 qa b) j := by rw [q3]; decide
        rintro x rfl
        refine ⟨m - 1, by omega, j + 1, by omega, nI_1 j, ?_, fun a ha => ?_⟩
        · rw [dv_x, if_neg (fun h => absurd h.2 hno)]
        · rw [hd a ha]
          by_cases haj : a < j
          · rw [if_pos haj, if_pos (by omega)]
          · rw [if_neg haj]
            by_cases hj2 : a = j
            · rw [if_pos (by omega), hj2, dv_f, if_neg (fun h => absurd h.2 hno)]
            · rw [if_neg (by omega)])
  have h5 := lpX9_deal_5 F Rt c h0 yt rT rH yw yp yg yu ysl yin yse ysp ypa rA yb ybd ybc yr rF rP ywd rS rN rO rW rL rD yd rI rX rY rZ rU yro yc ybe yco rC rV qa qD G K M N b (fun ov i d => ∃ j m, j + m = 8 ∧ i = nI j ∧ ov = dv_x (sl8 qa b) (dv_o (sl8 qa b) c 8) j ∧ ∀ a, a < 8 → d a = if a < j then dv_f (sl8 qa b) 8 c a else dv_q (sl8 qa b) c a) (fun ov i d ⟨j, m, h⟩ => h55 m ov i d ⟨j, h⟩) (fun m ov i d => ∃ j, j + m = 8 ∧ i = nI j ∧ ov = dv_o (sl8 qa b) c j ∧ ∀ a, a < j → d a = dv_q (sl8 qa b) c a) (by
    rintro m ov i d ⟨j, hj, rfl, rfl, hd⟩ TT rfl
    refine ⟨fun q => ?_, fun q => ?_⟩
    · have h1 := pu_ge (n := 8) (by omega) q
      have hj8 : j = 8 := by omega
      exact ⟨0, 8, by omega, nI_0.symm, by rw [hj8]; rfl, fun a ha => by rw [if_neg (by omega)]; exact hd a (by omega)⟩
    · have hjn := pu_lt (n := 8) (by omega) (by omega) q
      have hin : vp_in (nI j) 8 := vp_in_nI (by omega) (by omega)
      have hcl : (nI j).toNatClampNeg = j := nI_clamp (by omega)
      have hpj : qa (8 * b + j) = (sl8 qa b) j := rfl
      rw [pu_8]
      refine ⟨vp_in_nI (by omega) (by omega), ?_⟩
      rw [nI_clamp (by omega), hpj]
      rintro x rfl
      refine ⟨hin, ?_⟩
      rintro f rfl
      refine ⟨hin, ?_⟩
      rintro y rfl z rfl
      rw [hcl]
      refine ⟨m - 1, by omega, j + 1, by omega, nI_1 j, by rw [pk_us]; rfl, fun a ha => ?_⟩
      by_cases hj2 : a = j
      · rw [hj2, pk_us]; rfl
      · rw [pk_un hj2]; exact hd a (by omega))
  exact sgX9_deal_0 F Rt c h0 yt rT rH yw yp yg yu ysl yin yse ysp ypa rA yb ybd ybc yr rF rP ywd rS rN rO rW rL rD yd rI rX rY rZ rU yro yc ybe yco rC rV qa qD G K M N b _ (fun ov i d => h5 8 ov i d) ⟨0, by omega, nI_0.symm, rfl, fun a ha => absurd ha (by omega)⟩
abbrev rmX9_pay : Room := { frames := 1, cells := 0, slots := 0, locals := 24 }
abbrev paX9_pay_8 (B : pz_B) (g : pz_G) (c : Int32) (h0 : Nat) (yt : Nat) (rT : Int32) (rH : Int32) (yw : Nat) (yp : Nat) (yg : Nat) (yu : Nat) (ysl : Nat) (yin : Nat) (yse : Nat) (ysp : Nat) (ypa : Nat) (rA : Int32) (yb : Nat) (ybd : Nat) (ybc : Nat) (yr : Nat) (rF : Int32) (rP : Int32) (ywd : Nat) (rS : Int32) (rN : Int32) (rO : Int32) (rW : Int32) (rL : Int32) (rD : Int32) (yd : Nat) (rI : Int32) (rX : Int32) (rY : Int32) (rZ : Int32) (rU : Int32) (yro : Nat) (yc : Nat) (ybe : Nat) (yco : Nat) (rC : Int64) (rV : Int64) (qa : Nat → Int32) (qD : Nat → Int32) (qu : Nat → Int32) (G : Nat) (K : Nat) (M : Nat) (N : Nat) (b : Nat) (i : Int32) (d1 : Nat → Int32) (p1 : Nat → Int32) : Prop := pz_At B 0 0 8 [(0, .ref h0), (1, .int (nI b)), (2, .int c), (3, .int i)] [] [(h0, .inr (8, [.ref yt, .int rT, .int rH, .int (nI G), .ref yw, .int (nI K), .ref yp, .ref yg, .int (nI M), .ref yu, .int (nI N), .ref ysl, .ref yin, .ref yse, .ref ysp, .ref ypa, .int rA, .ref yb, .ref ybd, .ref ybc, .ref yr, .int rF, .int rP, .ref ywd, .int rS, .int rN, .int rO, .int rW, .int rL, .int rD, .ref yd, .int rI, .int rX, .int rY, .int rZ, .int rU, .ref yro, .ref yc, .ref ybe, .ref yco, .long rC, .long rV])), (ypa, .inl (g.2.1 1, 80, .inl qa)), (yd, .inl (g.2.1 1, 8, .inl d1)), (yu, .inl (g.2.1 1, 8, .inl p1))]
set_option maxHeartbeats 4000000 in
set_option maxRecDepth 100000 in
theorem sgX9_pay_0 {B : pz_B} {g : pz_G} {wc : va_W} {Post : Option Value → va_W → Prop} (F : pz_F B cX9_pay 4 none yX9_pay.cls g rmX9_pay) (Rt : pz_Rt B g wc Post rmX9_pay) (c : Int32) (h0 : Nat) (yt : Nat) (rT : Int32) (rH : Int32) (yw : Nat) (yp : Nat) (yg : Nat) (yu : Nat) (ysl : Nat) (yin : Nat) (yse : Nat) (ysp : Nat) (ypa : Nat) (rA : Int32) (yb : Nat) (ybd : Nat) (ybc : Nat) (yr : Nat) (rF : Int32) (rP : Int32) (ywd : Nat) (rS : Int32) (rN : Int32) (rO : Int32) (rW : Int32) (rL : Int32) (rD : Int32) (yd : Nat) (rI : Int32) (rX : Int32) (rY : Int32) (rZ : Int32) (rU : Int32) (yro : Nat) (yc : Nat) (ybe : Nat) (yco : Nat) (rC : Int64) (rV : Int64) (qa : Nat → Int32) (qD : Nat → Int32) (qu : Nat → Int32) (G : Nat) (K : Nat) (M : Nat) (N : Nat) (b : Nat) (T8 : Int32 → (Nat → Int32) → (Nat → Int32) → Prop) (hT8 : ∀ (i : Int32) (d1 : Nat → Int32) (p1 : Nat → Int32), T8 i d1 p1 → paX9_pay_8 B g c h0 yt rT rH yw yp yg yu ysl yin yse ysp ypa rA yb ybd ybc yr rF rP ywd rS rN rO rW rL rD yd rI rX rY rZ rU yro yc ybe yco rC rV qa qD qu G K M N b i d1 p1)  (vc : (b < 10 ∧ ∀ v, v < 8 → ¬ qa (8 * b + v) < 0) ∧ ∀ d2_2 : Nat → Int32, ∀ _ : (∀ a, a < 8 → d2_2 a = dv_f (sl8 qa b) 8 c a), T8 0 d2_2 qu) : pz_At B 0 0 0 [(0, .ref h0), (1, .int (nI b)), (2, .int c)] [] [(h0, .inr (8, [.ref yt, .int rT, .int rH, .int (nI G), .ref yw, .int (nI K), .ref yp, .ref yg, .int (nI M), .ref yu, .int (nI N), .ref ysl, .ref yin, .ref yse, .ref ysp, .ref ypa, .int rA, .ref yb, .ref ybd, .ref ybc, .ref yr, .int rF, .int rP, .ref ywd, .int rS, .int rN, .int rO, .int rW, .int rL, .int rD, .ref yd, .int rI, .int rX, .int rY, .int rZ, .int rU, .ref yro, .ref yc, .ref ybe, .ref yco, .long rC, .long rV])), (ypa, .inl (g.2.1 1, 80, .inl qa)), (yd, .inl (g.2.1 1, 8, .inl qD)), (yu, .inl (g.2.1 1, 8, .inl qu))] := by
  refine pz_aload_n 0 F rfl dX9_pay_0 rfl ?_
  refine pz_iload_n 1 F rfl dX9_pay_1 rfl ?_
  refine pz_iload_n 2 F rfl dX9_pay_2 rfl ?_
  obtain ⟨h_1, vc⟩ := vc
  refine pz_callV (nA := 2) (ci := 8) (C := RX9) (T := TX9) (N := 42) (As := [.int (nI b), .int c]) (rest := []) (wr := [(yu, .inl (g.2.1 1, 8, .inl qu))]) F (ctX9_deal _ g c h0 yt rT rH yw yp yg yu ysl yin yse ysp ypa rA yb ybd ybc yr rF rP ywd rS rN rO rW rL rD yd rI rX rY rZ rU yro yc ybe yco rC rV qa qD G K M N b h_1) 0 rfl rfl pw_1048 pw_1050 pv_42 pw_8 pw_1051 (by decide +kernel) (by decide) (by decide) rfl rfl (Nat.le_of_ble_eq_true rfl) [0, 1, 2] [3] rfl rfl rfl rfl (by decide) dX9_pay_3 (fun r0 w0 hp0 => ?_)
  obtain ⟨d2_2, rfl, rfl, hq_3⟩ := hp0
  replace vc := vc d2_2 hq_3
  refine pz_eq (st' := []) (ws' := [(yu, .inl (g.2.1 1, 8, .inl qu)), (h0, .inr (8, [.ref yt, .int rT, .int rH, .int (nI G), .ref yw, .int (nI K), .ref yp, .ref yg, .int (nI M), .ref yu, .int (nI N), .ref ysl, .ref yin, .ref yse, .ref ysp, .ref ypa, .int rA, .ref yb, .ref ybd, .ref ybc, .ref yr, .int rF, .int rP, .ref ywd, .int rS, .int rN, .int rO, .int rW, .int rL, .int rD, .ref yd, .int rI, .int rX, .int rY, .int rZ, .int rU, .ref yro, .ref yc, .ref ybe, .ref yco, .long rC, .long rV])), (ypa, .inl (g.2.1 1, 80, .inl qa)), (yd, .inl (g.2.1 1, 8, .inl d2_2))]) rfl rfl ?_
  refine pz_iconst (v := 0) F dX9_pay_6 rfl ?_
  refine pz_istore_n (lv' := [(3, .int 0), (0, .ref h0), (1, .int (nI b)), (2, .int c)]) F dX9_pay_7 rfl (by decide) rfl ?_
  exact pz_sub [1, 2, 3, 0] [1, 2, 3, 0] rfl rfl rfl (hT8 0 d2_2 qu vc)
set_option maxHeartbeats 4000000 in
set_option maxRecDepth 100000 in
theorem sgX9_pay_8 {B : pz_B} {g : pz_G} {wc : va_W} {Post : Option Value → va_W → Prop} (F : pz_F B cX9_pay 4 none yX9_pay.cls g rmX9_pay) (Rt : pz_Rt B g wc Post rmX9_pay) (c : Int32) (h0 : Nat) (yt : Nat) (rT : Int32) (rH : Int32) (yw : Nat) (yp : Nat) (yg : Nat) (yu : Nat) (ysl : Nat) (yin : Nat) (yse : Nat) (ysp : Nat) (ypa : Nat) (rA : Int32) (yb : Nat) (ybd : Nat) (ybc : Nat) (yr : Nat) (rF : Int32) (rP : Int32) (ywd : Nat) (rS : Int32) (rN : Int32) (rO : Int32) (rW : Int32) (rL : Int32) (rD : Int32) (yd : Nat) (rI : Int32) (rX : Int32) (rY : Int32) (rZ : Int32) (rU : Int32) (yro : Nat) (yc : Nat) (ybe : Nat) (yco : Nat) (rC : Int64) (rV : Int64) (qa : Nat → Int32) (qD : Nat → Int32) (qu : Nat → Int32) (G : Nat) (K : Nat) (M : Nat) (N : Nat) (b : Nat) (T8 : Int32 → (Nat → Int32) → (Nat → Int32) → Prop) (hT8 : ∀ (i : Int32) (d1 : Nat → Int32) (p1 : Nat → Int32), T8 i d1 p1 → paX9_pay_8 B g c h0 yt rT rH yw yp yg yu ysl yin yse ysp ypa rA yb ybd ybc yr rF rP ywd rS rN rO rW rL rD yd rI rX rY rZ rU yro yc ybe yco rC rV qa qD qu G K M N b i d1 p1) (i : Int32) (d1 : Nat → Int32) (p1 : Nat → Int32) (vc : (((nI M) ≤ i → Post none [(h0, .inr (8, [.ref yt, .int rT, .int rH, .int (nI G), .ref yw, .int (nI K), .ref yp, .ref yg, .int (nI M), .ref yu, .int (nI N), .ref ysl, .ref yin, .ref yse, .ref ysp, .ref ypa, .int rA, .ref yb, .ref ybd, .ref ybc, .ref yr, .int rF, .int rP, .ref ywd, .int rS, .int rN, .int rO, .int rW, .int rL, .int rD, .ref yd, .int rI, .int rX, .int rY, .int rZ, .int rU, .ref yro, .ref yc, .ref ybe, .ref yco, .long rC, .long rV])), (ypa, .inl (g.2.1 1, 80, .inl qa)), (yd, .inl (g.2.1 1, 8, .inl d1)), (yu, .inl (g.2.1 1, 8, .inl p1))]) ∧ (¬ (nI M) ≤ i → vp_in i 8 ∧ vp_in i 8 ∧ ∀ x_4 : Int32, x_4 = ((p1 i.toNatClampNeg) + (d1 i.toNatClampNeg)) → vp_in i 8 ∧ ∀ f_6 : Nat → Int32, f_6 = upd p1 i.toNatClampNeg x_4 → ∀ x_7 : Int32, x_7 = i + 1 → T8 x_7 d1 f_6))) : pz_At B 0 0 8 [(0, .ref h0), (1, .int (nI b)), (2, .int c), (3, .int i)] [] [(h0, .inr (8, [.ref yt, .int rT, .int rH, .int (nI G), .ref yw, .int (nI K), .ref yp, .ref yg, .int (nI M), .ref yu, .int (nI N), .ref ysl, .ref yin, .ref yse, .ref ysp, .ref ypa, .int rA, .ref yb, .ref ybd, .ref ybc, .ref yr, .int rF, .int rP, .ref ywd, .int rS, .int rN, .int rO, .int rW, .int rL, .int rD, .ref yd, .int rI, .int rX, .int rY, .int rZ, .int rU, .ref yro, .ref yc, .ref ybe, .ref yco, .long rC, .long rV])), (ypa, .inl (g.2.1 1, 80, .inl qa)), (yd, .inl (g.2.1 1, 8, .inl d1)), (yu, .inl (g.2.1 1, 8, .inl p1))] := by
  refine pz_iload_n 3 F rfl dX9_pay_8 rfl ?_
  refine pz_aload_n 0 F rfl dX9_pay_9 rfl ?_
  refine pz_get (ci := 8) (C := RX9) (T := TX9) (N := 42) (v := .int (nI M)) 0 F rfl rfl pz_inX9 8 (by decide) pw_816 rfl dX9_pay_10 ?_
  refine pz_icmp_ge (tgt := 37) F dX9_pay_13 (by decide) (fun q_1 => ?_) (fun q_1 => ?_)
  · replace vc := vc.1 q_1
    exact pz_return (w1 := [(h0, .inr (8, [.ref yt, .int rT, .int rH, .int (nI G), .ref yw, .int (nI K), .ref yp, .ref yg, .int (nI M), .ref yu, .int (nI N), .ref ysl, .ref yin, .ref yse, .ref ysp, .ref ypa, .int rA, .ref yb, .ref ybd, .ref ybc, .ref yr, .int rF, .int rP, .ref ywd, .int rS, .int rN, .int rO, .int rW, .int rL, .int rD, .ref yd, .int rI, .int rX, .int rY, .int rZ, .int rU, .ref yro, .ref yc, .ref ybe, .ref yco, .long rC, .long rV])), (ypa, .inl (g.2.1 1, 80, .inl qa)), (yd, .inl (g.2.1 1, 8, .inl d1)), (yu, .inl (g.2.1 1, 8, .inl p1))]) F Rt (by decide) (by decide) dX9_pay_37 [0, 1, 2, 3] rfl rfl vc
  · replace vc := vc.2 q_1
    refine pz_aload_n 0 F rfl dX9_pay_16 rfl ?_
    refine pz_get (ci := 8) (C := RX9) (T := TX9) (N := 42) (v := .ref yu) 0 F rfl rfl pz_inX9 9 (by decide) pw_817 rfl dX9_pay_17 ?_
    refine pz_iload_n 3 F rfl dX9_pay_20 rfl ?_
    refine pz_dup2 F dX9_pay_21 rfl rfl ?_
    obtain ⟨h_2, vc⟩ := vc
    refine pz_iaload 3 F rfl h_2 dX9_pay_22 ?_
    refine pz_aload_n 0 F rfl dX9_pay_23 rfl ?_
    refine pz_get (ci := 8) (C := RX9) (T := TX9) (N := 42) (v := .ref yd) 0 F rfl rfl pz_inX9 30 (by decide) pw_838 rfl dX9_pay_24 ?_
    refine pz_iload_n 3 F rfl dX9_pay_27 rfl ?_
    obtain ⟨h_3, vc⟩ := vc
    refine pz_iaload 2 F rfl h_3 dX9_pay_28 ?_
    refine pz_iadd F dX9_pay_29 ?_
    refine pz_topi (fun x_4 ex_4 => ?_)
    replace vc := vc x_4 ex_4
    obtain ⟨h_5, vc⟩ := vc
    obtain ⟨f_6, ef_6⟩ : ∃ z : Nat → Int32, z = upd p1 i.toNatClampNeg x_4 := ⟨_, rfl⟩
    replace vc := vc f_6 ef_6
    refine pz_iastore (ws' := [(h0, .inr (8, [.ref yt, .int rT, .int rH, .int (nI G), .ref yw, .int (nI K), .ref yp, .ref yg, .int (nI M), .ref yu, .int (nI N), .ref ysl, .ref yin, .ref yse, .ref ysp, .ref ypa, .int rA, .ref yb, .ref ybd, .ref ybc, .ref yr, .int rF, .int rP, .ref ywd, .int rS, .int rN, .int rO, .int rW, .int rL, .int rD, .ref yd, .int rI, .int rX, .int rY, .int rZ, .int rU, .ref yro, .ref yc, .ref ybe, .ref yco, .long rC, .long rV])), (ypa, .inl (g.2.1 1, 80, .inl qa)), (yd, .inl (g.2.1 1, 8, .inl d1)), (yu, .inl (g.2.1 1, 8, .inl f_6))]) F 3 rfl h_5 dX9_pay_30 (by rw [ef_6]; rfl) ?_
    obtain ⟨x_7, ex_7⟩ : ∃ z : Int32, z = i + 1 := ⟨_, rfl⟩
    replace vc := vc x_7 ex_7
    refine pz_iinc (v := x_7) (lv' := [(3, .int x_7), (0, .ref h0), (1, .int (nI b)), (2, .int c)]) 3 F rfl dX9_pay_31 (by rw [ex_7]; rfl) (by decide) rfl ?_
    refine pz_goto (tgt := 8) F dX9_pay_34 (by decide) ?_
    exact pz_sub [1, 2, 3, 0] [0, 1, 2, 3] rfl rfl rfl (hT8 x_7 d1 f_6 vc)
theorem lpX9_pay_8 {B : pz_B} {g : pz_G} {wc : va_W} {Post : Option Value → va_W → Prop} (F : pz_F B cX9_pay 4 none yX9_pay.cls g rmX9_pay) (Rt : pz_Rt B g wc Post rmX9_pay) (c : Int32) (h0 : Nat) (yt : Nat) (rT : Int32) (rH : Int32) (yw : Nat) (yp : Nat) (yg : Nat) (yu : Nat) (ysl : Nat) (yin : Nat) (yse : Nat) (ysp : Nat) (ypa : Nat) (rA : Int32) (yb : Nat) (ybd : Nat) (ybc : Nat) (yr : Nat) (rF : Int32) (rP : Int32) (ywd : Nat) (rS : Int32) (rN : Int32) (rO : Int32) (rW : Int32) (rL : Int32) (rD : Int32) (yd : Nat) (rI : Int32) (rX : Int32) (rY : Int32) (rZ : Int32) (rU : Int32) (yro : Nat) (yc : Nat) (ybe : Nat) (yco : Nat) (rC : Int64) (rV : Int64) (qa : Nat → Int32) (qD : Nat → Int32) (qu : Nat → Int32) (G : Nat) (K : Nat) (M : Nat) (N : Nat) (b : Nat) (Inv : Nat → Int32 → (Nat → Int32) → (Nat → Int32) → Prop) (step : ∀ (mz : Nat) (i : Int32) (d1 : Nat → Int32) (p1 : Nat → Int32), Inv mz i d1 p1 → ∀ TT : Int32 → (Nat → Int32) → (Nat → Int32) → Prop, TT = (fun i d1 p1 => ∃ mz', mz' < mz ∧ Inv mz' i d1 p1) → (((nI M) ≤ i → Post none [(h0, .inr (8, [.ref yt, .int rT, .int rH, .int (nI G), .ref yw, .int (nI K), .ref yp, .ref yg, .int (nI M), .ref yu, .int (nI N), .ref ysl, .ref yin, .ref yse, .ref ysp, .ref ypa, .int rA, .ref yb, .ref ybd, .ref ybc, .ref yr, .int rF, .int rP, .ref ywd, .int rS, .int rN, .int rO, .int rW, .int rL, .int rD, .ref yd, .int rI, .int rX, .int rY, .int rZ, .int rU, .ref yro, .ref yc, .ref ybe, .ref yco, .long rC, .long rV])), (ypa, .inl (g.2.1 1, 80, .inl qa)), (yd, .inl (g.2.1 1, 8, .inl d1)), (yu, .inl (g.2.1 1, 8, .inl p1))]) ∧ (¬ (nI M) ≤ i → vp_in i 8 ∧ vp_in i 8 ∧ ∀ x_4 : Int32, x_4 = ((p1 i.toNatClampNeg) + (d1 i.toNatClampNeg)) → vp_in i 8 ∧ ∀ f_6 : Nat → Int32, f_6 = upd p1 i.toNatClampNeg x_4 → ∀ x_7 : Int32, x_7 = i + 1 → TT x_7 d1 f_6))) : ∀ (mz : Nat) (i : Int32) (d1 : Nat → Int32) (p1 : Nat → Int32), Inv mz i d1 p1 → paX9_pay_8 B g c h0 yt rT rH yw yp yg yu ysl yin yse ysp ypa rA yb ybd ybc yr rF rP ywd rS rN rO rW rL rD yd rI rX rY rZ rU yro yc ybe yco rC rV qa qD qu G K M N b i d1 p1 := by
  intro mz
  induction mz using Nat.strongRecOn with
  | _ mz ih =>
    intro i d1 p1 hI
    exact sgX9_pay_8 F Rt c h0 yt rT rH yw yp yg yu ysl yin yse ysp ypa rA yb ybd ybc yr rF rP ywd rS rN rO rW rL rD yd rI rX rY rZ rU yro yc ybe yco rC rV qa qD qu G K M N b (fun i d1 p1 => ∃ mz', mz' < mz ∧ Inv mz' i d1 p1) (fun i d1 p1 ⟨mz', h1, h2⟩ => ih mz' h1 i d1 p1 h2) i d1 p1 (step mz i d1 p1 hI _ rfl)
set_option maxHeartbeats 4000000 in
set_option maxRecDepth 100000 in
theorem ctX9_pay (l : Launch) (g : pz_G) (c : Int32) (h0 : Nat) (yt : Nat) (rT : Int32) (rH : Int32) (yw : Nat) (yp : Nat) (yg : Nat) (yu : Nat) (ysl : Nat) (yin : Nat) (yse : Nat) (ysp : Nat) (ypa : Nat) (rA : Int32) (yb : Nat) (ybd : Nat) (ybc : Nat) (yr : Nat) (rF : Int32) (rP : Int32) (ywd : Nat) (rS : Int32) (rN : Int32) (rO : Int32) (rW : Int32) (rL : Int32) (rD : Int32) (yd : Nat) (rI : Int32) (rX : Int32) (rY : Int32) (rZ : Int32) (rU : Int32) (yro : Nat) (yc : Nat) (ybe : Nat) (yco : Nat) (rC : Int64) (rV : Int64) (qa : Nat → Int32) (qD : Nat → Int32) (qu : Nat → Int32) (G : Nat) (K : Nat) (M : Nat) (N : Nat) (b : Nat) (hpre : b < 10 ∧ M ≤ 8 ∧ ∀ v, v < 8 → ¬ qa (8 * b + v) < 0) : pz_Ct l g yX9_pay cX9_pay 4 none rmX9_pay [.ref h0, .int (nI b), .int c] [(h0, .inr (8, [.ref yt, .int rT, .int rH, .int (nI G), .ref yw, .int (nI K), .ref yp, .ref yg, .int (nI M), .ref yu, .int (nI N), .ref ysl, .ref yin, .ref yse, .ref ysp, .ref ypa, .int rA, .ref yb, .ref ybd, .ref ybc, .ref yr, .int rF, .int rP, .ref ywd, .int rS, .int rN, .int rO, .int rW, .int rL, .int rD, .ref yd, .int rI, .int rX, .int rY, .int rZ, .int rU, .ref yro, .ref yc, .ref ybe, .ref yco, .long rC, .long rV])), (ypa, .inl (g.2.1 1, 80, .inl qa)), (yd, .inl (g.2.1 1, 8, .inl qD)), (yu, .inl (g.2.1 1, 8, .inl qu))] (pz_pv (fun (u : (Nat → Int32) × (Nat → Int32)) => ∀ a, a < 8 → u.2 a = if a < M then qu a + dv_f (sl8 qa b) 8 c a else qu a) (fun (u : (Nat → Int32) × (Nat → Int32)) => [(h0, .inr (8, [.ref yt, .int rT, .int rH, .int (nI G), .ref yw, .int (nI K), .ref yp, .ref yg, .int (nI M), .ref yu, .int (nI N), .ref ysl, .ref yin, .ref yse, .ref ysp, .ref ypa, .int rA, .ref yb, .ref ybd, .ref ybc, .ref yr, .int rF, .int rP, .ref ywd, .int rS, .int rN, .int rO, .int rW, .int rL, .int rD, .ref yd, .int rI, .int rX, .int rY, .int rZ, .int rU, .ref yro, .ref yc, .ref ybe, .ref yco, .long rC, .long rV])), (ypa, .inl (g.2.1 1, 80, .inl qa)), (yd, .inl (g.2.1 1, 8, .inl u.1)), (yu, .inl (g.2.1 1, 8, .inl u.2))])) := by
  refine pz_ofAt (by decide +kernel) (Nat.le_of_ble_eq_true rfl) (fun B F Rt hme => ?_)
  obtain ⟨hb, hM, hnn⟩ := hpre
  refine sgX9_pay_0 F Rt c h0 yt rT rH yw yp yg yu ysl yin yse ysp ypa rA yb ybd ybc yr rF rP ywd rS rN rO rW rL rD yd rI rX rY rZ rU yro yc ybe yco rC rV qa qD qu G K M N b _ (fun i d1 p1 h => lpX9_pay_8 F Rt c h0 yt rT rH yw yp yg yu ysl yin yse ysp ypa rA yb ybd ybc yr rF rP ywd rS rN rO rW rL rD yd rI rX rY rZ rU yro yc ybe yco rC rV qa qD qu G K M N b (fun m i d1 p1 => ∃ j, j + m = M ∧ i = nI j ∧ (∀ a, a < 8 → d1 a = dv_f (sl8 qa b) 8 c a) ∧ (∀ a, a < 8 → p1 a = if a < j then qu a + dv_f (sl8 qa b) 8 c a else qu a)) ?_ M i d1 p1 h) ⟨⟨hb, hnn⟩, fun d2 h => ⟨0, by omega, nI_0.symm, h, fun a ha => by rw [if_neg (by omega)]⟩⟩
  rintro m i d1 p1 ⟨j, hj, rfl, hd, hp1⟩ TT rfl
  refine ⟨fun q => ?_, fun q => ?_⟩
  · have h1 := pu_ge (by omega) q
    have ej : j = M := by omega
    exact ⟨(_, _), rfl, rfl, fun a ha => by rw [← ej]; exact hp1 a ha⟩
  · have h1 := pu_lt (by omega) (by omega) q
    have hin : vp_in (nI j) 8 := vp_in_nI (by omega) (by omega)
    refine ⟨hin, hin, ?_⟩
    rintro x rfl
    refine ⟨hin, ?_⟩
    rintro f rfl y rfl
    rw [nI_clamp (by omega)]
    refine ⟨m - 1, by omega, j + 1, by omega, nI_1 j, hd, fun a ha => ?_⟩
    by_cases hj2 : a = j
    · rw [hj2, pk_us, if_pos (by omega), hp1 j (by omega), if_neg (by omega), hd j (by omega)]
    · rw [pk_un hj2, hp1 a ha]
      by_cases h2 : a < j
      · rw [if_pos h2, if_pos (by omega)]
      · rw [if_neg h2, if_neg (by omega)]
abbrev rmX9_cut_R : Room := { frames := 2, cells := 0, slots := 0, locals := 42 }
set_option maxHeartbeats 4000000 in
set_option maxRecDepth 100000 in
theorem sgX9_cut_R_0 {B : pz_B} {g : pz_G} {wc : va_W} {Post : Option Value → va_W → Prop} (F : pz_F B cX9_cut 3 (some .int) yX9_cut.cls g rmX9_cut_R) (Rt : pz_Rt B g wc Post rmX9_cut_R) (x : Int32) (h0 : Nat) (yt : Nat) (rT : Int32) (rH : Int32) (yw : Nat) (yp : Nat) (yg : Nat) (yu : Nat) (ysl : Nat) (yin : Nat) (yse : Nat) (ysp : Nat) (ypa : Nat) (rA : Int32) (yb : Nat) (ybd : Nat) (ybc : Nat) (yr : Nat) (rF : Int32) (rP : Int32) (ywd : Nat) (rS : Int32) (rN : Int32) (rO : Int32) (rW : Int32) (rL : Int32) (rD : Int32) (yd : Nat) (rI : Int32) (rX : Int32) (rY : Int32) (rZ : Int32) (rU : Int32) (yro : Nat) (yc : Nat) (ybe : Nat) (yco : Nat) (rC : Int64) (rV : Int64) (qk : Nat → Int32) (G : Nat) (K : Nat) (M : Nat) (N : Nat)  (vc : (N ≤ 10) ∧ ∀ r_2 : Int32, ∀ _ : ((wh_ok x N qk ∧ r_2 = 1) ∨ (¬ wh_ok x N qk ∧ r_2 = 0)), ((¬ r_2 = 0 → False) ∧ (r_2 = 0 → Post (some (.int (-1))) [(h0, .inr (8, [.ref yt, .int rT, .int 0, .int (nI G), .ref yw, .int (nI K), .ref yp, .ref yg, .int (nI M), .ref yu, .int (nI N), .ref ysl, .ref yin, .ref yse, .ref ysp, .ref ypa, .int rA, .ref yb, .ref ybd, .ref ybc, .ref yr, .int rF, .int rP, .ref ywd, .int rS, .int rN, .int rO, .int rW, .int rL, .int rD, .ref yd, .int rI, .int rX, .int rY, .int rZ, .int rU, .ref yro, .ref yc, .ref ybe, .ref yco, .long rC, .long rV])), (ysp, .inl (g.2.1 3, 10, .inl qk))]))) : pz_At B 0 0 0 [(0, .ref h0), (1, .int x)] [] [(h0, .inr (8, [.ref yt, .int rT, .int rH, .int (nI G), .ref yw, .int (nI K), .ref yp, .ref yg, .int (nI M), .ref yu, .int (nI N), .ref ysl, .ref yin, .ref yse, .ref ysp, .ref ypa, .int rA, .ref yb, .ref ybd, .ref ybc, .ref yr, .int rF, .int rP, .ref ywd, .int rS, .int rN, .int rO, .int rW, .int rL, .int rD, .ref yd, .int rI, .int rX, .int rY, .int rZ, .int rU, .ref yro, .ref yc, .ref ybe, .ref yco, .long rC, .long rV])), (ysp, .inl (g.2.1 3, 10, .inl qk))] := by
  refine pz_aload_n 0 F rfl dX9_cut_0 rfl ?_
  refine pz_iconst (v := 0) F dX9_cut_1 rfl ?_
  refine pz_put (ws' := [(h0, .inr (8, [.ref yt, .int rT, .int 0, .int (nI G), .ref yw, .int (nI K), .ref yp, .ref yg, .int (nI M), .ref yu, .int (nI N), .ref ysl, .ref yin, .ref yse, .ref ysp, .ref ypa, .int rA, .ref yb, .ref ybd, .ref ybc, .ref yr, .int rF, .int rP, .ref ywd, .int rS, .int rN, .int rO, .int rW, .int rL, .int rD, .ref yd, .int rI, .int rX, .int rY, .int rZ, .int rU, .ref yro, .ref yc, .ref ybe, .ref yco, .long rC, .long rV])), (ysp, .inl (g.2.1 3, 10, .inl qk))]) (ci := 8) (C := RX9) (T := TX9) (N := 42) (v := .int 0) (ty := .int) 0 F rfl rfl pz_inX9 2 (by decide) pw_810 tyX9_ok nmX9 rfl rfl rfl rfl (Nat.le_of_ble_eq_true rfl) dX9_cut_2 rfl ?_
  refine pz_aload_n 0 F rfl dX9_cut_5 rfl ?_
  refine pz_iload_n 1 F rfl dX9_cut_6 rfl ?_
  obtain ⟨h_1, vc⟩ := vc
  refine pz_callV (nA := 1) (ci := 8) (C := RX9) (T := TX9) (N := 42) (As := [.int x]) (rest := []) (wr := []) F (ctX9_isWhole _ g x h0 yt rT 0 yw yp yg yu ysl yin yse ysp ypa rA yb ybd ybc yr rF rP ywd rS rN rO rW rL rD yd rI rX rY rZ rU yro yc ybe yco rC rV qk G K M N h_1) 0 rfl rfl pw_1012 pw_1014 pv_36 pw_8 pw_1015 (by decide +kernel) (by decide) (by decide) rfl rfl (Nat.le_of_ble_eq_true rfl) [0, 1] [] rfl rfl rfl rfl (by decide) dX9_cut_7 (fun r0 w0 hp0 => ?_)
  obtain ⟨r_2, _, rfl, rfl, hq_3⟩ := hp0
  replace vc := vc r_2  hq_3
  refine pz_eq (st' := [.int r_2]) (ws' := [(h0, .inr (8, [.ref yt, .int rT, .int 0, .int (nI G), .ref yw, .int (nI K), .ref yp, .ref yg, .int (nI M), .ref yu, .int (nI N), .ref ysl, .ref yin, .ref yse, .ref ysp, .ref ypa, .int rA, .ref yb, .ref ybd, .ref ybc, .ref yr, .int rF, .int rP, .ref ywd, .int rS, .int rN, .int rO, .int rW, .int rL, .int rD, .ref yd, .int rI, .int rX, .int rY, .int rZ, .int rU, .ref yro, .ref yc, .ref ybe, .ref yco, .long rC, .long rV])), (ysp, .inl (g.2.1 3, 10, .inl qk))]) rfl rfl ?_
  refine pz_if_ne (tgt := 15) F dX9_cut_10 (by decide) (fun q_4 => ?_) (fun q_4 => ?_)
  · replace vc := vc.1 q_4
    exact vc.elim
  · replace vc := vc.2 q_4
    refine pz_iconst (v := (-1)) F dX9_cut_13 rfl ?_
    exact pz_ireturn (w1 := [(h0, .inr (8, [.ref yt, .int rT, .int 0, .int (nI G), .ref yw, .int (nI K), .ref yp, .ref yg, .int (nI M), .ref yu, .int (nI N), .ref ysl, .ref yin, .ref yse, .ref ysp, .ref ypa, .int rA, .ref yb, .ref ybd, .ref ybc, .ref yr, .int rF, .int rP, .ref ywd, .int rS, .int rN, .int rO, .int rW, .int rL, .int rD, .ref yd, .int rI, .int rX, .int rY, .int rZ, .int rU, .ref yro, .ref yc, .ref ybe, .ref yco, .long rC, .long rV])), (ysp, .inl (g.2.1 3, 10, .inl qk))]) F Rt (by decide) (by decide) dX9_cut_14 [0, 1] rfl rfl rfl vc
set_option maxHeartbeats 4000000 in
set_option maxRecDepth 100000 in
theorem ctX9_cut_R (l : Launch) (g : pz_G) (x : Int32) (h0 : Nat) (yt : Nat) (rT : Int32) (rH : Int32) (yw : Nat) (yp : Nat) (yg : Nat) (yu : Nat) (ysl : Nat) (yin : Nat) (yse : Nat) (ysp : Nat) (ypa : Nat) (rA : Int32) (yb : Nat) (ybd : Nat) (ybc : Nat) (yr : Nat) (rF : Int32) (rP : Int32) (ywd : Nat) (rS : Int32) (rN : Int32) (rO : Int32) (rW : Int32) (rL : Int32) (rD : Int32) (yd : Nat) (rI : Int32) (rX : Int32) (rY : Int32) (rZ : Int32) (rU : Int32) (yro : Nat) (yc : Nat) (ybe : Nat) (yco : Nat) (rC : Int64) (rV : Int64) (qk : Nat → Int32) (G : Nat) (K : Nat) (M : Nat) (N : Nat) (hpre : N ≤ 10 ∧ ¬ wh_ok x N qk) : pz_Ct l g yX9_cut cX9_cut 3 (some .int) rmX9_cut_R [.ref h0, .int x] [(h0, .inr (8, [.ref yt, .int rT, .int rH, .int (nI G), .ref yw, .int (nI K), .ref yp, .ref yg, .int (nI M), .ref yu, .int (nI N), .ref ysl, .ref yin, .ref yse, .ref ysp, .ref ypa, .int rA, .ref yb, .ref ybd, .ref ybc, .ref yr, .int rF, .int rP, .ref ywd, .int rS, .int rN, .int rO, .int rW, .int rL, .int rD, .ref yd, .int rI, .int rX, .int rY, .int rZ, .int rU, .ref yro, .ref yc, .ref ybe, .ref yco, .long rC, .long rV])), (ysp, .inl (g.2.1 3, 10, .inl qk))] (pz_pi (fun (r : Int32) (u : Unit) => r = -1) (fun (u : Unit) => [(h0, .inr (8, [.ref yt, .int rT, .int 0, .int (nI G), .ref yw, .int (nI K), .ref yp, .ref yg, .int (nI M), .ref yu, .int (nI N), .ref ysl, .ref yin, .ref yse, .ref ysp, .ref ypa, .int rA, .ref yb, .ref ybd, .ref ybc, .ref yr, .int rF, .int rP, .ref ywd, .int rS, .int rN, .int rO, .int rW, .int rL, .int rD, .ref yd, .int rI, .int rX, .int rY, .int rZ, .int rU, .ref yro, .ref yc, .ref ybe, .ref yco, .long rC, .long rV])), (ysp, .inl (g.2.1 3, 10, .inl qk))])) := by
  refine pz_ofAt (by decide +kernel) (Nat.le_of_ble_eq_true rfl) (fun B F Rt hme => ?_)
  refine sgX9_cut_R_0 F Rt x h0 yt rT rH yw yp yg yu ysl yin yse ysp ypa rA yb ybd ybc yr rF rP ywd rS rN rO rW rL rD yd rI rX rY rZ rU yro yc ybe yco rC rV qk G K M N ?_
  clear F Rt hme
  obtain ⟨hN, hno⟩ := hpre
  refine ⟨hN, fun r h => ?_⟩
  rcases h with ⟨h, _⟩ | ⟨_, rfl⟩
  · exact absurd h hno
  · exact ⟨fun q => absurd rfl q, fun _ => ⟨_, (), rfl, rfl, rfl⟩⟩
abbrev rmX9_sell_R : Room := { frames := 2, cells := 0, slots := 0, locals := 42 }
set_option maxHeartbeats 4000000 in
set_option maxRecDepth 100000 in
theorem sgX9_sell_R_0 {B : pz_B} {g : pz_G} {wc : va_W} {Post : Option Value → va_W → Prop} (F : pz_F B cX9_sell 3 (some .int) yX9_sell.cls g rmX9_sell_R) (Rt : pz_Rt B g wc Post rmX9_sell_R) (x : Int32) (h0 : Nat) (yt : Nat) (rT : Int32) (rH : Int32) (yw : Nat) (yp : Nat) (yg : Nat) (yu : Nat) (ysl : Nat) (yin : Nat) (yse : Nat) (ysp : Nat) (ypa : Nat) (rA : Int32) (yb : Nat) (ybd : Nat) (ybc : Nat) (yr : Nat) (rF : Int32) (rP : Int32) (ywd : Nat) (rS : Int32) (rN : Int32) (rO : Int32) (rW : Int32) (rL : Int32) (rD : Int32) (yd : Nat) (rI : Int32) (rX : Int32) (rY : Int32) (rZ : Int32) (rU : Int32) (yro : Nat) (yc : Nat) (ybe : Nat) (yco : Nat) (rC : Int64) (rV : Int64) (qk : Nat → Int32) (G : Nat) (K : Nat) (M : Nat) (N : Nat)  (vc : (N ≤ 10) ∧ ∀ r_2 : Int32, ∀ _ : ((wh_ok x N qk ∧ r_2 = 1) ∨ (¬ wh_ok x N qk ∧ r_2 = 0)), ((¬ r_2 = 0 → False) ∧ (r_2 = 0 → Post (some (.int (-1))) [(h0, .inr (8, [.ref yt, .int rT, .int 0, .int (nI G), .ref yw, .int (nI K), .ref yp, .ref yg, .int (nI M), .ref yu, .int (nI N), .ref ysl, .ref yin, .ref yse, .ref ysp, .ref ypa, .int rA, .ref yb, .ref ybd, .ref ybc, .ref yr, .int rF, .int rP, .ref ywd, .int rS, .int rN, .int rO, .int rW, .int rL, .int rD, .ref yd, .int rI, .int rX, .int rY, .int rZ, .int rU, .ref yro, .ref yc, .ref ybe, .ref yco, .long rC, .long rV])), (ysp, .inl (g.2.1 3, 10, .inl qk))]))) : pz_At B 0 0 0 [(0, .ref h0), (1, .int x)] [] [(h0, .inr (8, [.ref yt, .int rT, .int rH, .int (nI G), .ref yw, .int (nI K), .ref yp, .ref yg, .int (nI M), .ref yu, .int (nI N), .ref ysl, .ref yin, .ref yse, .ref ysp, .ref ypa, .int rA, .ref yb, .ref ybd, .ref ybc, .ref yr, .int rF, .int rP, .ref ywd, .int rS, .int rN, .int rO, .int rW, .int rL, .int rD, .ref yd, .int rI, .int rX, .int rY, .int rZ, .int rU, .ref yro, .ref yc, .ref ybe, .ref yco, .long rC, .long rV])), (ysp, .inl (g.2.1 3, 10, .inl qk))] := by
  refine pz_aload_n 0 F rfl dX9_sell_0 rfl ?_
  refine pz_iconst (v := 0) F dX9_sell_1 rfl ?_
  refine pz_put (ws' := [(h0, .inr (8, [.ref yt, .int rT, .int 0, .int (nI G), .ref yw, .int (nI K), .ref yp, .ref yg, .int (nI M), .ref yu, .int (nI N), .ref ysl, .ref yin, .ref yse, .ref ysp, .ref ypa, .int rA, .ref yb, .ref ybd, .ref ybc, .ref yr, .int rF, .int rP, .ref ywd, .int rS, .int rN, .int rO, .int rW, .int rL, .int rD, .ref yd, .int rI, .int rX, .int rY, .int rZ, .int rU, .ref yro, .ref yc, .ref ybe, .ref yco, .long rC, .long rV])), (ysp, .inl (g.2.1 3, 10, .inl qk))]) (ci := 8) (C := RX9) (T := TX9) (N := 42) (v := .int 0) (ty := .int) 0 F rfl rfl pz_inX9 2 (by decide) pw_810 tyX9_ok nmX9 rfl rfl rfl rfl (Nat.le_of_ble_eq_true rfl) dX9_sell_2 rfl ?_
  refine pz_aload_n 0 F rfl dX9_sell_5 rfl ?_
  refine pz_iload_n 1 F rfl dX9_sell_6 rfl ?_
  obtain ⟨h_1, vc⟩ := vc
  refine pz_callV (nA := 1) (ci := 8) (C := RX9) (T := TX9) (N := 42) (As := [.int x]) (rest := []) (wr := []) F (ctX9_isWhole _ g x h0 yt rT 0 yw yp yg yu ysl yin yse ysp ypa rA yb ybd ybc yr rF rP ywd rS rN rO rW rL rD yd rI rX rY rZ rU yro yc ybe yco rC rV qk G K M N h_1) 0 rfl rfl pw_1012 pw_1014 pv_36 pw_8 pw_1015 (by decide +kernel) (by decide) (by decide) rfl rfl (Nat.le_of_ble_eq_true rfl) [0, 1] [] rfl rfl rfl rfl (by decide) dX9_sell_7 (fun r0 w0 hp0 => ?_)
  obtain ⟨r_2, _, rfl, rfl, hq_3⟩ := hp0
  replace vc := vc r_2  hq_3
  refine pz_eq (st' := [.int r_2]) (ws' := [(h0, .inr (8, [.ref yt, .int rT, .int 0, .int (nI G), .ref yw, .int (nI K), .ref yp, .ref yg, .int (nI M), .ref yu, .int (nI N), .ref ysl, .ref yin, .ref yse, .ref ysp, .ref ypa, .int rA, .ref yb, .ref ybd, .ref ybc, .ref yr, .int rF, .int rP, .ref ywd, .int rS, .int rN, .int rO, .int rW, .int rL, .int rD, .ref yd, .int rI, .int rX, .int rY, .int rZ, .int rU, .ref yro, .ref yc, .ref ybe, .ref yco, .long rC, .long rV])), (ysp, .inl (g.2.1 3, 10, .inl qk))]) rfl rfl ?_
  refine pz_if_ne (tgt := 15) F dX9_sell_10 (by decide) (fun q_4 => ?_) (fun q_4 => ?_)
  · replace vc := vc.1 q_4
    exact vc.elim
  · replace vc := vc.2 q_4
    refine pz_iconst (v := (-1)) F dX9_sell_13 rfl ?_
    exact pz_ireturn (w1 := [(h0, .inr (8, [.ref yt, .int rT, .int 0, .int (nI G), .ref yw, .int (nI K), .ref yp, .ref yg, .int (nI M), .ref yu, .int (nI N), .ref ysl, .ref yin, .ref yse, .ref ysp, .ref ypa, .int rA, .ref yb, .ref ybd, .ref ybc, .ref yr, .int rF, .int rP, .ref ywd, .int rS, .int rN, .int rO, .int rW, .int rL, .int rD, .ref yd, .int rI, .int rX, .int rY, .int rZ, .int rU, .ref yro, .ref yc, .ref ybe, .ref yco, .long rC, .long rV])), (ysp, .inl (g.2.1 3, 10, .inl qk))]) F Rt (by decide) (by decide) dX9_sell_14 [0, 1] rfl rfl rfl vc
set_option maxHeartbeats 4000000 in
set_option maxRecDepth 100000 in
theorem ctX9_sell_R (l : Launch) (g : pz_G) (x : Int32) (h0 : Nat) (yt : Nat) (rT : Int32) (rH : Int32) (yw : Nat) (yp : Nat) (yg : Nat) (yu : Nat) (ysl : Nat) (yin : Nat) (yse : Nat) (ysp : Nat) (ypa : Nat) (rA : Int32) (yb : Nat) (ybd : Nat) (ybc : Nat) (yr : Nat) (rF : Int32) (rP : Int32) (ywd : Nat) (rS : Int32) (rN : Int32) (rO : Int32) (rW : Int32) (rL : Int32) (rD : Int32) (yd : Nat) (rI : Int32) (rX : Int32) (rY : Int32) (rZ : Int32) (rU : Int32) (yro : Nat) (yc : Nat) (ybe : Nat) (yco : Nat) (rC : Int64) (rV : Int64) (qk : Nat → Int32) (G : Nat) (K : Nat) (M : Nat) (N : Nat) (hpre : N ≤ 10 ∧ ¬ wh_ok x N qk) : pz_Ct l g yX9_sell cX9_sell 3 (some .int) rmX9_sell_R [.ref h0, .int x] [(h0, .inr (8, [.ref yt, .int rT, .int rH, .int (nI G), .ref yw, .int (nI K), .ref yp, .ref yg, .int (nI M), .ref yu, .int (nI N), .ref ysl, .ref yin, .ref yse, .ref ysp, .ref ypa, .int rA, .ref yb, .ref ybd, .ref ybc, .ref yr, .int rF, .int rP, .ref ywd, .int rS, .int rN, .int rO, .int rW, .int rL, .int rD, .ref yd, .int rI, .int rX, .int rY, .int rZ, .int rU, .ref yro, .ref yc, .ref ybe, .ref yco, .long rC, .long rV])), (ysp, .inl (g.2.1 3, 10, .inl qk))] (pz_pi (fun (r : Int32) (u : Unit) => r = -1) (fun (u : Unit) => [(h0, .inr (8, [.ref yt, .int rT, .int 0, .int (nI G), .ref yw, .int (nI K), .ref yp, .ref yg, .int (nI M), .ref yu, .int (nI N), .ref ysl, .ref yin, .ref yse, .ref ysp, .ref ypa, .int rA, .ref yb, .ref ybd, .ref ybc, .ref yr, .int rF, .int rP, .ref ywd, .int rS, .int rN, .int rO, .int rW, .int rL, .int rD, .ref yd, .int rI, .int rX, .int rY, .int rZ, .int rU, .ref yro, .ref yc, .ref ybe, .ref yco, .long rC, .long rV])), (ysp, .inl (g.2.1 3, 10, .inl qk))])) := by
  refine pz_ofAt (by decide +kernel) (Nat.le_of_ble_eq_true rfl) (fun B F Rt hme => ?_)
  refine sgX9_sell_R_0 F Rt x h0 yt rT rH yw yp yg yu ysl yin yse ysp ypa rA yb ybd ybc yr rF rP ywd rS rN rO rW rL rD yd rI rX rY rZ rU yro yc ybe yco rC rV qk G K M N ?_
  clear F Rt hme
  obtain ⟨hN, hno⟩ := hpre
  refine ⟨hN, fun r h => ?_⟩
  rcases h with ⟨h, _⟩ | ⟨_, rfl⟩
  · exact absurd h hno
  · exact ⟨fun q => absurd rfl q, fun _ => ⟨_, (), rfl, rfl, rfl⟩⟩
abbrev rmX9_open_R : Room := { frames := 2, cells := 0, slots := 0, locals := 42 }
set_option maxHeartbeats 4000000 in
set_option maxRecDepth 100000 in
theorem sgX9_open_R_0 {B : pz_B} {g : pz_G} {wc : va_W} {Post : Option Value → va_W → Prop} (F : pz_F B cX9_open 10 (some .int) yX9_open.cls g rmX9_open_R) (Rt : pz_Rt B g wc Post rmX9_open_R) (x : Int32) (h0 : Nat) (yt : Nat) (rT : Int32) (rH : Int32) (yw : Nat) (yp : Nat) (yg : Nat) (yu : Nat) (ysl : Nat) (yin : Nat) (yse : Nat) (ysp : Nat) (ypa : Nat) (rA : Int32) (yb : Nat) (ybd : Nat) (ybc : Nat) (yr : Nat) (rF : Int32) (rP : Int32) (ywd : Nat) (rS : Int32) (rN : Int32) (rO : Int32) (rW : Int32) (rL : Int32) (rD : Int32) (yd : Nat) (rI : Int32) (rX : Int32) (rY : Int32) (rZ : Int32) (rU : Int32) (yro : Nat) (yc : Nat) (ybe : Nat) (yco : Nat) (rC : Int64) (rV : Int64) (qk : Nat → Int32) (G : Nat) (K : Nat) (M : Nat) (N : Nat)  (vc : (N ≤ 10) ∧ ∀ r_2 : Int32, ∀ _ : ((wh_ok x N qk ∧ r_2 = 1) ∨ (¬ wh_ok x N qk ∧ r_2 = 0)), ((¬ r_2 = 0 → False) ∧ (r_2 = 0 → Post (some (.int (-2))) [(h0, .inr (8, [.ref yt, .int rT, .int 0, .int (nI G), .ref yw, .int (nI K), .ref yp, .ref yg, .int (nI M), .ref yu, .int (nI N), .ref ysl, .ref yin, .ref yse, .ref ysp, .ref ypa, .int rA, .ref yb, .ref ybd, .ref ybc, .ref yr, .int rF, .int rP, .ref ywd, .int rS, .int rN, .int rO, .int rW, .int rL, .int rD, .ref yd, .int rI, .int rX, .int rY, .int rZ, .int rU, .ref yro, .ref yc, .ref ybe, .ref yco, .long rC, .long rV])), (ysp, .inl (g.2.1 3, 10, .inl qk))]))) : pz_At B 0 0 0 [(0, .ref h0), (1, .int x)] [] [(h0, .inr (8, [.ref yt, .int rT, .int rH, .int (nI G), .ref yw, .int (nI K), .ref yp, .ref yg, .int (nI M), .ref yu, .int (nI N), .ref ysl, .ref yin, .ref yse, .ref ysp, .ref ypa, .int rA, .ref yb, .ref ybd, .ref ybc, .ref yr, .int rF, .int rP, .ref ywd, .int rS, .int rN, .int rO, .int rW, .int rL, .int rD, .ref yd, .int rI, .int rX, .int rY, .int rZ, .int rU, .ref yro, .ref yc, .ref ybe, .ref yco, .long rC, .long rV])), (ysp, .inl (g.2.1 3, 10, .inl qk))] := by
  refine pz_aload_n 0 F rfl dX9_open_0 rfl ?_
  refine pz_iconst (v := 0) F dX9_open_1 rfl ?_
  refine pz_put (ws' := [(h0, .inr (8, [.ref yt, .int rT, .int 0, .int (nI G), .ref yw, .int (nI K), .ref yp, .ref yg, .int (nI M), .ref yu, .int (nI N), .ref ysl, .ref yin, .ref yse, .ref ysp, .ref ypa, .int rA, .ref yb, .ref ybd, .ref ybc, .ref yr, .int rF, .int rP, .ref ywd, .int rS, .int rN, .int rO, .int rW, .int rL, .int rD, .ref yd, .int rI, .int rX, .int rY, .int rZ, .int rU, .ref yro, .ref yc, .ref ybe, .ref yco, .long rC, .long rV])), (ysp, .inl (g.2.1 3, 10, .inl qk))]) (ci := 8) (C := RX9) (T := TX9) (N := 42) (v := .int 0) (ty := .int) 0 F rfl rfl pz_inX9 2 (by decide) pw_810 tyX9_ok nmX9 rfl rfl rfl rfl (Nat.le_of_ble_eq_true rfl) dX9_open_2 rfl ?_
  refine pz_aload_n 0 F rfl dX9_open_5 rfl ?_
  refine pz_iload_n 1 F rfl dX9_open_6 rfl ?_
  obtain ⟨h_1, vc⟩ := vc
  refine pz_callV (nA := 1) (ci := 8) (C := RX9) (T := TX9) (N := 42) (As := [.int x]) (rest := []) (wr := []) F (ctX9_isWhole _ g x h0 yt rT 0 yw yp yg yu ysl yin yse ysp ypa rA yb ybd ybc yr rF rP ywd rS rN rO rW rL rD yd rI rX rY rZ rU yro yc ybe yco rC rV qk G K M N h_1) 0 rfl rfl pw_1012 pw_1014 pv_36 pw_8 pw_1015 (by decide +kernel) (by decide) (by decide) rfl rfl (Nat.le_of_ble_eq_true rfl) [0, 1] [] rfl rfl rfl rfl (by decide) dX9_open_7 (fun r0 w0 hp0 => ?_)
  obtain ⟨r_2, _, rfl, rfl, hq_3⟩ := hp0
  replace vc := vc r_2  hq_3
  refine pz_eq (st' := [.int r_2]) (ws' := [(h0, .inr (8, [.ref yt, .int rT, .int 0, .int (nI G), .ref yw, .int (nI K), .ref yp, .ref yg, .int (nI M), .ref yu, .int (nI N), .ref ysl, .ref yin, .ref yse, .ref ysp, .ref ypa, .int rA, .ref yb, .ref ybd, .ref ybc, .ref yr, .int rF, .int rP, .ref ywd, .int rS, .int rN, .int rO, .int rW, .int rL, .int rD, .ref yd, .int rI, .int rX, .int rY, .int rZ, .int rU, .ref yro, .ref yc, .ref ybe, .ref yco, .long rC, .long rV])), (ysp, .inl (g.2.1 3, 10, .inl qk))]) rfl rfl ?_
  refine pz_if_ne (tgt := 16) F dX9_open_10 (by decide) (fun q_4 => ?_) (fun q_4 => ?_)
  · replace vc := vc.1 q_4
    exact vc.elim
  · replace vc := vc.2 q_4
    refine pz_bipush (v := (-2)) F dX9_open_13 rfl ?_
    exact pz_ireturn (w1 := [(h0, .inr (8, [.ref yt, .int rT, .int 0, .int (nI G), .ref yw, .int (nI K), .ref yp, .ref yg, .int (nI M), .ref yu, .int (nI N), .ref ysl, .ref yin, .ref yse, .ref ysp, .ref ypa, .int rA, .ref yb, .ref ybd, .ref ybc, .ref yr, .int rF, .int rP, .ref ywd, .int rS, .int rN, .int rO, .int rW, .int rL, .int rD, .ref yd, .int rI, .int rX, .int rY, .int rZ, .int rU, .ref yro, .ref yc, .ref ybe, .ref yco, .long rC, .long rV])), (ysp, .inl (g.2.1 3, 10, .inl qk))]) F Rt (by decide) (by decide) dX9_open_15 [0, 1] rfl rfl rfl vc
set_option maxHeartbeats 4000000 in
set_option maxRecDepth 100000 in
theorem ctX9_open_R (l : Launch) (g : pz_G) (x : Int32) (h0 : Nat) (yt : Nat) (rT : Int32) (rH : Int32) (yw : Nat) (yp : Nat) (yg : Nat) (yu : Nat) (ysl : Nat) (yin : Nat) (yse : Nat) (ysp : Nat) (ypa : Nat) (rA : Int32) (yb : Nat) (ybd : Nat) (ybc : Nat) (yr : Nat) (rF : Int32) (rP : Int32) (ywd : Nat) (rS : Int32) (rN : Int32) (rO : Int32) (rW : Int32) (rL : Int32) (rD : Int32) (yd : Nat) (rI : Int32) (rX : Int32) (rY : Int32) (rZ : Int32) (rU : Int32) (yro : Nat) (yc : Nat) (ybe : Nat) (yco : Nat) (rC : Int64) (rV : Int64) (qk : Nat → Int32) (G : Nat) (K : Nat) (M : Nat) (N : Nat) (hpre : N ≤ 10 ∧ ¬ wh_ok x N qk) : pz_Ct l g yX9_open cX9_open 10 (some .int) rmX9_open_R [.ref h0, .int x] [(h0, .inr (8, [.ref yt, .int rT, .int rH, .int (nI G), .ref yw, .int (nI K), .ref yp, .ref yg, .int (nI M), .ref yu, .int (nI N), .ref ysl, .ref yin, .ref yse, .ref ysp, .ref ypa, .int rA, .ref yb, .ref ybd, .ref ybc, .ref yr, .int rF, .int rP, .ref ywd, .int rS, .int rN, .int rO, .int rW, .int rL, .int rD, .ref yd, .int rI, .int rX, .int rY, .int rZ, .int rU, .ref yro, .ref yc, .ref ybe, .ref yco, .long rC, .long rV])), (ysp, .inl (g.2.1 3, 10, .inl qk))] (pz_pi (fun (r : Int32) (u : Unit) => r = -2) (fun (u : Unit) => [(h0, .inr (8, [.ref yt, .int rT, .int 0, .int (nI G), .ref yw, .int (nI K), .ref yp, .ref yg, .int (nI M), .ref yu, .int (nI N), .ref ysl, .ref yin, .ref yse, .ref ysp, .ref ypa, .int rA, .ref yb, .ref ybd, .ref ybc, .ref yr, .int rF, .int rP, .ref ywd, .int rS, .int rN, .int rO, .int rW, .int rL, .int rD, .ref yd, .int rI, .int rX, .int rY, .int rZ, .int rU, .ref yro, .ref yc, .ref ybe, .ref yco, .long rC, .long rV])), (ysp, .inl (g.2.1 3, 10, .inl qk))])) := by
  refine pz_ofAt (by decide +kernel) (Nat.le_of_ble_eq_true rfl) (fun B F Rt hme => ?_)
  refine sgX9_open_R_0 F Rt x h0 yt rT rH yw yp yg yu ysl yin yse ysp ypa rA yb ybd ybc yr rF rP ywd rS rN rO rW rL rD yd rI rX rY rZ rU yro yc ybe yco rC rV qk G K M N ?_
  clear F Rt hme
  obtain ⟨hN, hno⟩ := hpre
  refine ⟨hN, fun r h => ?_⟩
  rcases h with ⟨h, _⟩ | ⟨_, rfl⟩
  · exact absurd h hno
  · exact ⟨fun q => absurd rfl q, fun _ => ⟨_, (), rfl, rfl, rfl⟩⟩
abbrev rmX9_sell_T : Room := { frames := 2, cells := 0, slots := 0, locals := 47 }
set_option maxHeartbeats 4000000 in
set_option maxRecDepth 100000 in
theorem sgX9_sell_T_0 {B : pz_B} {g : pz_G} {wc : va_W} {Post : Option Value → va_W → Prop} (F : pz_F B cX9_sell 3 (some .int) yX9_sell.cls g rmX9_sell_T) (Rt : pz_Rt B g wc Post rmX9_sell_T) (h0 : Nat) (yt : Nat) (rT : Int32) (rH : Int32) (yw : Nat) (yp : Nat) (yg : Nat) (yu : Nat) (ysl : Nat) (yin : Nat) (yse : Nat) (ysp : Nat) (ypa : Nat) (rA : Int32) (yb : Nat) (ybd : Nat) (ybc : Nat) (yr : Nat) (rF : Int32) (rP : Int32) (ywd : Nat) (rS : Int32) (rN : Int32) (rO : Int32) (rW : Int32) (rL : Int32) (rD : Int32) (yd : Nat) (rI : Int32) (rX : Int32) (rY : Int32) (rZ : Int32) (rU : Int32) (yro : Nat) (yc : Nat) (ybe : Nat) (yco : Nat) (rC : Int64) (rV : Int64) (qk : Nat → Int32) (qs : Nat → Int32) (qe : Nat → Int32) (qi : Nat → Int32) (qr : Nat → Int32) (qa : Nat → Int32) (qD : Nat → Int32) (qu : Nat → Int32) (G : Nat) (K : Nat) (M : Nat) (N : Nat) (b : Nat)  (vc : (N ≤ 10) ∧ ∀ r_2 : Int32, ∀ _ : ((wh_ok (nI b) N qk ∧ r_2 = 1) ∨ (¬ wh_ok (nI b) N qk ∧ r_2 = 0)), ((¬ r_2 = 0 → vp_in (nI b) 10 ∧ vp_in (nI b) 10 ∧ (b < 10) ∧ ∀ r_8 : Int32, ∀ _ : (r_8 = la_s (qi b) (qe b)), (r_8 < 4) ∧ ∀ r_11 : Int32, ∀ _ : (r_11 = of_b qr r_8), ∀ x_13 : Int32, x_13 = (((qs (nI b).toNatClampNeg) - (qe (nI b).toNatClampNeg)) * r_11) → ∀ x_14 : Int32, x_14 = (rA - x_13) → (b < 10 ∧ M ≤ 8 ∧ ∀ v, v < 8 → ¬ qa (8 * b + v) < 0) ∧ ∀ d2_16 : Nat → Int32, ∀ u2_17 : Nat → Int32, ∀ _ : (∀ a, a < 8 → u2_17 a = if a < M then qu a + dv_f (sl8 qa b) 8 x_13 a else qu a), vp_in (nI b) 10 ∧ ∀ f_20 : Nat → Int32, f_20 = upd qk (nI b).toNatClampNeg (vp_nar .boolean 1) → Post (some (.int x_13)) [(h0, .inr (8, [.ref yt, .int rT, .int 0, .int (nI G), .ref yw, .int (nI K), .ref yp, .ref yg, .int (nI M), .ref yu, .int (nI N), .ref ysl, .ref yin, .ref yse, .ref ysp, .ref ypa, .int x_14, .ref yb, .ref ybd, .ref ybc, .ref yr, .int rF, .int rP, .ref ywd, .int rS, .int rN, .int rO, .int rW, .int rL, .int rD, .ref yd, .int rI, .int rX, .int rY, .int rZ, .int rU, .ref yro, .ref yc, .ref ybe, .ref yco, .long rC, .long rV])), (ysp, .inl (g.2.1 3, 10, .inl f_20)), (ysl, .inl (g.2.1 1, 10, .inl qs)), (yse, .inl (g.2.1 1, 10, .inl qe)), (yin, .inl (g.2.1 1, 10, .inl qi)), (yr, .inl (g.2.1 1, 24, .inl qr)), (ypa, .inl (g.2.1 1, 80, .inl qa)), (yd, .inl (g.2.1 1, 8, .inl d2_16)), (yu, .inl (g.2.1 1, 8, .inl u2_17))]) ∧ (r_2 = 0 → Post (some (.int (-1))) [(h0, .inr (8, [.ref yt, .int rT, .int 0, .int (nI G), .ref yw, .int (nI K), .ref yp, .ref yg, .int (nI M), .ref yu, .int (nI N), .ref ysl, .ref yin, .ref yse, .ref ysp, .ref ypa, .int rA, .ref yb, .ref ybd, .ref ybc, .ref yr, .int rF, .int rP, .ref ywd, .int rS, .int rN, .int rO, .int rW, .int rL, .int rD, .ref yd, .int rI, .int rX, .int rY, .int rZ, .int rU, .ref yro, .ref yc, .ref ybe, .ref yco, .long rC, .long rV])), (ysp, .inl (g.2.1 3, 10, .inl qk)), (ysl, .inl (g.2.1 1, 10, .inl qs)), (yse, .inl (g.2.1 1, 10, .inl qe)), (yin, .inl (g.2.1 1, 10, .inl qi)), (yr, .inl (g.2.1 1, 24, .inl qr)), (ypa, .inl (g.2.1 1, 80, .inl qa)), (yd, .inl (g.2.1 1, 8, .inl qD)), (yu, .inl (g.2.1 1, 8, .inl qu))]))) : pz_At B 0 0 0 [(0, .ref h0), (1, .int (nI b))] [] [(h0, .inr (8, [.ref yt, .int rT, .int rH, .int (nI G), .ref yw, .int (nI K), .ref yp, .ref yg, .int (nI M), .ref yu, .int (nI N), .ref ysl, .ref yin, .ref yse, .ref ysp, .ref ypa, .int rA, .ref yb, .ref ybd, .ref ybc, .ref yr, .int rF, .int rP, .ref ywd, .int rS, .int rN, .int rO, .int rW, .int rL, .int rD, .ref yd, .int rI, .int rX, .int rY, .int rZ, .int rU, .ref yro, .ref yc, .ref ybe, .ref yco, .long rC, .long rV])), (ysp, .inl (g.2.1 3, 10, .inl qk)), (ysl, .inl (g.2.1 1, 10, .inl qs)), (yse, .inl (g.2.1 1, 10, .inl qe)), (yin, .inl (g.2.1 1, 10, .inl qi)), (yr, .inl (g.2.1 1, 24, .inl qr)), (ypa, .inl (g.2.1 1, 80, .inl qa)), (yd, .inl (g.2.1 1, 8, .inl qD)), (yu, .inl (g.2.1 1, 8, .inl qu))] := by
  refine pz_aload_n 0 F rfl dX9_sell_0 rfl ?_
  refine pz_iconst (v := 0) F dX9_sell_1 rfl ?_
  refine pz_put (ws' := [(h0, .inr (8, [.ref yt, .int rT, .int 0, .int (nI G), .ref yw, .int (nI K), .ref yp, .ref yg, .int (nI M), .ref yu, .int (nI N), .ref ysl, .ref yin, .ref yse, .ref ysp, .ref ypa, .int rA, .ref yb, .ref ybd, .ref ybc, .ref yr, .int rF, .int rP, .ref ywd, .int rS, .int rN, .int rO, .int rW, .int rL, .int rD, .ref yd, .int rI, .int rX, .int rY, .int rZ, .int rU, .ref yro, .ref yc, .ref ybe, .ref yco, .long rC, .long rV])), (ysp, .inl (g.2.1 3, 10, .inl qk)), (ysl, .inl (g.2.1 1, 10, .inl qs)), (yse, .inl (g.2.1 1, 10, .inl qe)), (yin, .inl (g.2.1 1, 10, .inl qi)), (yr, .inl (g.2.1 1, 24, .inl qr)), (ypa, .inl (g.2.1 1, 80, .inl qa)), (yd, .inl (g.2.1 1, 8, .inl qD)), (yu, .inl (g.2.1 1, 8, .inl qu))]) (ci := 8) (C := RX9) (T := TX9) (N := 42) (v := .int 0) (ty := .int) 0 F rfl rfl pz_inX9 2 (by decide) pw_810 tyX9_ok nmX9 rfl rfl rfl rfl (Nat.le_of_ble_eq_true rfl) dX9_sell_2 rfl ?_
  refine pz_aload_n 0 F rfl dX9_sell_5 rfl ?_
  refine pz_iload_n 1 F rfl dX9_sell_6 rfl ?_
  obtain ⟨h_1, vc⟩ := vc
  refine pz_callV (nA := 1) (ci := 8) (C := RX9) (T := TX9) (N := 42) (As := [.int (nI b)]) (rest := []) (wr := [(ysl, .inl (g.2.1 1, 10, .inl qs)), (yse, .inl (g.2.1 1, 10, .inl qe)), (yin, .inl (g.2.1 1, 10, .inl qi)), (yr, .inl (g.2.1 1, 24, .inl qr)), (ypa, .inl (g.2.1 1, 80, .inl qa)), (yd, .inl (g.2.1 1, 8, .inl qD)), (yu, .inl (g.2.1 1, 8, .inl qu))]) F (ctX9_isWhole _ g (nI b) h0 yt rT 0 yw yp yg yu ysl yin yse ysp ypa rA yb ybd ybc yr rF rP ywd rS rN rO rW rL rD yd rI rX rY rZ rU yro yc ybe yco rC rV qk G K M N h_1) 0 rfl rfl pw_1012 pw_1014 pv_36 pw_8 pw_1015 (by decide +kernel) (by decide) (by decide) rfl rfl (Nat.le_of_ble_eq_true rfl) [0, 1] [2, 3, 4, 5, 6, 7, 8] rfl rfl rfl rfl (by decide) dX9_sell_7 (fun r0 w0 hp0 => ?_)
  obtain ⟨r_2, _, rfl, rfl, hq_3⟩ := hp0
  replace vc := vc r_2  hq_3
  refine pz_eq (st' := [.int r_2]) (ws' := [(ysl, .inl (g.2.1 1, 10, .inl qs)), (yse, .inl (g.2.1 1, 10, .inl qe)), (yin, .inl (g.2.1 1, 10, .inl qi)), (yr, .inl (g.2.1 1, 24, .inl qr)), (ypa, .inl (g.2.1 1, 80, .inl qa)), (yd, .inl (g.2.1 1, 8, .inl qD)), (yu, .inl (g.2.1 1, 8, .inl qu)), (h0, .inr (8, [.ref yt, .int rT, .int 0, .int (nI G), .ref yw, .int (nI K), .ref yp, .ref yg, .int (nI M), .ref yu, .int (nI N), .ref ysl, .ref yin, .ref yse, .ref ysp, .ref ypa, .int rA, .ref yb, .ref ybd, .ref ybc, .ref yr, .int rF, .int rP, .ref ywd, .int rS, .int rN, .int rO, .int rW, .int rL, .int rD, .ref yd, .int rI, .int rX, .int rY, .int rZ, .int rU, .ref yro, .ref yc, .ref ybe, .ref yco, .long rC, .long rV])), (ysp, .inl (g.2.1 3, 10, .inl qk))]) rfl rfl ?_
  refine pz_if_ne (tgt := 15) F dX9_sell_10 (by decide) (fun q_4 => ?_) (fun q_4 => ?_)
  · replace vc := vc.1 q_4
    refine pz_aload_n 0 F rfl dX9_sell_15 rfl ?_
    refine pz_get (ci := 8) (C := RX9) (T := TX9) (N := 42) (v := .ref ysl) 7 F rfl rfl pz_inX9 11 (by decide) pw_819 rfl dX9_sell_16 ?_
    refine pz_iload_n 1 F rfl dX9_sell_19 rfl ?_
    obtain ⟨h_5, vc⟩ := vc
    refine pz_iaload 0 F rfl h_5 dX9_sell_20 ?_
    refine pz_aload_n 0 F rfl dX9_sell_21 rfl ?_
    refine pz_get (ci := 8) (C := RX9) (T := TX9) (N := 42) (v := .ref yse) 7 F rfl rfl pz_inX9 13 (by decide) pw_821 rfl dX9_sell_22 ?_
    refine pz_iload_n 1 F rfl dX9_sell_25 rfl ?_
    obtain ⟨h_6, vc⟩ := vc
    refine pz_iaload 1 F rfl h_6 dX9_sell_26 ?_
    refine pz_isub F dX9_sell_27 ?_
    refine pz_aload_n 0 F rfl dX9_sell_28 rfl ?_
    refine pz_aload_n 0 F rfl dX9_sell_29 rfl ?_
    refine pz_iload_n 1 F rfl dX9_sell_30 rfl ?_
    obtain ⟨h_7, vc⟩ := vc
    refine pz_callV (nA := 1) (ci := 8) (C := RX9) (T := TX9) (N := 42) (As := [.int (nI b)]) (rest := [.ref h0, .int ((qs (nI b).toNatClampNeg) - (qe (nI b).toNatClampNeg))]) (wr := [(ysl, .inl (g.2.1 1, 10, .inl qs)), (yr, .inl (g.2.1 1, 24, .inl qr)), (ypa, .inl (g.2.1 1, 80, .inl qa)), (yd, .inl (g.2.1 1, 8, .inl qD)), (yu, .inl (g.2.1 1, 8, .inl qu)), (ysp, .inl (g.2.1 3, 10, .inl qk))]) F (ctX9_lastOf _ g h0 yt rT 0 yw yp yg yu ysl yin yse ysp ypa rA yb ybd ybc yr rF rP ywd rS rN rO rW rL rD yd rI rX rY rZ rU yro yc ybe yco rC rV qe qi G K M N b h_7) 7 rfl rfl pw_1068 pw_1070 pv_44 pw_8 pw_1071 (by decide +kernel) (by decide) (by decide) rfl rfl (Nat.le_of_ble_eq_true rfl) [7, 1, 2] [0, 3, 4, 5, 6, 8] rfl rfl rfl rfl (by decide) dX9_sell_31 (fun r0 w0 hp0 => ?_)
    obtain ⟨r_8, _, rfl, rfl, hq_9⟩ := hp0
    replace vc := vc r_8  hq_9
    refine pz_eq (st' := [.int r_8, .ref h0, .int ((qs (nI b).toNatClampNeg) - (qe (nI b).toNatClampNeg))]) (ws' := [(ysl, .inl (g.2.1 1, 10, .inl qs)), (yr, .inl (g.2.1 1, 24, .inl qr)), (ypa, .inl (g.2.1 1, 80, .inl qa)), (yd, .inl (g.2.1 1, 8, .inl qD)), (yu, .inl (g.2.1 1, 8, .inl qu)), (ysp, .inl (g.2.1 3, 10, .inl qk)), (h0, .inr (8, [.ref yt, .int rT, .int 0, .int (nI G), .ref yw, .int (nI K), .ref yp, .ref yg, .int (nI M), .ref yu, .int (nI N), .ref ysl, .ref yin, .ref yse, .ref ysp, .ref ypa, .int rA, .ref yb, .ref ybd, .ref ybc, .ref yr, .int rF, .int rP, .ref ywd, .int rS, .int rN, .int rO, .int rW, .int rL, .int rD, .ref yd, .int rI, .int rX, .int rY, .int rZ, .int rU, .ref yro, .ref yc, .ref ybe, .ref yco, .long rC, .long rV])), (yse, .inl (g.2.1 1, 10, .inl qe)), (yin, .inl (g.2.1 1, 10, .inl qi))]) rfl rfl ?_
    obtain ⟨h_10, vc⟩ := vc
    refine pz_callV (nA := 1) (ci := 8) (C := RX9) (T := TX9) (N := 42) (As := [.int r_8]) (rest := [.int ((qs (nI b).toNatClampNeg) - (qe (nI b).toNatClampNeg))]) (wr := [(ysl, .inl (g.2.1 1, 10, .inl qs)), (ypa, .inl (g.2.1 1, 80, .inl qa)), (yd, .inl (g.2.1 1, 8, .inl qD)), (yu, .inl (g.2.1 1, 8, .inl qu)), (ysp, .inl (g.2.1 3, 10, .inl qk)), (yse, .inl (g.2.1 1, 10, .inl qe)), (yin, .inl (g.2.1 1, 10, .inl qi))]) F (ctX9_offerOf _ g r_8 h0 yt rT 0 yw yp yg yu ysl yin yse ysp ypa rA yb ybd ybc yr rF rP ywd rS rN rO rW rL rD yd rI rX rY rZ rU yro yc ybe yco rC rV qr G K M N h_10) 6 rfl rfl pw_1072 pw_1074 pv_45 pw_8 pw_1075 (by decide +kernel) (by decide) (by decide) rfl rfl (Nat.le_of_ble_eq_true rfl) [6, 1] [0, 2, 3, 4, 5, 7, 8] rfl rfl rfl rfl (by decide) dX9_sell_34 (fun r0 w0 hp0 => ?_)
    obtain ⟨r_11, _, rfl, rfl, hq_12⟩ := hp0
    replace vc := vc r_11  hq_12
    refine pz_eq (st' := [.int r_11, .int ((qs (nI b).toNatClampNeg) - (qe (nI b).toNatClampNeg))]) (ws' := [(ysl, .inl (g.2.1 1, 10, .inl qs)), (ypa, .inl (g.2.1 1, 80, .inl qa)), (yd, .inl (g.2.1 1, 8, .inl qD)), (yu, .inl (g.2.1 1, 8, .inl qu)), (ysp, .inl (g.2.1 3, 10, .inl qk)), (yse, .inl (g.2.1 1, 10, .inl qe)), (yin, .inl (g.2.1 1, 10, .inl qi)), (h0, .inr (8, [.ref yt, .int rT, .int 0, .int (nI G), .ref yw, .int (nI K), .ref yp, .ref yg, .int (nI M), .ref yu, .int (nI N), .ref ysl, .ref yin, .ref yse, .ref ysp, .ref ypa, .int rA, .ref yb, .ref ybd, .ref ybc, .ref yr, .int rF, .int rP, .ref ywd, .int rS, .int rN, .int rO, .int rW, .int rL, .int rD, .ref yd, .int rI, .int rX, .int rY, .int rZ, .int rU, .ref yro, .ref yc, .ref ybe, .ref yco, .long rC, .long rV])), (yr, .inl (g.2.1 1, 24, .inl qr))]) rfl rfl ?_
    refine pz_imul F dX9_sell_37 ?_
    refine pz_topi (fun x_13 ex_13 => ?_)
    replace vc := vc x_13 ex_13
    refine pz_istore_n (lv' := [(2, .int x_13), (0, .ref h0), (1, .int (nI b))]) F dX9_sell_38 rfl (by decide) rfl ?_
    refine pz_aload_n 1 F rfl dX9_sell_39 rfl ?_
    refine pz_dup F dX9_sell_40 rfl ?_
    refine pz_get (ci := 8) (C := RX9) (T := TX9) (N := 42) (v := .int rA) 7 F rfl rfl pz_inX9 16 (by decide) pw_824 rfl dX9_sell_41 ?_
    refine pz_iload_n 0 F rfl dX9_sell_44 rfl ?_
    refine pz_isub F dX9_sell_45 ?_
    refine pz_topi (fun x_14 ex_14 => ?_)
    replace vc := vc x_14 ex_14
    refine pz_put (ws' := [(ysl, .inl (g.2.1 1, 10, .inl qs)), (ypa, .inl (g.2.1 1, 80, .inl qa)), (yd, .inl (g.2.1 1, 8, .inl qD)), (yu, .inl (g.2.1 1, 8, .inl qu)), (ysp, .inl (g.2.1 3, 10, .inl qk)), (yse, .inl (g.2.1 1, 10, .inl qe)), (yin, .inl (g.2.1 1, 10, .inl qi)), (h0, .inr (8, [.ref yt, .int rT, .int 0, .int (nI G), .ref yw, .int (nI K), .ref yp, .ref yg, .int (nI M), .ref yu, .int (nI N), .ref ysl, .ref yin, .ref yse, .ref ysp, .ref ypa, .int x_14, .ref yb, .ref ybd, .ref ybc, .ref yr, .int rF, .int rP, .ref ywd, .int rS, .int rN, .int rO, .int rW, .int rL, .int rD, .ref yd, .int rI, .int rX, .int rY, .int rZ, .int rU, .ref yro, .ref yc, .ref ybe, .ref yco, .long rC, .long rV])), (yr, .inl (g.2.1 1, 24, .inl qr))]) (ci := 8) (C := RX9) (T := TX9) (N := 42) (v := .int x_14) (ty := .int) 7 F rfl rfl pz_inX9 16 (by decide) pw_824 tyX9_ok nmX9 rfl rfl rfl rfl (Nat.le_of_ble_eq_true rfl) dX9_sell_46 rfl ?_
    refine pz_aload_n 1 F rfl dX9_sell_49 rfl ?_
    refine pz_iload_n 2 F rfl dX9_sell_50 rfl ?_
    refine pz_iload_n 0 F rfl dX9_sell_51 rfl ?_
    obtain ⟨h_15, vc⟩ := vc
    refine pz_callV (nA := 2) (ci := 8) (C := RX9) (T := TX9) (N := 42) (As := [.int (nI b), .int x_13]) (rest := []) (wr := [(ysl, .inl (g.2.1 1, 10, .inl qs)), (ysp, .inl (g.2.1 3, 10, .inl qk)), (yse, .inl (g.2.1 1, 10, .inl qe)), (yin, .inl (g.2.1 1, 10, .inl qi)), (yr, .inl (g.2.1 1, 24, .inl qr))]) F (ctX9_pay _ g x_13 h0 yt rT 0 yw yp yg yu ysl yin yse ysp ypa x_14 yb ybd ybc yr rF rP ywd rS rN rO rW rL rD yd rI rX rY rZ rU yro yc ybe yco rC rV qa qD qu G K M N b h_15) 7 rfl rfl pw_1044 pw_1046 pv_41 pw_8 pw_1047 (by decide +kernel) (by decide) (by decide) rfl rfl (Nat.le_of_ble_eq_true rfl) [7, 1, 2, 3] [0, 4, 5, 6, 8] rfl rfl rfl rfl (by decide) dX9_sell_52 (fun r0 w0 hp0 => ?_)
    obtain ⟨⟨d2_16, u2_17⟩, rfl, rfl, hq_18⟩ := hp0
    replace vc := vc d2_16 u2_17 hq_18
    refine pz_eq (st' := []) (ws' := [(ysl, .inl (g.2.1 1, 10, .inl qs)), (ysp, .inl (g.2.1 3, 10, .inl qk)), (yse, .inl (g.2.1 1, 10, .inl qe)), (yin, .inl (g.2.1 1, 10, .inl qi)), (yr, .inl (g.2.1 1, 24, .inl qr)), (h0, .inr (8, [.ref yt, .int rT, .int 0, .int (nI G), .ref yw, .int (nI K), .ref yp, .ref yg, .int (nI M), .ref yu, .int (nI N), .ref ysl, .ref yin, .ref yse, .ref ysp, .ref ypa, .int x_14, .ref yb, .ref ybd, .ref ybc, .ref yr, .int rF, .int rP, .ref ywd, .int rS, .int rN, .int rO, .int rW, .int rL, .int rD, .ref yd, .int rI, .int rX, .int rY, .int rZ, .int rU, .ref yro, .ref yc, .ref ybe, .ref yco, .long rC, .long rV])), (ypa, .inl (g.2.1 1, 80, .inl qa)), (yd, .inl (g.2.1 1, 8, .inl d2_16)), (yu, .inl (g.2.1 1, 8, .inl u2_17))]) rfl rfl ?_
    refine pz_aload_n 1 F rfl dX9_sell_55 rfl ?_
    refine pz_get (ci := 8) (C := RX9) (T := TX9) (N := 42) (v := .ref ysp) 5 F rfl rfl pz_inX9 14 (by decide) pw_822 rfl dX9_sell_56 ?_
    refine pz_iload_n 2 F rfl dX9_sell_59 rfl ?_
    refine pz_iconst (v := 1) F dX9_sell_60 rfl ?_
    obtain ⟨h_19, vc⟩ := vc
    obtain ⟨f_20, ef_20⟩ : ∃ z : Nat → Int32, z = upd qk (nI b).toNatClampNeg (vp_nar .boolean 1) := ⟨_, rfl⟩
    replace vc := vc f_20 ef_20
    refine pz_zastore (ws' := [(ysl, .inl (g.2.1 1, 10, .inl qs)), (ysp, .inl (g.2.1 3, 10, .inl f_20)), (yse, .inl (g.2.1 1, 10, .inl qe)), (yin, .inl (g.2.1 1, 10, .inl qi)), (yr, .inl (g.2.1 1, 24, .inl qr)), (h0, .inr (8, [.ref yt, .int rT, .int 0, .int (nI G), .ref yw, .int (nI K), .ref yp, .ref yg, .int (nI M), .ref yu, .int (nI N), .ref ysl, .ref yin, .ref yse, .ref ysp, .ref ypa, .int x_14, .ref yb, .ref ybd, .ref ybc, .ref yr, .int rF, .int rP, .ref ywd, .int rS, .int rN, .int rO, .int rW, .int rL, .int rD, .ref yd, .int rI, .int rX, .int rY, .int rZ, .int rU, .ref yro, .ref yc, .ref ybe, .ref yco, .long rC, .long rV])), (ypa, .inl (g.2.1 1, 80, .inl qa)), (yd, .inl (g.2.1 1, 8, .inl d2_16)), (yu, .inl (g.2.1 1, 8, .inl u2_17))]) F 1 rfl h_19 dX9_sell_61 (by rw [ef_20]; rfl) ?_
    refine pz_iload_n 0 F rfl dX9_sell_62 rfl ?_
    exact pz_ireturn (w1 := [(h0, .inr (8, [.ref yt, .int rT, .int 0, .int (nI G), .ref yw, .int (nI K), .ref yp, .ref yg, .int (nI M), .ref yu, .int (nI N), .ref ysl, .ref yin, .ref yse, .ref ysp, .ref ypa, .int x_14, .ref yb, .ref ybd, .ref ybc, .ref yr, .int rF, .int rP, .ref ywd, .int rS, .int rN, .int rO, .int rW, .int rL, .int rD, .ref yd, .int rI, .int rX, .int rY, .int rZ, .int rU, .ref yro, .ref yc, .ref ybe, .ref yco, .long rC, .long rV])), (ysp, .inl (g.2.1 3, 10, .inl f_20)), (ysl, .inl (g.2.1 1, 10, .inl qs)), (yse, .inl (g.2.1 1, 10, .inl qe)), (yin, .inl (g.2.1 1, 10, .inl qi)), (yr, .inl (g.2.1 1, 24, .inl qr)), (ypa, .inl (g.2.1 1, 80, .inl qa)), (yd, .inl (g.2.1 1, 8, .inl d2_16)), (yu, .inl (g.2.1 1, 8, .inl u2_17))]) F Rt (by decide) (by decide) dX9_sell_63 [5, 1, 0, 2, 3, 4, 6, 7, 8] rfl rfl rfl vc
  · replace vc := vc.2 q_4
    refine pz_iconst (v := (-1)) F dX9_sell_13 rfl ?_
    exact pz_ireturn (w1 := [(h0, .inr (8, [.ref yt, .int rT, .int 0, .int (nI G), .ref yw, .int (nI K), .ref yp, .ref yg, .int (nI M), .ref yu, .int (nI N), .ref ysl, .ref yin, .ref yse, .ref ysp, .ref ypa, .int rA, .ref yb, .ref ybd, .ref ybc, .ref yr, .int rF, .int rP, .ref ywd, .int rS, .int rN, .int rO, .int rW, .int rL, .int rD, .ref yd, .int rI, .int rX, .int rY, .int rZ, .int rU, .ref yro, .ref yc, .ref ybe, .ref yco, .long rC, .long rV])), (ysp, .inl (g.2.1 3, 10, .inl qk)), (ysl, .inl (g.2.1 1, 10, .inl qs)), (yse, .inl (g.2.1 1, 10, .inl qe)), (yin, .inl (g.2.1 1, 10, .inl qi)), (yr, .inl (g.2.1 1, 24, .inl qr)), (ypa, .inl (g.2.1 1, 80, .inl qa)), (yd, .inl (g.2.1 1, 8, .inl qD)), (yu, .inl (g.2.1 1, 8, .inl qu))]) F Rt (by decide) (by decide) dX9_sell_14 [7, 8, 0, 1, 2, 3, 4, 5, 6] rfl rfl rfl vc
set_option maxHeartbeats 4000000 in
set_option maxRecDepth 100000 in
theorem ctX9_sell_T (l : Launch) (g : pz_G) (h0 : Nat) (yt : Nat) (rT : Int32) (rH : Int32) (yw : Nat) (yp : Nat) (yg : Nat) (yu : Nat) (ysl : Nat) (yin : Nat) (yse : Nat) (ysp : Nat) (ypa : Nat) (rA : Int32) (yb : Nat) (ybd : Nat) (ybc : Nat) (yr : Nat) (rF : Int32) (rP : Int32) (ywd : Nat) (rS : Int32) (rN : Int32) (rO : Int32) (rW : Int32) (rL : Int32) (rD : Int32) (yd : Nat) (rI : Int32) (rX : Int32) (rY : Int32) (rZ : Int32) (rU : Int32) (yro : Nat) (yc : Nat) (ybe : Nat) (yco : Nat) (rC : Int64) (rV : Int64) (qk : Nat → Int32) (qs : Nat → Int32) (qe : Nat → Int32) (qi : Nat → Int32) (qr : Nat → Int32) (qa : Nat → Int32) (qD : Nat → Int32) (qu : Nat → Int32) (G : Nat) (K : Nat) (M : Nat) (N : Nat) (b : Nat) (hpre : b < N ∧ N ≤ 10 ∧ M ≤ 8 ∧ (∀ v, v < 8 → ¬ qa (8 * b + v) < 0) ∧ qk b = 0) : pz_Ct l g yX9_sell cX9_sell 3 (some .int) rmX9_sell_T [.ref h0, .int (nI b)] [(h0, .inr (8, [.ref yt, .int rT, .int rH, .int (nI G), .ref yw, .int (nI K), .ref yp, .ref yg, .int (nI M), .ref yu, .int (nI N), .ref ysl, .ref yin, .ref yse, .ref ysp, .ref ypa, .int rA, .ref yb, .ref ybd, .ref ybc, .ref yr, .int rF, .int rP, .ref ywd, .int rS, .int rN, .int rO, .int rW, .int rL, .int rD, .ref yd, .int rI, .int rX, .int rY, .int rZ, .int rU, .ref yro, .ref yc, .ref ybe, .ref yco, .long rC, .long rV])), (ysp, .inl (g.2.1 3, 10, .inl qk)), (ysl, .inl (g.2.1 1, 10, .inl qs)), (yse, .inl (g.2.1 1, 10, .inl qe)), (yin, .inl (g.2.1 1, 10, .inl qi)), (yr, .inl (g.2.1 1, 24, .inl qr)), (ypa, .inl (g.2.1 1, 80, .inl qa)), (yd, .inl (g.2.1 1, 8, .inl qD)), (yu, .inl (g.2.1 1, 8, .inl qu))] (pz_pi (fun (r : Int32) (u : Int32 × (Nat → Int32) × (Nat → Int32) × (Nat → Int32)) => r = (qs b - qe b) * of_b qr (la_s (qi b) (qe b)) ∧ u.1 = rA - (qs b - qe b) * of_b qr (la_s (qi b) (qe b)) ∧ u.2.1 = upd qk b 1 ∧ ∀ a, a < 8 → u.2.2.1 a = if a < M then qu a + dv_f (sl8 qa b) 8 ((qs b - qe b) * of_b qr (la_s (qi b) (qe b))) a else qu a) (fun (u : Int32 × (Nat → Int32) × (Nat → Int32) × (Nat → Int32)) => [(h0, .inr (8, [.ref yt, .int rT, .int 0, .int (nI G), .ref yw, .int (nI K), .ref yp, .ref yg, .int (nI M), .ref yu, .int (nI N), .ref ysl, .ref yin, .ref yse, .ref ysp, .ref ypa, .int u.1, .ref yb, .ref ybd, .ref ybc, .ref yr, .int rF, .int rP, .ref ywd, .int rS, .int rN, .int rO, .int rW, .int rL, .int rD, .ref yd, .int rI, .int rX, .int rY, .int rZ, .int rU, .ref yro, .ref yc, .ref ybe, .ref yco, .long rC, .long rV])), (ysp, .inl (g.2.1 3, 10, .inl u.2.1)), (ysl, .inl (g.2.1 1, 10, .inl qs)), (yse, .inl (g.2.1 1, 10, .inl qe)), (yin, .inl (g.2.1 1, 10, .inl qi)), (yr, .inl (g.2.1 1, 24, .inl qr)), (ypa, .inl (g.2.1 1, 80, .inl qa)), (yd, .inl (g.2.1 1, 8, .inl u.2.2.2)), (yu, .inl (g.2.1 1, 8, .inl u.2.2.1))])) := by
  refine pz_ofAt (by decide +kernel) (Nat.le_of_ble_eq_true rfl) (fun B F Rt hme => ?_)
  obtain ⟨hb, hN, hM, hnn, hk⟩ := hpre
  refine sgX9_sell_T_0 F Rt h0 yt rT rH yw yp yg yu ysl yin yse ysp ypa rA yb ybd ybc yr rF rP ywd rS rN rO rW rL rD yd rI rX rY rZ rU yro yc ybe yco rC rV qk qs qe qi qr qa qD qu G K M N b ?_
  clear F Rt hme
  have hin : vp_in (nI b) 10 := vp_in_nI (by omega) (by omega)
  have hwh : wh_ok (nI b) N qk := ⟨⟨nI_pos (by omega), nI_lt hb (by omega)⟩, by rw [nI_clamp (by omega)]; exact hk⟩
  refine ⟨hN, fun r h => ?_⟩
  rcases h with ⟨_, rfl⟩ | ⟨h, _⟩
  · refine ⟨fun _ => ?_, fun q => absurd q (by decide)⟩
    rw [nI_clamp (by omega)]
    refine ⟨hin, hin, by omega, ?_⟩
    rintro r1 rfl
    refine ⟨la_s4 _ _, ?_⟩
    rintro r2 rfl x1 rfl x2 rfl
    refine ⟨⟨by omega, hM, hnn⟩, fun d2 u2 h2 => ⟨hin, ?_⟩⟩
    rintro f rfl
    exact ⟨_, (_, _, _, _), rfl, rfl, rfl, rfl, rfl, h2⟩
  · exact absurd hwh h
