
abbrev rmX6_tell : Room := { frames := 0, cells := 0, slots := 0, locals := 0 }
set_option maxHeartbeats 4000000 in
set_option maxRecDepth 100000 in
theorem sgX6_tell_0 {B : pz_B} {g : pz_G} {wc : va_W} {Post : Option Value → va_W → Prop} (F : pz_F B cX6_tell 2 (some .int) yX6_tell.cls g rmX6_tell) (Rt : pz_Rt B g wc Post rmX6_tell) (h0 : Nat) (w : Int32) (hs : Nat) (hc : Nat) (lI : Int32) (ou : Int32) (he : Int32) (pc : Int32) (df : Int32) (tx : Int32)  (vc : ((¬ he = 0 → ((w = 0 → Post (some (.int pc)) [(h0, .inr (5, [.ref hs, .ref hc, .int lI, .int ou, .int he, .int pc, .int df, .int tx]))]) ∧ (¬ w = 0 → ((w = 1 → Post (some (.int df)) [(h0, .inr (5, [.ref hs, .ref hc, .int lI, .int ou, .int he, .int pc, .int df, .int tx]))]) ∧ (¬ w = 1 → ((w = 2 → Post (some (.int tx)) [(h0, .inr (5, [.ref hs, .ref hc, .int lI, .int ou, .int he, .int pc, .int df, .int tx]))]) ∧ (¬ w = 2 → ((w = 3 → Post (some (.int ou)) [(h0, .inr (5, [.ref hs, .ref hc, .int lI, .int ou, .int he, .int pc, .int df, .int tx]))]) ∧ (¬ w = 3 → Post (some (.int (-1))) [(h0, .inr (5, [.ref hs, .ref hc, .int lI, .int ou, .int he, .int pc, .int df, .int tx]))]))))))))) ∧ (he = 0 → Post (some (.int (-1))) [(h0, .inr (5, [.ref hs, .ref hc, .int lI, .int ou, .int he, .int pc, .int df, .int tx]))]))) : pz_At B 0 0 0 [(0, .ref h0), (1, .int w)] [] [(h0, .inr (5, [.ref hs, .ref hc, .int lI, .int ou, .int he, .int pc, .int df, .int tx]))] := by
  refine pz_aload_n 0 F rfl dX6_tell_0 rfl ?_
  refine pz_get (ci := 5) (C := RX6) (T := TX6) (N := 8) (v := .int he) 0 F rfl rfl pz_inX6 4 (by decide) pw_188 rfl dX6_tell_1 ?_
  refine pz_if_ne (tgt := 9) F dX6_tell_4 (by decide) (fun q_1 => ?_) (fun q_1 => ?_)
  · replace vc := vc.1 q_1
    refine pz_iload_n 1 F rfl dX6_tell_9 rfl ?_
    by_cases q_2 : w = 0
    · replace vc := vc.1 q_2
      refine pz_tsw (off := 30) (tgt := 40) F dX6_tell_10 (by rw [q_2]; decide) (by rw [q_2]; decide) (by rw [q_2]; rfl) (by decide) ?_
      refine pz_aload_n 0 F rfl dX6_tell_40 rfl ?_
      refine pz_get (ci := 5) (C := RX6) (T := TX6) (N := 8) (v := .int pc) 0 F rfl rfl pz_inX6 5 (by decide) pw_189 rfl dX6_tell_41 ?_
      exact pz_ireturn (w1 := [(h0, .inr (5, [.ref hs, .ref hc, .int lI, .int ou, .int he, .int pc, .int df, .int tx]))]) F Rt (by decide) (by decide) dX6_tell_44 [0] rfl rfl rfl vc
    · replace vc := vc.2 q_2
      by_cases q_3 : w = 1
      · replace vc := vc.1 q_3
        refine pz_tsw (off := 35) (tgt := 45) F dX6_tell_10 (by rw [q_3]; decide) (by rw [q_3]; decide) (by rw [q_3]; rfl) (by decide) ?_
        refine pz_aload_n 0 F rfl dX6_tell_45 rfl ?_
        refine pz_get (ci := 5) (C := RX6) (T := TX6) (N := 8) (v := .int df) 0 F rfl rfl pz_inX6 6 (by decide) pw_190 rfl dX6_tell_46 ?_
        exact pz_ireturn (w1 := [(h0, .inr (5, [.ref hs, .ref hc, .int lI, .int ou, .int he, .int pc, .int df, .int tx]))]) F Rt (by decide) (by decide) dX6_tell_49 [0] rfl rfl rfl vc
      · replace vc := vc.2 q_3
        by_cases q_4 : w = 2
        · replace vc := vc.1 q_4
          refine pz_tsw (off := 40) (tgt := 50) F dX6_tell_10 (by rw [q_4]; decide) (by rw [q_4]; decide) (by rw [q_4]; rfl) (by decide) ?_
          refine pz_aload_n 0 F rfl dX6_tell_50 rfl ?_
          refine pz_get (ci := 5) (C := RX6) (T := TX6) (N := 8) (v := .int tx) 0 F rfl rfl pz_inX6 7 (by decide) pw_191 rfl dX6_tell_51 ?_
          exact pz_ireturn (w1 := [(h0, .inr (5, [.ref hs, .ref hc, .int lI, .int ou, .int he, .int pc, .int df, .int tx]))]) F Rt (by decide) (by decide) dX6_tell_54 [0] rfl rfl rfl vc
        · replace vc := vc.2 q_4
          by_cases q_5 : w = 3
          · replace vc := vc.1 q_5
            refine pz_tsw (off := 45) (tgt := 55) F dX6_tell_10 (by rw [q_5]; decide) (by rw [q_5]; decide) (by rw [q_5]; rfl) (by decide) ?_
            refine pz_aload_n 0 F rfl dX6_tell_55 rfl ?_
            refine pz_get (ci := 5) (C := RX6) (T := TX6) (N := 8) (v := .int ou) 0 F rfl rfl pz_inX6 3 (by decide) pw_187 rfl dX6_tell_56 ?_
            exact pz_ireturn (w1 := [(h0, .inr (5, [.ref hs, .ref hc, .int lI, .int ou, .int he, .int pc, .int df, .int tx]))]) F Rt (by decide) (by decide) dX6_tell_59 [0] rfl rfl rfl vc
          · replace vc := vc.2 q_5
            refine pz_tswO (tgt := 60) F dX6_tell_10 (by have h0 := lv_neT (a := 0) q_2 rfl; have h1 := lv_neT (a := 1) q_3 rfl; have h2 := lv_neT (a := 2) q_4 rfl; have h3 := lv_neT (a := 3) q_5 rfl; omega) (by decide) ?_
            refine pz_iconst (v := (-1)) F dX6_tell_60 rfl ?_
            exact pz_ireturn (w1 := [(h0, .inr (5, [.ref hs, .ref hc, .int lI, .int ou, .int he, .int pc, .int df, .int tx]))]) F Rt (by decide) (by decide) dX6_tell_61 [0] rfl rfl rfl vc
  · replace vc := vc.2 q_1
    refine pz_iconst (v := (-1)) F dX6_tell_7 rfl ?_
    exact pz_ireturn (w1 := [(h0, .inr (5, [.ref hs, .ref hc, .int lI, .int ou, .int he, .int pc, .int df, .int tx]))]) F Rt (by decide) (by decide) dX6_tell_8 [0] rfl rfl rfl vc
set_option maxHeartbeats 4000000 in
set_option maxRecDepth 100000 in
theorem ctX6_tell (l : Launch) (g : pz_G) (h0 : Nat) (w : Int32) (hs : Nat) (hc : Nat) (lI : Int32) (ou : Int32) (he : Int32) (pc : Int32) (df : Int32) (tx : Int32) : pz_Ct l g yX6_tell cX6_tell 2 (some .int) rmX6_tell [.ref h0, .int w] [(h0, .inr (5, [.ref hs, .ref hc, .int lI, .int ou, .int he, .int pc, .int df, .int tx]))] (pz_pi (fun (r : Int32) (u : Unit) => r = if he = 0 then -1 else if w = 0 then pc else if w = 1 then df else if w = 2 then tx else if w = 3 then ou else -1) (fun (u : Unit) => [(h0, .inr (5, [.ref hs, .ref hc, .int lI, .int ou, .int he, .int pc, .int df, .int tx]))])) := by
  refine pz_ofAt (by decide +kernel) (Nat.le_of_ble_eq_true rfl) (fun B F Rt hme => ?_)
  refine sgX6_tell_0 F Rt h0 w hs hc lI ou he pc df tx ?_
  clear F Rt hme
  refine ⟨fun q => ?_, fun q => ⟨_, (), rfl, rfl, by rw [if_pos q]⟩⟩
  refine ⟨fun q0 => ⟨_, (), rfl, rfl, by simp only [if_neg q, if_pos q0]⟩, fun q0 => ⟨fun q1 => ⟨_, (), rfl, rfl, by simp only [if_neg q, if_neg q0, if_pos q1]⟩, fun q1 => ⟨fun q2 => ⟨_, (), rfl, rfl, by simp only [if_neg q, if_neg q0, if_neg q1, if_pos q2]⟩, fun q2 => ⟨fun q3 => ⟨_, (), rfl, rfl, by simp only [if_neg q, if_neg q0, if_neg q1, if_neg q2, if_pos q3]⟩, fun q3 => ⟨_, (), rfl, rfl, by simp only [if_neg q, if_neg q0, if_neg q1, if_neg q2, if_neg q3]⟩⟩⟩⟩⟩
abbrev rmX6_depositOf : Room := { frames := 1, cells := 0, slots := 0, locals := 21 }
set_option maxHeartbeats 4000000 in
set_option maxRecDepth 100000 in
theorem sgX6_depositOf_0 {B : pz_B} {g : pz_G} {wc : va_W} {Post : Option Value → va_W → Prop} (F : pz_F B cX6_depositOf 2 (some .int) yX6_depositOf.cls g rmX6_depositOf) (Rt : pz_Rt B g wc Post rmX6_depositOf) (c : Int32) (h5 : Nat) (h5_reader : Nat) (hi : Nat) (h5_draft : Nat) (h5_told : Nat) (h5_faultFound : Int32) (h5_faultPlace : Int32) (inf : Nat → Int32)  (vc : (3 < 9) ∧ ∀ r_2 : Int32, ∀ _ : (r_2 = inf 3), ∀ x_4 : Int32, x_4 = ((c * r_2) / 100) → Post (some (.int x_4)) [(h5, .inr (2, [.ref h5_reader, .ref hi, .ref h5_draft, .ref h5_told, .int h5_faultFound, .int h5_faultPlace])), (hi, .inl (g.2.1 1, 12, .inl inf))]) : pz_At B 0 0 0 [(0, .int c), (1, .ref h5)] [] [(h5, .inr (2, [.ref h5_reader, .ref hi, .ref h5_draft, .ref h5_told, .int h5_faultFound, .int h5_faultPlace])), (hi, .inl (g.2.1 1, 12, .inl inf))] := by
  refine pz_iload_n 0 F rfl dX6_depositOf_0 rfl ?_
  refine pz_aload_n 1 F rfl dX6_depositOf_1 rfl ?_
  refine pz_gets F (pz_line F (i := 3) (by decide)) pw_519 dX6_depositOf_2 ?_
  obtain ⟨h_1, vc⟩ := vc
  refine pz_callV (nA := 1) (ci := 2) (C := RX2) (T := TX2) (N := 6) (As := [.ref (g.2.2 3)]) (rest := [.int c]) (wr := []) F (ctX2_coins _ g h5 3 h5_reader hi h5_draft h5_told h5_faultFound h5_faultPlace inf h_1) 0 rfl rfl pw_512 pw_513 pw_514 pw_3 pw_515 (by decide +kernel) (by decide) (by decide) rfl rfl (Nat.le_of_ble_eq_true rfl) [0, 1] [] rfl rfl rfl rfl (by decide) dX6_depositOf_5 (fun r0 w0 hp0 => ?_)
  obtain ⟨r_2, _, rfl, rfl, hq_3⟩ := hp0
  replace vc := vc r_2  hq_3
  refine pz_eq (st' := [.int r_2, .int c]) (ws' := [(h5, .inr (2, [.ref h5_reader, .ref hi, .ref h5_draft, .ref h5_told, .int h5_faultFound, .int h5_faultPlace])), (hi, .inl (g.2.1 1, 12, .inl inf))]) rfl rfl ?_
  refine pz_imul F dX6_depositOf_8 ?_
  refine pz_bipush (v := 100) F dX6_depositOf_9 rfl ?_
  refine pz_idiv F (by decide) dX6_depositOf_11 ?_
  refine pz_topi (fun x_4 ex_4 => ?_)
  replace vc := vc x_4 ex_4
  exact pz_ireturn (w1 := [(h5, .inr (2, [.ref h5_reader, .ref hi, .ref h5_draft, .ref h5_told, .int h5_faultFound, .int h5_faultPlace])), (hi, .inl (g.2.1 1, 12, .inl inf))]) F Rt (by decide) (by decide) dX6_depositOf_12 [0, 1] rfl rfl rfl vc
set_option maxHeartbeats 4000000 in
set_option maxRecDepth 100000 in
theorem ctX6_depositOf (l : Launch) (g : pz_G) (c : Int32) (h5 : Nat) (h5_reader : Nat) (hi : Nat) (h5_draft : Nat) (h5_told : Nat) (h5_faultFound : Int32) (h5_faultPlace : Int32) (inf : Nat → Int32) : pz_Ct l g yX6_depositOf cX6_depositOf 2 (some .int) rmX6_depositOf [.int c, .ref h5] [(h5, .inr (2, [.ref h5_reader, .ref hi, .ref h5_draft, .ref h5_told, .int h5_faultFound, .int h5_faultPlace])), (hi, .inl (g.2.1 1, 12, .inl inf))] (pz_pi (fun (r : Int32) (u : Unit) => r = sa_dep inf c) (fun (u : Unit) => [(h5, .inr (2, [.ref h5_reader, .ref hi, .ref h5_draft, .ref h5_told, .int h5_faultFound, .int h5_faultPlace])), (hi, .inl (g.2.1 1, 12, .inl inf))])) := by
  refine pz_ofAt (by decide +kernel) (Nat.le_of_ble_eq_true rfl) (fun B F Rt hme => ?_)
  refine sgX6_depositOf_0 F Rt c h5 h5_reader hi h5_draft h5_told h5_faultFound h5_faultPlace inf ?_
  refine ⟨by omega, ?_⟩
  rintro r rfl x rfl
  exact ⟨_, (), rfl, rfl, rfl⟩
abbrev rmX6_isBarredTie : Room := { frames := 1, cells := 0, slots := 0, locals := 21 }
set_option maxHeartbeats 4000000 in
set_option maxRecDepth 100000 in
theorem sgX6_isBarredTie_0 {B : pz_B} {g : pz_G} {wc : va_W} {Post : Option Value → va_W → Prop} (F : pz_F B cX6_isBarredTie 3 (some .boolean) yX6_isBarredTie.cls g rmX6_isBarredTie) (Rt : pz_Rt B g wc Post rmX6_isBarredTie) (fi : Int32) (h0 : Nat) (hs : Nat) (hc : Nat) (lI : Int32) (ou : Int32) (he : Int32) (pc : Int32) (df : Int32) (tx : Int32) (co : Nat → Int32) (h5 : Nat) (h5_reader : Nat) (hi : Nat) (h5_draft : Nat) (h5_told : Nat) (h5_faultFound : Int32) (h5_faultPlace : Int32) (inf : Nat → Int32) (f : Nat) (n : Nat)  (vc : (1 < 9) ∧ ∀ r_2 : Int32, ∀ _ : (r_2 = if inf 1 = 1 then 1 else 0), ((r_2 = 0 → Post (some (.int 0)) [(h0, .inr (5, [.ref hs, .ref hc, .int lI, .int ou, .int he, .int pc, .int df, .int tx])), (hc, .inl (g.2.1 1, 8, .inl co)), (h5, .inr (2, [.ref h5_reader, .ref hi, .ref h5_draft, .ref h5_told, .int h5_faultFound, .int h5_faultPlace])), (hi, .inl (g.2.1 1, 12, .inl inf))]) ∧ (¬ r_2 = 0 → ((lI ≤ (fi + 1) → Post (some (.int 0)) [(h0, .inr (5, [.ref hs, .ref hc, .int lI, .int ou, .int he, .int pc, .int df, .int tx])), (hc, .inl (g.2.1 1, 8, .inl co)), (h5, .inr (2, [.ref h5_reader, .ref hi, .ref h5_draft, .ref h5_told, .int h5_faultFound, .int h5_faultPlace])), (hi, .inl (g.2.1 1, 12, .inl inf))]) ∧ (¬ lI ≤ (fi + 1) → vp_in fi 8 ∧ vp_in (fi + 1) 8 ∧ ((¬ (co fi.toNatClampNeg) = (co (fi + 1).toNatClampNeg) → Post (some (.int 0)) [(h0, .inr (5, [.ref hs, .ref hc, .int lI, .int ou, .int he, .int pc, .int df, .int tx])), (hc, .inl (g.2.1 1, 8, .inl co)), (h5, .inr (2, [.ref h5_reader, .ref hi, .ref h5_draft, .ref h5_told, .int h5_faultFound, .int h5_faultPlace])), (hi, .inl (g.2.1 1, 12, .inl inf))]) ∧ ((co fi.toNatClampNeg) = (co (fi + 1).toNatClampNeg) → Post (some (.int 1)) [(h0, .inr (5, [.ref hs, .ref hc, .int lI, .int ou, .int he, .int pc, .int df, .int tx])), (hc, .inl (g.2.1 1, 8, .inl co)), (h5, .inr (2, [.ref h5_reader, .ref hi, .ref h5_draft, .ref h5_told, .int h5_faultFound, .int h5_faultPlace])), (hi, .inl (g.2.1 1, 12, .inl inf))]))))))) : pz_At B 0 0 0 [(0, .ref h0), (1, .int fi), (2, .ref h5)] [] [(h0, .inr (5, [.ref hs, .ref hc, .int lI, .int ou, .int he, .int pc, .int df, .int tx])), (hc, .inl (g.2.1 1, 8, .inl co)), (h5, .inr (2, [.ref h5_reader, .ref hi, .ref h5_draft, .ref h5_told, .int h5_faultFound, .int h5_faultPlace])), (hi, .inl (g.2.1 1, 12, .inl inf))] := by
  refine pz_aload_n 2 F rfl dX6_isBarredTie_0 rfl ?_
  refine pz_gets F (pz_line F (i := 1) (by decide)) pw_529 dX6_isBarredTie_1 ?_
  obtain ⟨h_1, vc⟩ := vc
  refine pz_callV (nA := 1) (ci := 2) (C := RX2) (T := TX2) (N := 6) (As := [.ref (g.2.2 1)]) (rest := []) (wr := [(h0, .inr (5, [.ref hs, .ref hc, .int lI, .int ou, .int he, .int pc, .int df, .int tx])), (hc, .inl (g.2.1 1, 8, .inl co))]) F (ctX2_saysOther _ g h5 1 h5_reader hi h5_draft h5_told h5_faultFound h5_faultPlace inf h_1) 2 rfl rfl pw_531 pw_532 pw_533 pw_3 pw_534 (by decide +kernel) (by decide) (by decide) rfl rfl (Nat.le_of_ble_eq_true rfl) [2, 3] [0, 1] rfl rfl rfl rfl (by decide) dX6_isBarredTie_4 (fun r0 w0 hp0 => ?_)
  obtain ⟨r_2, _, rfl, rfl, hq_3⟩ := hp0
  replace vc := vc r_2  hq_3
  refine pz_eq (st' := [.int r_2]) (ws' := [(h0, .inr (5, [.ref hs, .ref hc, .int lI, .int ou, .int he, .int pc, .int df, .int tx])), (hc, .inl (g.2.1 1, 8, .inl co)), (h5, .inr (2, [.ref h5_reader, .ref hi, .ref h5_draft, .ref h5_told, .int h5_faultFound, .int h5_faultPlace])), (hi, .inl (g.2.1 1, 12, .inl inf))]) rfl rfl ?_
  refine pz_if_eq (tgt := 41) F dX6_isBarredTie_7 (by decide) (fun q_4 => ?_) (fun q_4 => ?_)
  · replace vc := vc.1 q_4
    refine pz_iconst (v := 0) F dX6_isBarredTie_41 rfl ?_
    exact pz_ireturn (w1 := [(h0, .inr (5, [.ref hs, .ref hc, .int lI, .int ou, .int he, .int pc, .int df, .int tx])), (hc, .inl (g.2.1 1, 8, .inl co)), (h5, .inr (2, [.ref h5_reader, .ref hi, .ref h5_draft, .ref h5_told, .int h5_faultFound, .int h5_faultPlace])), (hi, .inl (g.2.1 1, 12, .inl inf))]) F Rt (by decide) (by decide) dX6_isBarredTie_42 [0, 1, 2, 3] rfl rfl rfl vc
  · replace vc := vc.2 q_4
    refine pz_iload_n 1 F rfl dX6_isBarredTie_10 rfl ?_
    refine pz_iconst (v := 1) F dX6_isBarredTie_11 rfl ?_
    refine pz_iadd F dX6_isBarredTie_12 ?_
    refine pz_aload_n 0 F rfl dX6_isBarredTie_13 rfl ?_
    refine pz_get (ci := 5) (C := RX6) (T := TX6) (N := 8) (v := .int lI) 0 F rfl rfl pz_inX6 2 (by decide) pw_186 rfl dX6_isBarredTie_14 ?_
    refine pz_icmp_ge (tgt := 41) F dX6_isBarredTie_17 (by decide) (fun q_5 => ?_) (fun q_5 => ?_)
    · replace vc := vc.1 q_5
      refine pz_iconst (v := 0) F dX6_isBarredTie_41 rfl ?_
      exact pz_ireturn (w1 := [(h0, .inr (5, [.ref hs, .ref hc, .int lI, .int ou, .int he, .int pc, .int df, .int tx])), (hc, .inl (g.2.1 1, 8, .inl co)), (h5, .inr (2, [.ref h5_reader, .ref hi, .ref h5_draft, .ref h5_told, .int h5_faultFound, .int h5_faultPlace])), (hi, .inl (g.2.1 1, 12, .inl inf))]) F Rt (by decide) (by decide) dX6_isBarredTie_42 [0, 1, 2, 3] rfl rfl rfl vc
    · replace vc := vc.2 q_5
      refine pz_aload_n 0 F rfl dX6_isBarredTie_20 rfl ?_
      refine pz_get (ci := 5) (C := RX6) (T := TX6) (N := 8) (v := .ref hc) 0 F rfl rfl pz_inX6 1 (by decide) pw_185 rfl dX6_isBarredTie_21 ?_
      refine pz_iload_n 1 F rfl dX6_isBarredTie_24 rfl ?_
      obtain ⟨h_6, vc⟩ := vc
      refine pz_iaload 1 F rfl h_6 dX6_isBarredTie_25 ?_
      refine pz_aload_n 0 F rfl dX6_isBarredTie_26 rfl ?_
      refine pz_get (ci := 5) (C := RX6) (T := TX6) (N := 8) (v := .ref hc) 0 F rfl rfl pz_inX6 1 (by decide) pw_185 rfl dX6_isBarredTie_27 ?_
      refine pz_iload_n 1 F rfl dX6_isBarredTie_30 rfl ?_
      refine pz_iconst (v := 1) F dX6_isBarredTie_31 rfl ?_
      refine pz_iadd F dX6_isBarredTie_32 ?_
      obtain ⟨h_7, vc⟩ := vc
      refine pz_iaload 1 F rfl h_7 dX6_isBarredTie_33 ?_
      refine pz_icmp_ne (tgt := 41) F dX6_isBarredTie_34 (by decide) (fun q_8 => ?_) (fun q_8 => ?_)
      · replace vc := vc.1 q_8
        refine pz_iconst (v := 0) F dX6_isBarredTie_41 rfl ?_
        exact pz_ireturn (w1 := [(h0, .inr (5, [.ref hs, .ref hc, .int lI, .int ou, .int he, .int pc, .int df, .int tx])), (hc, .inl (g.2.1 1, 8, .inl co)), (h5, .inr (2, [.ref h5_reader, .ref hi, .ref h5_draft, .ref h5_told, .int h5_faultFound, .int h5_faultPlace])), (hi, .inl (g.2.1 1, 12, .inl inf))]) F Rt (by decide) (by decide) dX6_isBarredTie_42 [0, 1, 2, 3] rfl rfl rfl vc
      · replace vc := vc.2 q_8
        refine pz_iconst (v := 1) F dX6_isBarredTie_37 rfl ?_
        refine pz_goto (tgt := 42) F dX6_isBarredTie_38 (by decide) ?_
        exact pz_ireturn (w1 := [(h0, .inr (5, [.ref hs, .ref hc, .int lI, .int ou, .int he, .int pc, .int df, .int tx])), (hc, .inl (g.2.1 1, 8, .inl co)), (h5, .inr (2, [.ref h5_reader, .ref hi, .ref h5_draft, .ref h5_told, .int h5_faultFound, .int h5_faultPlace])), (hi, .inl (g.2.1 1, 12, .inl inf))]) F Rt (by decide) (by decide) dX6_isBarredTie_42 [0, 1, 2, 3] rfl rfl rfl vc
set_option maxHeartbeats 4000000 in
set_option maxRecDepth 100000 in
theorem ctX6_isBarredTie (l : Launch) (g : pz_G) (fi : Int32) (h0 : Nat) (hs : Nat) (hc : Nat) (lI : Int32) (ou : Int32) (he : Int32) (pc : Int32) (df : Int32) (tx : Int32) (co : Nat → Int32) (h5 : Nat) (h5_reader : Nat) (hi : Nat) (h5_draft : Nat) (h5_told : Nat) (h5_faultFound : Int32) (h5_faultPlace : Int32) (inf : Nat → Int32) (f : Nat) (n : Nat) (hpre : f < n ∧ n ≤ 8 ∧ fi = nI f ∧ lI = nI n) : pz_Ct l g yX6_isBarredTie cX6_isBarredTie 3 (some .boolean) rmX6_isBarredTie [.ref h0, .int fi, .ref h5] [(h0, .inr (5, [.ref hs, .ref hc, .int lI, .int ou, .int he, .int pc, .int df, .int tx])), (hc, .inl (g.2.1 1, 8, .inl co)), (h5, .inr (2, [.ref h5_reader, .ref hi, .ref h5_draft, .ref h5_told, .int h5_faultFound, .int h5_faultPlace])), (hi, .inl (g.2.1 1, 12, .inl inf))] (pz_pi (fun (r : Int32) (u : Unit) => (r = 1 ∧ inf 1 = 1 ∧ f + 1 < n ∧ co f = co (f + 1)) ∨ (r = 0 ∧ ¬ (inf 1 = 1 ∧ f + 1 < n ∧ co f = co (f + 1)))) (fun (u : Unit) => [(h0, .inr (5, [.ref hs, .ref hc, .int lI, .int ou, .int he, .int pc, .int df, .int tx])), (hc, .inl (g.2.1 1, 8, .inl co)), (h5, .inr (2, [.ref h5_reader, .ref hi, .ref h5_draft, .ref h5_told, .int h5_faultFound, .int h5_faultPlace])), (hi, .inl (g.2.1 1, 12, .inl inf))])) := by
  refine pz_ofAt (by decide +kernel) (Nat.le_of_ble_eq_true rfl) (fun B F Rt hme => ?_)
  obtain ⟨hf, hn8, h1, h2⟩ := hpre
  subst h1; subst h2
  refine sgX6_isBarredTie_0 F Rt (nI f) h0 hs hc (nI n) ou he pc df tx co h5 h5_reader hi h5_draft h5_told h5_faultFound h5_faultPlace inf f n ?_
  refine ⟨by omega, fun r hr => ⟨fun q => ?_, fun q => ?_⟩⟩
  · refine ⟨_, (), rfl, rfl, Or.inr ⟨rfl, fun h => ?_⟩⟩
    rw [if_pos h.1] at hr
    rw [hr] at q
    exact absurd q (by decide)
  · have h1 : inf 1 = 1 := by
      by_cases h : inf 1 = 1
      · exact h
      · rw [if_neg h] at hr; exact absurd hr q
    rw [nI_1]
    refine ⟨fun q2 => ?_, fun q2 => ?_⟩
    · have h2 := pu_ge (by omega) q2
      exact ⟨_, (), rfl, rfl, Or.inr ⟨rfl, fun h => absurd h.2.1 (by omega)⟩⟩
    · have h2 := pu_lt (n := n) (j := f + 1) (by omega) (by omega) q2
      rw [nI_clamp (by omega), nI_clamp (by omega)]
      refine ⟨vp_in_nI (by omega) (by omega), vp_in_nI (by omega) (by omega), fun q3 => ?_, fun q3 => ?_⟩
      · exact ⟨_, (), rfl, rfl, Or.inr ⟨rfl, fun h => q3 h.2.2⟩⟩
      · exact ⟨_, (), rfl, rfl, Or.inl ⟨rfl, h1, h2, q3⟩⟩
abbrev rmX6_priceFor : Room := { frames := 1, cells := 0, slots := 0, locals := 28 }
set_option maxHeartbeats 4000000 in
set_option maxRecDepth 100000 in
theorem sgX6_priceFor_0 {B : pz_B} {g : pz_G} {wc : va_W} {Post : Option Value → va_W → Prop} (F : pz_F B cX6_priceFor 4 (some .int) yX6_priceFor.cls g rmX6_priceFor) (Rt : pz_Rt B g wc Post rmX6_priceFor) (fi : Int32) (h0 : Nat) (hs : Nat) (hc : Nat) (lI : Int32) (ou : Int32) (he : Int32) (pc : Int32) (df : Int32) (tx : Int32) (co : Nat → Int32) (h5 : Nat) (h5_reader : Nat) (hi : Nat) (h5_draft : Nat) (h5_told : Nat) (h5_faultFound : Int32) (h5_faultPlace : Int32) (inf : Nat → Int32) (f : Nat) (n : Nat)  (vc : (0 < 9) ∧ ∀ r_2 : Int32, ∀ _ : (r_2 = if inf 0 = 1 then 1 else 0), ((¬ r_2 = 0 → ((lI ≤ (fi + 1) → (4 < 9) ∧ ∀ r_7 : Int32, ∀ _ : (r_7 = inf 4), ∀ x_9 : Int32, x_9 = (if 1 < r_7 then r_7 else 1) → Post (some (.int x_9)) [(h0, .inr (5, [.ref hs, .ref hc, .int lI, .int ou, .int he, .int pc, .int df, .int tx])), (hc, .inl (g.2.1 1, 8, .inl co)), (h5, .inr (2, [.ref h5_reader, .ref hi, .ref h5_draft, .ref h5_told, .int h5_faultFound, .int h5_faultPlace])), (hi, .inl (g.2.1 1, 12, .inl inf))]) ∧ (¬ lI ≤ (fi + 1) → vp_in (fi + 1) 8 ∧ ∀ x_11 : Int32, x_11 = (co (fi + 1).toNatClampNeg) → (4 < 9) ∧ ∀ r_13 : Int32, ∀ _ : (r_13 = inf 4), ∀ x_15 : Int32, x_15 = (if x_11 < r_13 then r_13 else x_11) → Post (some (.int x_15)) [(h0, .inr (5, [.ref hs, .ref hc, .int lI, .int ou, .int he, .int pc, .int df, .int tx])), (hc, .inl (g.2.1 1, 8, .inl co)), (h5, .inr (2, [.ref h5_reader, .ref hi, .ref h5_draft, .ref h5_told, .int h5_faultFound, .int h5_faultPlace])), (hi, .inl (g.2.1 1, 12, .inl inf))]))) ∧ (r_2 = 0 → vp_in fi 8 ∧ ∀ x_17 : Int32, x_17 = (co fi.toNatClampNeg) → Post (some (.int x_17)) [(h0, .inr (5, [.ref hs, .ref hc, .int lI, .int ou, .int he, .int pc, .int df, .int tx])), (hc, .inl (g.2.1 1, 8, .inl co)), (h5, .inr (2, [.ref h5_reader, .ref hi, .ref h5_draft, .ref h5_told, .int h5_faultFound, .int h5_faultPlace])), (hi, .inl (g.2.1 1, 12, .inl inf))]))) : pz_At B 0 0 0 [(0, .ref h0), (1, .int fi), (2, .ref h5)] [] [(h0, .inr (5, [.ref hs, .ref hc, .int lI, .int ou, .int he, .int pc, .int df, .int tx])), (hc, .inl (g.2.1 1, 8, .inl co)), (h5, .inr (2, [.ref h5_reader, .ref hi, .ref h5_draft, .ref h5_told, .int h5_faultFound, .int h5_faultPlace])), (hi, .inl (g.2.1 1, 12, .inl inf))] := by
  refine pz_aload_n 2 F rfl dX6_priceFor_0 rfl ?_
  refine pz_gets F (pz_line F (i := 0) (by decide)) pw_539 dX6_priceFor_1 ?_
  obtain ⟨h_1, vc⟩ := vc
  refine pz_callV (nA := 1) (ci := 2) (C := RX2) (T := TX2) (N := 6) (As := [.ref (g.2.2 0)]) (rest := []) (wr := [(h0, .inr (5, [.ref hs, .ref hc, .int lI, .int ou, .int he, .int pc, .int df, .int tx])), (hc, .inl (g.2.1 1, 8, .inl co))]) F (ctX2_saysOther _ g h5 0 h5_reader hi h5_draft h5_told h5_faultFound h5_faultPlace inf h_1) 2 rfl rfl pw_531 pw_532 pw_533 pw_3 pw_534 (by decide +kernel) (by decide) (by decide) rfl rfl (Nat.le_of_ble_eq_true rfl) [2, 3] [0, 1] rfl rfl rfl rfl (by decide) dX6_priceFor_4 (fun r0 w0 hp0 => ?_)
  obtain ⟨r_2, _, rfl, rfl, hq_3⟩ := hp0
  replace vc := vc r_2  hq_3
  refine pz_eq (st' := [.int r_2]) (ws' := [(h0, .inr (5, [.ref hs, .ref hc, .int lI, .int ou, .int he, .int pc, .int df, .int tx])), (hc, .inl (g.2.1 1, 8, .inl co)), (h5, .inr (2, [.ref h5_reader, .ref hi, .ref h5_draft, .ref h5_told, .int h5_faultFound, .int h5_faultPlace])), (hi, .inl (g.2.1 1, 12, .inl inf))]) rfl rfl ?_
  refine pz_if_ne (tgt := 17) F dX6_priceFor_7 (by decide) (fun q_4 => ?_) (fun q_4 => ?_)
  · replace vc := vc.1 q_4
    refine pz_iload_n 1 F rfl dX6_priceFor_17 rfl ?_
    refine pz_iconst (v := 1) F dX6_priceFor_18 rfl ?_
    refine pz_iadd F dX6_priceFor_19 ?_
    refine pz_aload_n 0 F rfl dX6_priceFor_20 rfl ?_
    refine pz_get (ci := 5) (C := RX6) (T := TX6) (N := 8) (v := .int lI) 0 F rfl rfl pz_inX6 2 (by decide) pw_186 rfl dX6_priceFor_21 ?_
    refine pz_icmp_ge (tgt := 38) F dX6_priceFor_24 (by decide) (fun q_5 => ?_) (fun q_5 => ?_)
    · replace vc := vc.1 q_5
      refine pz_iconst (v := 1) F dX6_priceFor_38 rfl ?_
      refine pz_istore_n (lv' := [(3, .int 1), (0, .ref h0), (1, .int fi), (2, .ref h5)]) F dX6_priceFor_39 rfl (by decide) rfl ?_
      refine pz_iload_n 0 F rfl dX6_priceFor_40 rfl ?_
      refine pz_aload_n 3 F rfl dX6_priceFor_41 rfl ?_
      refine pz_gets F (pz_line F (i := 4) (by decide)) pw_510 dX6_priceFor_42 ?_
      obtain ⟨h_6, vc⟩ := vc
      refine pz_callV (nA := 1) (ci := 2) (C := RX2) (T := TX2) (N := 6) (As := [.ref (g.2.2 4)]) (rest := [.int 1]) (wr := [(h0, .inr (5, [.ref hs, .ref hc, .int lI, .int ou, .int he, .int pc, .int df, .int tx])), (hc, .inl (g.2.1 1, 8, .inl co))]) F (ctX2_coins _ g h5 4 h5_reader hi h5_draft h5_told h5_faultFound h5_faultPlace inf h_6) 2 rfl rfl pw_512 pw_513 pw_514 pw_3 pw_515 (by decide +kernel) (by decide) (by decide) rfl rfl (Nat.le_of_ble_eq_true rfl) [2, 3] [0, 1] rfl rfl rfl rfl (by decide) dX6_priceFor_45 (fun r0 w0 hp0 => ?_)
      obtain ⟨r_7, _, rfl, rfl, hq_8⟩ := hp0
      replace vc := vc r_7  hq_8
      refine pz_eq (st' := [.int r_7, .int 1]) (ws' := [(h0, .inr (5, [.ref hs, .ref hc, .int lI, .int ou, .int he, .int pc, .int df, .int tx])), (hc, .inl (g.2.1 1, 8, .inl co)), (h5, .inr (2, [.ref h5_reader, .ref hi, .ref h5_draft, .ref h5_told, .int h5_faultFound, .int h5_faultPlace])), (hi, .inl (g.2.1 1, 12, .inl inf))]) rfl rfl ?_
      refine pz_mmax F pw_541 pw_542 pw_9 pw_543 ⟨Nat.le_of_ble_eq_true rfl, Nat.le_of_ble_eq_true rfl⟩ (by decide) dX6_priceFor_48 ?_
      refine pz_topi (fun x_9 ex_9 => ?_)
      replace vc := vc x_9 ex_9
      exact pz_ireturn (w1 := [(h0, .inr (5, [.ref hs, .ref hc, .int lI, .int ou, .int he, .int pc, .int df, .int tx])), (hc, .inl (g.2.1 1, 8, .inl co)), (h5, .inr (2, [.ref h5_reader, .ref hi, .ref h5_draft, .ref h5_told, .int h5_faultFound, .int h5_faultPlace])), (hi, .inl (g.2.1 1, 12, .inl inf))]) F Rt (by decide) (by decide) dX6_priceFor_51 [0, 1, 2, 3] rfl rfl rfl vc
    · replace vc := vc.2 q_5
      refine pz_aload_n 0 F rfl dX6_priceFor_27 rfl ?_
      refine pz_get (ci := 5) (C := RX6) (T := TX6) (N := 8) (v := .ref hc) 0 F rfl rfl pz_inX6 1 (by decide) pw_185 rfl dX6_priceFor_28 ?_
      refine pz_iload_n 1 F rfl dX6_priceFor_31 rfl ?_
      refine pz_iconst (v := 1) F dX6_priceFor_32 rfl ?_
      refine pz_iadd F dX6_priceFor_33 ?_
      obtain ⟨h_10, vc⟩ := vc
      refine pz_iaload 1 F rfl h_10 dX6_priceFor_34 ?_
      refine pz_goto (tgt := 39) F dX6_priceFor_35 (by decide) ?_
      refine pz_topi (fun x_11 ex_11 => ?_)
      replace vc := vc x_11 ex_11
      refine pz_istore_n (lv' := [(3, .int x_11), (0, .ref h0), (1, .int fi), (2, .ref h5)]) F dX6_priceFor_39 rfl (by decide) rfl ?_
      refine pz_iload_n 0 F rfl dX6_priceFor_40 rfl ?_
      refine pz_aload_n 3 F rfl dX6_priceFor_41 rfl ?_
      refine pz_gets F (pz_line F (i := 4) (by decide)) pw_510 dX6_priceFor_42 ?_
      obtain ⟨h_12, vc⟩ := vc
      refine pz_callV (nA := 1) (ci := 2) (C := RX2) (T := TX2) (N := 6) (As := [.ref (g.2.2 4)]) (rest := [.int x_11]) (wr := [(h0, .inr (5, [.ref hs, .ref hc, .int lI, .int ou, .int he, .int pc, .int df, .int tx])), (hc, .inl (g.2.1 1, 8, .inl co))]) F (ctX2_coins _ g h5 4 h5_reader hi h5_draft h5_told h5_faultFound h5_faultPlace inf h_12) 2 rfl rfl pw_512 pw_513 pw_514 pw_3 pw_515 (by decide +kernel) (by decide) (by decide) rfl rfl (Nat.le_of_ble_eq_true rfl) [2, 3] [0, 1] rfl rfl rfl rfl (by decide) dX6_priceFor_45 (fun r0 w0 hp0 => ?_)
      obtain ⟨r_13, _, rfl, rfl, hq_14⟩ := hp0
      replace vc := vc r_13  hq_14
      refine pz_eq (st' := [.int r_13, .int x_11]) (ws' := [(h0, .inr (5, [.ref hs, .ref hc, .int lI, .int ou, .int he, .int pc, .int df, .int tx])), (hc, .inl (g.2.1 1, 8, .inl co)), (h5, .inr (2, [.ref h5_reader, .ref hi, .ref h5_draft, .ref h5_told, .int h5_faultFound, .int h5_faultPlace])), (hi, .inl (g.2.1 1, 12, .inl inf))]) rfl rfl ?_
      refine pz_mmax F pw_541 pw_542 pw_9 pw_543 ⟨Nat.le_of_ble_eq_true rfl, Nat.le_of_ble_eq_true rfl⟩ (by decide) dX6_priceFor_48 ?_
      refine pz_topi (fun x_15 ex_15 => ?_)
      replace vc := vc x_15 ex_15
      exact pz_ireturn (w1 := [(h0, .inr (5, [.ref hs, .ref hc, .int lI, .int ou, .int he, .int pc, .int df, .int tx])), (hc, .inl (g.2.1 1, 8, .inl co)), (h5, .inr (2, [.ref h5_reader, .ref hi, .ref h5_draft, .ref h5_told, .int h5_faultFound, .int h5_faultPlace])), (hi, .inl (g.2.1 1, 12, .inl inf))]) F Rt (by decide) (by decide) dX6_priceFor_51 [0, 1, 2, 3] rfl rfl rfl vc
  · replace vc := vc.2 q_4
    refine pz_aload_n 0 F rfl dX6_priceFor_10 rfl ?_
    refine pz_get (ci := 5) (C := RX6) (T := TX6) (N := 8) (v := .ref hc) 0 F rfl rfl pz_inX6 1 (by decide) pw_185 rfl dX6_priceFor_11 ?_
    refine pz_iload_n 1 F rfl dX6_priceFor_14 rfl ?_
    obtain ⟨h_16, vc⟩ := vc
    refine pz_iaload 1 F rfl h_16 dX6_priceFor_15 ?_
    refine pz_topi (fun x_17 ex_17 => ?_)
    replace vc := vc x_17 ex_17
    exact pz_ireturn (w1 := [(h0, .inr (5, [.ref hs, .ref hc, .int lI, .int ou, .int he, .int pc, .int df, .int tx])), (hc, .inl (g.2.1 1, 8, .inl co)), (h5, .inr (2, [.ref h5_reader, .ref hi, .ref h5_draft, .ref h5_told, .int h5_faultFound, .int h5_faultPlace])), (hi, .inl (g.2.1 1, 12, .inl inf))]) F Rt (by decide) (by decide) dX6_priceFor_16 [0, 1, 2, 3] rfl rfl rfl vc
set_option maxHeartbeats 4000000 in
set_option maxRecDepth 100000 in
theorem ctX6_priceFor (l : Launch) (g : pz_G) (fi : Int32) (h0 : Nat) (hs : Nat) (hc : Nat) (lI : Int32) (ou : Int32) (he : Int32) (pc : Int32) (df : Int32) (tx : Int32) (co : Nat → Int32) (h5 : Nat) (h5_reader : Nat) (hi : Nat) (h5_draft : Nat) (h5_told : Nat) (h5_faultFound : Int32) (h5_faultPlace : Int32) (inf : Nat → Int32) (f : Nat) (n : Nat) (hpre : f < n ∧ n ≤ 8 ∧ fi = nI f ∧ lI = nI n) : pz_Ct l g yX6_priceFor cX6_priceFor 4 (some .int) rmX6_priceFor [.ref h0, .int fi, .ref h5] [(h0, .inr (5, [.ref hs, .ref hc, .int lI, .int ou, .int he, .int pc, .int df, .int tx])), (hc, .inl (g.2.1 1, 8, .inl co)), (h5, .inr (2, [.ref h5_reader, .ref hi, .ref h5_draft, .ref h5_told, .int h5_faultFound, .int h5_faultPlace])), (hi, .inl (g.2.1 1, 12, .inl inf))] (pz_pi (fun (r : Int32) (u : Unit) => r = sa_ask inf co f n) (fun (u : Unit) => [(h0, .inr (5, [.ref hs, .ref hc, .int lI, .int ou, .int he, .int pc, .int df, .int tx])), (hc, .inl (g.2.1 1, 8, .inl co)), (h5, .inr (2, [.ref h5_reader, .ref hi, .ref h5_draft, .ref h5_told, .int h5_faultFound, .int h5_faultPlace])), (hi, .inl (g.2.1 1, 12, .inl inf))])) := by
  refine pz_ofAt (by decide +kernel) (Nat.le_of_ble_eq_true rfl) (fun B F Rt hme => ?_)
  obtain ⟨hf, hn8, h1, h2⟩ := hpre
  subst h1; subst h2
  refine sgX6_priceFor_0 F Rt (nI f) h0 hs hc (nI n) ou he pc df tx co h5 h5_reader hi h5_draft h5_told h5_faultFound h5_faultPlace inf f n ?_
  refine ⟨by omega, fun r hr => ⟨fun q => ?_, fun q => ?_⟩⟩
  · have h1 : inf 0 = 1 := by
      by_cases h : inf 0 = 1
      · exact h
      · rw [if_neg h] at hr; exact absurd hr q
    rw [nI_1]
    refine ⟨fun q2 => ?_, fun q2 => ?_⟩
    · have h2 := pu_ge (by omega) q2
      refine ⟨by omega, fun r2 hr2 => ?_⟩
      rintro x rfl
      refine ⟨_, (), rfl, rfl, ?_⟩
      unfold sa_ask
      rw [if_pos h1, if_neg (c := f + 1 < n) (by omega), hr2]
    · have h2 := pu_lt (n := n) (j := f + 1) (by omega) (by omega) q2
      rw [nI_clamp (by omega)]
      refine ⟨vp_in_nI (by omega) (by omega), ?_⟩
      rintro y rfl
      refine ⟨by omega, fun r2 hr2 => ?_⟩
      rintro x rfl
      refine ⟨_, (), rfl, rfl, ?_⟩
      unfold sa_ask
      rw [if_pos h1, if_pos (c := f + 1 < n) h2, hr2]
  · have h1 : ¬ inf 0 = 1 := by
      intro h
      rw [if_pos h] at hr
      rw [hr] at q
      exact absurd q (by decide)
    rw [nI_clamp (by omega)]
    refine ⟨vp_in_nI (by omega) (by omega), ?_⟩
    rintro x rfl
    refine ⟨_, (), rfl, rfl, ?_⟩
    unfold sa_ask
    rw [if_neg h1]
abbrev rmX6_rank : Room := { frames := 0, cells := 0, slots := 0, locals := 0 }
abbrev paX6_rank_15 (B : pz_B) (g : pz_G) (m : Int32) (su : Int32) (h0 : Nat) (hs : Nat) (hc : Nat) (lI : Int32) (ou : Int32) (he : Int32) (pc : Int32) (df : Int32) (tx : Int32) (bb : Nat → Int32) (co : Nat → Int32) (n : Nat) (at_ : Int32) (b1 : Nat → Int32) (c1 : Nat → Int32) : Prop := pz_At B 0 0 15 [(0, .ref h0), (1, .int m), (2, .int su), (3, .int at_)] [] [(h0, .inr (5, [.ref hs, .ref hc, .int lI, .int ou, .int he, .int pc, .int df, .int tx])), (hs, .inl (g.2.1 1, 8, .inl b1)), (hc, .inl (g.2.1 1, 8, .inl c1))]
set_option maxHeartbeats 4000000 in
set_option maxRecDepth 100000 in
theorem sgX6_rank_0 {B : pz_B} {g : pz_G} {wc : va_W} {Post : Option Value → va_W → Prop} (F : pz_F B cX6_rank 4 none yX6_rank.cls g rmX6_rank) (Rt : pz_Rt B g wc Post rmX6_rank) (m : Int32) (su : Int32) (h0 : Nat) (hs : Nat) (hc : Nat) (lI : Int32) (ou : Int32) (he : Int32) (pc : Int32) (df : Int32) (tx : Int32) (bb : Nat → Int32) (co : Nat → Int32) (n : Nat) (T15 : Int32 → (Nat → Int32) → (Nat → Int32) → Prop) (hT15 : ∀ (at_ : Int32) (b1 : Nat → Int32) (c1 : Nat → Int32), T15 at_ b1 c1 → paX6_rank_15 B g m su h0 hs hc lI ou he pc df tx bb co n at_ b1 c1)  (vc : ((lI < 8 → T15 lI bb co) ∧ (¬ lI < 8 → Post none [(h0, .inr (5, [.ref hs, .ref hc, .int lI, .int ou, .int he, .int pc, .int df, .int tx])), (hs, .inl (g.2.1 1, 8, .inl bb)), (hc, .inl (g.2.1 1, 8, .inl co))]))) : pz_At B 0 0 0 [(0, .ref h0), (1, .int m), (2, .int su)] [] [(h0, .inr (5, [.ref hs, .ref hc, .int lI, .int ou, .int he, .int pc, .int df, .int tx])), (hs, .inl (g.2.1 1, 8, .inl bb)), (hc, .inl (g.2.1 1, 8, .inl co))] := by
  refine pz_aload_n 0 F rfl dX6_rank_0 rfl ?_
  refine pz_get (ci := 5) (C := RX6) (T := TX6) (N := 8) (v := .int lI) 0 F rfl rfl pz_inX6 2 (by decide) pw_186 rfl dX6_rank_1 ?_
  refine pz_bipush (v := 8) F dX6_rank_4 rfl ?_
  refine pz_icmp_lt (tgt := 10) F dX6_rank_6 (by decide) (fun q_1 => ?_) (fun q_1 => ?_)
  · replace vc := vc.1 q_1
    refine pz_aload_n 0 F rfl dX6_rank_10 rfl ?_
    refine pz_get (ci := 5) (C := RX6) (T := TX6) (N := 8) (v := .int lI) 0 F rfl rfl pz_inX6 2 (by decide) pw_186 rfl dX6_rank_11 ?_
    refine pz_istore_n (lv' := [(3, .int lI), (0, .ref h0), (1, .int m), (2, .int su)]) F dX6_rank_14 rfl (by decide) rfl ?_
    exact pz_sub [1, 2, 3, 0] [0, 1, 2] rfl rfl rfl (hT15 lI bb co vc)
  · replace vc := vc.2 q_1
    exact pz_return (w1 := [(h0, .inr (5, [.ref hs, .ref hc, .int lI, .int ou, .int he, .int pc, .int df, .int tx])), (hs, .inl (g.2.1 1, 8, .inl bb)), (hc, .inl (g.2.1 1, 8, .inl co))]) F Rt (by decide) (by decide) dX6_rank_9 [0, 1, 2] rfl rfl vc
set_option maxHeartbeats 4000000 in
set_option maxRecDepth 100000 in
theorem sgX6_rank_15 {B : pz_B} {g : pz_G} {wc : va_W} {Post : Option Value → va_W → Prop} (F : pz_F B cX6_rank 4 none yX6_rank.cls g rmX6_rank) (Rt : pz_Rt B g wc Post rmX6_rank) (m : Int32) (su : Int32) (h0 : Nat) (hs : Nat) (hc : Nat) (lI : Int32) (ou : Int32) (he : Int32) (pc : Int32) (df : Int32) (tx : Int32) (bb : Nat → Int32) (co : Nat → Int32) (n : Nat) (T15 : Int32 → (Nat → Int32) → (Nat → Int32) → Prop) (hT15 : ∀ (at_ : Int32) (b1 : Nat → Int32) (c1 : Nat → Int32), T15 at_ b1 c1 → paX6_rank_15 B g m su h0 hs hc lI ou he pc df tx bb co n at_ b1 c1) (at_ : Int32) (b1 : Nat → Int32) (c1 : Nat → Int32) (vc : ((at_ ≤ 0 → vp_in at_ 8 ∧ ∀ f_3 : Nat → Int32, f_3 = upd c1 at_.toNatClampNeg su → vp_in at_ 8 ∧ ∀ f_5 : Nat → Int32, f_5 = upd b1 at_.toNatClampNeg m → ∀ x_6 : Int32, x_6 = (lI + 1) → Post none [(h0, .inr (5, [.ref hs, .ref hc, .int x_6, .int ou, .int he, .int pc, .int df, .int tx])), (hs, .inl (g.2.1 1, 8, .inl f_5)), (hc, .inl (g.2.1 1, 8, .inl f_3))]) ∧ (¬ at_ ≤ 0 → vp_in (at_ - 1) 8 ∧ ((su ≤ (c1 (at_ - 1).toNatClampNeg) → vp_in at_ 8 ∧ ∀ f_10 : Nat → Int32, f_10 = upd c1 at_.toNatClampNeg su → vp_in at_ 8 ∧ ∀ f_12 : Nat → Int32, f_12 = upd b1 at_.toNatClampNeg m → ∀ x_13 : Int32, x_13 = (lI + 1) → Post none [(h0, .inr (5, [.ref hs, .ref hc, .int x_13, .int ou, .int he, .int pc, .int df, .int tx])), (hs, .inl (g.2.1 1, 8, .inl f_12)), (hc, .inl (g.2.1 1, 8, .inl f_10))]) ∧ (¬ su ≤ (c1 (at_ - 1).toNatClampNeg) → vp_in (at_ - 1) 8 ∧ ∀ x_15 : Int32, x_15 = (c1 (at_ - 1).toNatClampNeg) → vp_in at_ 8 ∧ ∀ f_17 : Nat → Int32, f_17 = upd c1 at_.toNatClampNeg x_15 → vp_in (at_ - 1) 8 ∧ ∀ x_19 : Int32, x_19 = (b1 (at_ - 1).toNatClampNeg) → vp_in at_ 8 ∧ ∀ f_21 : Nat → Int32, f_21 = upd b1 at_.toNatClampNeg x_19 → ∀ x_22 : Int32, x_22 = at_ + (-1) → T15 x_22 f_21 f_17))))) : pz_At B 0 0 15 [(0, .ref h0), (1, .int m), (2, .int su), (3, .int at_)] [] [(h0, .inr (5, [.ref hs, .ref hc, .int lI, .int ou, .int he, .int pc, .int df, .int tx])), (hs, .inl (g.2.1 1, 8, .inl b1)), (hc, .inl (g.2.1 1, 8, .inl c1))] := by
  refine pz_iload_n 3 F rfl dX6_rank_15 rfl ?_
  refine pz_if_le (tgt := 65) F dX6_rank_16 (by decide) (fun q_1 => ?_) (fun q_1 => ?_)
  · replace vc := vc.1 q_1
    refine pz_aload_n 0 F rfl dX6_rank_65 rfl ?_
    refine pz_get (ci := 5) (C := RX6) (T := TX6) (N := 8) (v := .ref hc) 0 F rfl rfl pz_inX6 1 (by decide) pw_185 rfl dX6_rank_66 ?_
    refine pz_iload_n 3 F rfl dX6_rank_69 rfl ?_
    refine pz_iload_n 2 F rfl dX6_rank_70 rfl ?_
    obtain ⟨h_2, vc⟩ := vc
    obtain ⟨f_3, ef_3⟩ : ∃ z : Nat → Int32, z = upd c1 at_.toNatClampNeg su := ⟨_, rfl⟩
    replace vc := vc f_3 ef_3
    refine pz_iastore (ws' := [(h0, .inr (5, [.ref hs, .ref hc, .int lI, .int ou, .int he, .int pc, .int df, .int tx])), (hs, .inl (g.2.1 1, 8, .inl b1)), (hc, .inl (g.2.1 1, 8, .inl f_3))]) F 2 rfl h_2 dX6_rank_71 (by rw [ef_3]; rfl) ?_
    refine pz_aload_n 0 F rfl dX6_rank_72 rfl ?_
    refine pz_get (ci := 5) (C := RX6) (T := TX6) (N := 8) (v := .ref hs) 0 F rfl rfl pz_inX6 0 (by decide) pw_184 rfl dX6_rank_73 ?_
    refine pz_iload_n 3 F rfl dX6_rank_76 rfl ?_
    refine pz_iload_n 1 F rfl dX6_rank_77 rfl ?_
    obtain ⟨h_4, vc⟩ := vc
    obtain ⟨f_5, ef_5⟩ : ∃ z : Nat → Int32, z = upd b1 at_.toNatClampNeg m := ⟨_, rfl⟩
    replace vc := vc f_5 ef_5
    refine pz_iastore (ws' := [(h0, .inr (5, [.ref hs, .ref hc, .int lI, .int ou, .int he, .int pc, .int df, .int tx])), (hs, .inl (g.2.1 1, 8, .inl f_5)), (hc, .inl (g.2.1 1, 8, .inl f_3))]) F 1 rfl h_4 dX6_rank_78 (by rw [ef_5]; rfl) ?_
    refine pz_aload_n 0 F rfl dX6_rank_79 rfl ?_
    refine pz_dup F dX6_rank_80 rfl ?_
    refine pz_get (ci := 5) (C := RX6) (T := TX6) (N := 8) (v := .int lI) 0 F rfl rfl pz_inX6 2 (by decide) pw_186 rfl dX6_rank_81 ?_
    refine pz_iconst (v := 1) F dX6_rank_84 rfl ?_
    refine pz_iadd F dX6_rank_85 ?_
    refine pz_topi (fun x_6 ex_6 => ?_)
    replace vc := vc x_6 ex_6
    refine pz_put (ws' := [(h0, .inr (5, [.ref hs, .ref hc, .int x_6, .int ou, .int he, .int pc, .int df, .int tx])), (hs, .inl (g.2.1 1, 8, .inl f_5)), (hc, .inl (g.2.1 1, 8, .inl f_3))]) (ci := 5) (C := RX6) (T := TX6) (N := 8) (v := .int x_6) (ty := .int) 0 F rfl rfl pz_inX6 2 (by decide) pw_186 tyX6_ok nmX6 rfl rfl rfl rfl (Nat.le_of_ble_eq_true rfl) dX6_rank_86 rfl ?_
    exact pz_return (w1 := [(h0, .inr (5, [.ref hs, .ref hc, .int x_6, .int ou, .int he, .int pc, .int df, .int tx])), (hs, .inl (g.2.1 1, 8, .inl f_5)), (hc, .inl (g.2.1 1, 8, .inl f_3))]) F Rt (by decide) (by decide) dX6_rank_89 [0, 1, 2] rfl rfl vc
  · replace vc := vc.2 q_1
    refine pz_aload_n 0 F rfl dX6_rank_19 rfl ?_
    refine pz_get (ci := 5) (C := RX6) (T := TX6) (N := 8) (v := .ref hc) 0 F rfl rfl pz_inX6 1 (by decide) pw_185 rfl dX6_rank_20 ?_
    refine pz_iload_n 3 F rfl dX6_rank_23 rfl ?_
    refine pz_iconst (v := 1) F dX6_rank_24 rfl ?_
    refine pz_isub F dX6_rank_25 ?_
    obtain ⟨h_7, vc⟩ := vc
    refine pz_iaload 2 F rfl h_7 dX6_rank_26 ?_
    refine pz_iload_n 2 F rfl dX6_rank_27 rfl ?_
    refine pz_icmp_ge (tgt := 65) F dX6_rank_28 (by decide) (fun q_8 => ?_) (fun q_8 => ?_)
    · replace vc := vc.1 q_8
      refine pz_aload_n 0 F rfl dX6_rank_65 rfl ?_
      refine pz_get (ci := 5) (C := RX6) (T := TX6) (N := 8) (v := .ref hc) 0 F rfl rfl pz_inX6 1 (by decide) pw_185 rfl dX6_rank_66 ?_
      refine pz_iload_n 3 F rfl dX6_rank_69 rfl ?_
      refine pz_iload_n 2 F rfl dX6_rank_70 rfl ?_
      obtain ⟨h_9, vc⟩ := vc
      obtain ⟨f_10, ef_10⟩ : ∃ z : Nat → Int32, z = upd c1 at_.toNatClampNeg su := ⟨_, rfl⟩
      replace vc := vc f_10 ef_10
      refine pz_iastore (ws' := [(h0, .inr (5, [.ref hs, .ref hc, .int lI, .int ou, .int he, .int pc, .int df, .int tx])), (hs, .inl (g.2.1 1, 8, .inl b1)), (hc, .inl (g.2.1 1, 8, .inl f_10))]) F 2 rfl h_9 dX6_rank_71 (by rw [ef_10]; rfl) ?_
      refine pz_aload_n 0 F rfl dX6_rank_72 rfl ?_
      refine pz_get (ci := 5) (C := RX6) (T := TX6) (N := 8) (v := .ref hs) 0 F rfl rfl pz_inX6 0 (by decide) pw_184 rfl dX6_rank_73 ?_
      refine pz_iload_n 3 F rfl dX6_rank_76 rfl ?_
      refine pz_iload_n 1 F rfl dX6_rank_77 rfl ?_
      obtain ⟨h_11, vc⟩ := vc
      obtain ⟨f_12, ef_12⟩ : ∃ z : Nat → Int32, z = upd b1 at_.toNatClampNeg m := ⟨_, rfl⟩
      replace vc := vc f_12 ef_12
      refine pz_iastore (ws' := [(h0, .inr (5, [.ref hs, .ref hc, .int lI, .int ou, .int he, .int pc, .int df, .int tx])), (hs, .inl (g.2.1 1, 8, .inl f_12)), (hc, .inl (g.2.1 1, 8, .inl f_10))]) F 1 rfl h_11 dX6_rank_78 (by rw [ef_12]; rfl) ?_
      refine pz_aload_n 0 F rfl dX6_rank_79 rfl ?_
      refine pz_dup F dX6_rank_80 rfl ?_
      refine pz_get (ci := 5) (C := RX6) (T := TX6) (N := 8) (v := .int lI) 0 F rfl rfl pz_inX6 2 (by decide) pw_186 rfl dX6_rank_81 ?_
      refine pz_iconst (v := 1) F dX6_rank_84 rfl ?_
      refine pz_iadd F dX6_rank_85 ?_
      refine pz_topi (fun x_13 ex_13 => ?_)
      replace vc := vc x_13 ex_13
      refine pz_put (ws' := [(h0, .inr (5, [.ref hs, .ref hc, .int x_13, .int ou, .int he, .int pc, .int df, .int tx])), (hs, .inl (g.2.1 1, 8, .inl f_12)), (hc, .inl (g.2.1 1, 8, .inl f_10))]) (ci := 5) (C := RX6) (T := TX6) (N := 8) (v := .int x_13) (ty := .int) 0 F rfl rfl pz_inX6 2 (by decide) pw_186 tyX6_ok nmX6 rfl rfl rfl rfl (Nat.le_of_ble_eq_true rfl) dX6_rank_86 rfl ?_
      exact pz_return (w1 := [(h0, .inr (5, [.ref hs, .ref hc, .int x_13, .int ou, .int he, .int pc, .int df, .int tx])), (hs, .inl (g.2.1 1, 8, .inl f_12)), (hc, .inl (g.2.1 1, 8, .inl f_10))]) F Rt (by decide) (by decide) dX6_rank_89 [0, 1, 2] rfl rfl vc
    · replace vc := vc.2 q_8
      refine pz_aload_n 0 F rfl dX6_rank_31 rfl ?_
      refine pz_get (ci := 5) (C := RX6) (T := TX6) (N := 8) (v := .ref hc) 0 F rfl rfl pz_inX6 1 (by decide) pw_185 rfl dX6_rank_32 ?_
      refine pz_iload_n 3 F rfl dX6_rank_35 rfl ?_
      refine pz_aload_n 0 F rfl dX6_rank_36 rfl ?_
      refine pz_get (ci := 5) (C := RX6) (T := TX6) (N := 8) (v := .ref hc) 0 F rfl rfl pz_inX6 1 (by decide) pw_185 rfl dX6_rank_37 ?_
      refine pz_iload_n 3 F rfl dX6_rank_40 rfl ?_
      refine pz_iconst (v := 1) F dX6_rank_41 rfl ?_
      refine pz_isub F dX6_rank_42 ?_
      obtain ⟨h_14, vc⟩ := vc
      refine pz_iaload 2 F rfl h_14 dX6_rank_43 ?_
      refine pz_topi (fun x_15 ex_15 => ?_)
      replace vc := vc x_15 ex_15
      obtain ⟨h_16, vc⟩ := vc
      obtain ⟨f_17, ef_17⟩ : ∃ z : Nat → Int32, z = upd c1 at_.toNatClampNeg x_15 := ⟨_, rfl⟩
      replace vc := vc f_17 ef_17
      refine pz_iastore (ws' := [(h0, .inr (5, [.ref hs, .ref hc, .int lI, .int ou, .int he, .int pc, .int df, .int tx])), (hs, .inl (g.2.1 1, 8, .inl b1)), (hc, .inl (g.2.1 1, 8, .inl f_17))]) F 2 rfl h_16 dX6_rank_44 (by rw [ef_17]; rfl) ?_
      refine pz_aload_n 0 F rfl dX6_rank_45 rfl ?_
      refine pz_get (ci := 5) (C := RX6) (T := TX6) (N := 8) (v := .ref hs) 0 F rfl rfl pz_inX6 0 (by decide) pw_184 rfl dX6_rank_46 ?_
      refine pz_iload_n 3 F rfl dX6_rank_49 rfl ?_
      refine pz_aload_n 0 F rfl dX6_rank_50 rfl ?_
      refine pz_get (ci := 5) (C := RX6) (T := TX6) (N := 8) (v := .ref hs) 0 F rfl rfl pz_inX6 0 (by decide) pw_184 rfl dX6_rank_51 ?_
      refine pz_iload_n 3 F rfl dX6_rank_54 rfl ?_
      refine pz_iconst (v := 1) F dX6_rank_55 rfl ?_
      refine pz_isub F dX6_rank_56 ?_
      obtain ⟨h_18, vc⟩ := vc
      refine pz_iaload 1 F rfl h_18 dX6_rank_57 ?_
      refine pz_topi (fun x_19 ex_19 => ?_)
      replace vc := vc x_19 ex_19
      obtain ⟨h_20, vc⟩ := vc
      obtain ⟨f_21, ef_21⟩ : ∃ z : Nat → Int32, z = upd b1 at_.toNatClampNeg x_19 := ⟨_, rfl⟩
      replace vc := vc f_21 ef_21
      refine pz_iastore (ws' := [(h0, .inr (5, [.ref hs, .ref hc, .int lI, .int ou, .int he, .int pc, .int df, .int tx])), (hs, .inl (g.2.1 1, 8, .inl f_21)), (hc, .inl (g.2.1 1, 8, .inl f_17))]) F 1 rfl h_20 dX6_rank_58 (by rw [ef_21]; rfl) ?_
      obtain ⟨x_22, ex_22⟩ : ∃ z : Int32, z = at_ + (-1) := ⟨_, rfl⟩
      replace vc := vc x_22 ex_22
      refine pz_iinc (v := x_22) (lv' := [(3, .int x_22), (0, .ref h0), (1, .int m), (2, .int su)]) 3 F rfl dX6_rank_59 (by rw [ex_22]; rfl) (by decide) rfl ?_
      refine pz_goto (tgt := 15) F dX6_rank_62 (by decide) ?_
      exact pz_sub [1, 2, 3, 0] [0, 1, 2] rfl rfl rfl (hT15 x_22 f_21 f_17 vc)
theorem lpX6_rank_15 {B : pz_B} {g : pz_G} {wc : va_W} {Post : Option Value → va_W → Prop} (F : pz_F B cX6_rank 4 none yX6_rank.cls g rmX6_rank) (Rt : pz_Rt B g wc Post rmX6_rank) (m : Int32) (su : Int32) (h0 : Nat) (hs : Nat) (hc : Nat) (lI : Int32) (ou : Int32) (he : Int32) (pc : Int32) (df : Int32) (tx : Int32) (bb : Nat → Int32) (co : Nat → Int32) (n : Nat) (Inv : Nat → Int32 → (Nat → Int32) → (Nat → Int32) → Prop) (step : ∀ (mz : Nat) (at_ : Int32) (b1 : Nat → Int32) (c1 : Nat → Int32), Inv mz at_ b1 c1 → ∀ TT : Int32 → (Nat → Int32) → (Nat → Int32) → Prop, TT = (fun at_ b1 c1 => ∃ mz', mz' < mz ∧ Inv mz' at_ b1 c1) → ((at_ ≤ 0 → vp_in at_ 8 ∧ ∀ f_3 : Nat → Int32, f_3 = upd c1 at_.toNatClampNeg su → vp_in at_ 8 ∧ ∀ f_5 : Nat → Int32, f_5 = upd b1 at_.toNatClampNeg m → ∀ x_6 : Int32, x_6 = (lI + 1) → Post none [(h0, .inr (5, [.ref hs, .ref hc, .int x_6, .int ou, .int he, .int pc, .int df, .int tx])), (hs, .inl (g.2.1 1, 8, .inl f_5)), (hc, .inl (g.2.1 1, 8, .inl f_3))]) ∧ (¬ at_ ≤ 0 → vp_in (at_ - 1) 8 ∧ ((su ≤ (c1 (at_ - 1).toNatClampNeg) → vp_in at_ 8 ∧ ∀ f_10 : Nat → Int32, f_10 = upd c1 at_.toNatClampNeg su → vp_in at_ 8 ∧ ∀ f_12 : Nat → Int32, f_12 = upd b1 at_.toNatClampNeg m → ∀ x_13 : Int32, x_13 = (lI + 1) → Post none [(h0, .inr (5, [.ref hs, .ref hc, .int x_13, .int ou, .int he, .int pc, .int df, .int tx])), (hs, .inl (g.2.1 1, 8, .inl f_12)), (hc, .inl (g.2.1 1, 8, .inl f_10))]) ∧ (¬ su ≤ (c1 (at_ - 1).toNatClampNeg) → vp_in (at_ - 1) 8 ∧ ∀ x_15 : Int32, x_15 = (c1 (at_ - 1).toNatClampNeg) → vp_in at_ 8 ∧ ∀ f_17 : Nat → Int32, f_17 = upd c1 at_.toNatClampNeg x_15 → vp_in (at_ - 1) 8 ∧ ∀ x_19 : Int32, x_19 = (b1 (at_ - 1).toNatClampNeg) → vp_in at_ 8 ∧ ∀ f_21 : Nat → Int32, f_21 = upd b1 at_.toNatClampNeg x_19 → ∀ x_22 : Int32, x_22 = at_ + (-1) → TT x_22 f_21 f_17))))) : ∀ (mz : Nat) (at_ : Int32) (b1 : Nat → Int32) (c1 : Nat → Int32), Inv mz at_ b1 c1 → paX6_rank_15 B g m su h0 hs hc lI ou he pc df tx bb co n at_ b1 c1 := by
  intro mz
  induction mz using Nat.strongRecOn with
  | _ mz ih =>
    intro at_ b1 c1 hI
    exact sgX6_rank_15 F Rt m su h0 hs hc lI ou he pc df tx bb co n (fun at_ b1 c1 => ∃ mz', mz' < mz ∧ Inv mz' at_ b1 c1) (fun at_ b1 c1 ⟨mz', h1, h2⟩ => ih mz' h1 at_ b1 c1 h2) at_ b1 c1 (step mz at_ b1 c1 hI _ rfl)
set_option maxHeartbeats 4000000 in
set_option maxRecDepth 100000 in
theorem ctX6_rank (l : Launch) (g : pz_G) (m : Int32) (su : Int32) (h0 : Nat) (hs : Nat) (hc : Nat) (lI : Int32) (ou : Int32) (he : Int32) (pc : Int32) (df : Int32) (tx : Int32) (bb : Nat → Int32) (co : Nat → Int32) (n : Nat) (hpre : n < 8 ∧ lI = nI n) : pz_Ct l g yX6_rank cX6_rank 4 none rmX6_rank [.ref h0, .int m, .int su] [(h0, .inr (5, [.ref hs, .ref hc, .int lI, .int ou, .int he, .int pc, .int df, .int tx])), (hs, .inl (g.2.1 1, 8, .inl bb)), (hc, .inl (g.2.1 1, 8, .inl co))] (pz_pv (fun (u : (Nat → Int32) × (Nat → Int32)) => ∃ p, p ≤ n ∧ (p = 0 ∨ ¬ co (p - 1) < su) ∧ (∀ a, p ≤ a → a < n → co a < su) ∧ (∀ a, a < p → u.2 a = co a ∧ u.1 a = bb a) ∧ u.2 p = su ∧ u.1 p = m ∧ (∀ a, p < a → a ≤ n → u.2 a = co (a - 1) ∧ u.1 a = bb (a - 1))) (fun (u : (Nat → Int32) × (Nat → Int32)) => [(h0, .inr (5, [.ref hs, .ref hc, .int (nI (n + 1)), .int ou, .int he, .int pc, .int df, .int tx])), (hs, .inl (g.2.1 1, 8, .inl u.1)), (hc, .inl (g.2.1 1, 8, .inl u.2))])) := by
  refine pz_ofAt (by decide +kernel) (Nat.le_of_ble_eq_true rfl) (fun B F Rt hme => ?_)
  obtain ⟨hn8, h1⟩ := hpre
  subst h1
  have h15 := lpX6_rank_15 F Rt m su h0 hs hc (nI n) ou he pc df tx bb co n (fun z at_ b1 c1 => ∃ p, p = z ∧ at_ = nI p ∧ p ≤ n ∧ (∀ a, p ≤ a → a < n → co a < su) ∧ (∀ a, a < p → c1 a = co a ∧ b1 a = bb a) ∧ (∀ a, p < a → a ≤ n → c1 a = co (a - 1) ∧ b1 a = bb (a - 1))) (by
    rintro z at_ b1 c1 ⟨p, rfl, rfl, hp, h1, h2, h3⟩ TT rfl
    have hend : ∀ (q0 : p = 0 ∨ ¬ co (p - 1) < su), vp_in (nI p) 8 := fun _ => vp_in_nI (by omega) (by omega)
    refine ⟨fun q => ?_, fun q => ?_⟩
    · have h0 : p = 0 := by
        rcases Nat.eq_zero_or_pos p with h | h
        · exact h
        · exact absurd q (nI_nle h (by omega))
      refine ⟨vp_in_nI (by omega) (by omega), ?_⟩
      rintro f rfl
      refine ⟨vp_in_nI (by omega) (by omega), ?_⟩
      rintro f2 rfl x rfl
      rw [nI_clamp (by omega)]
      refine ⟨(upd b1 p m, upd c1 p su), rfl, by rw [nI_1], p, hp, Or.inl h0, h1, fun a ha => absurd ha (by omega), pk_us, pk_us, fun a ha hb => ?_⟩
      show upd c1 p su a = _ ∧ upd b1 p m a = _
      rw [pk_un (by omega), pk_un (by omega)]
      exact h3 a ha hb
    · have h0 : 0 < p := by
        rcases Nat.eq_zero_or_pos p with h | h
        · subst h; exact absurd (by decide) q
        · exact h
      obtain ⟨p, rfl⟩ : ∃ p', p = p' + 1 := ⟨p - 1, by omega⟩
      rw [nI_pred, nI_clamp (by omega), (h2 p (by omega)).1]
      refine ⟨vp_in_nI (by omega) (by omega), fun q2 => ?_, fun q2 => ?_⟩
      · refine ⟨vp_in_nI (by omega) (by omega), ?_⟩
        rintro f rfl
        refine ⟨vp_in_nI (by omega) (by omega), ?_⟩
        rintro f2 rfl x rfl
        rw [nI_clamp (by omega)]
        refine ⟨(upd b1 (p + 1) m, upd c1 (p + 1) su), rfl, by rw [nI_1], p + 1, hp, Or.inr (by rw [Nat.add_sub_cancel]; exact Int32.not_lt.mpr q2), h1, fun a ha => ?_, pk_us, pk_us, fun a ha hb => ?_⟩
        · show upd c1 (p + 1) su a = _ ∧ upd b1 (p + 1) m a = _
          rw [pk_un (by omega), pk_un (by omega)]
          exact h2 a ha
        · show upd c1 (p + 1) su a = _ ∧ upd b1 (p + 1) m a = _
          rw [pk_un (by omega), pk_un (by omega)]
          exact h3 a ha hb
      · refine ⟨vp_in_nI (by omega) (by omega), ?_⟩
        rintro x rfl
        refine ⟨vp_in_nI (by omega) (by omega), ?_⟩
        rintro f rfl
        refine ⟨vp_in_nI (by omega) (by omega), ?_⟩
        rw [(h2 p (by omega)).2]
        rintro y rfl
        refine ⟨vp_in_nI (by omega) (by omega), ?_⟩
        rintro f2 rfl z rfl
        rw [nI_clamp (by omega)]
        refine ⟨p, by omega, p, rfl, pk_m1 p, by omega, fun a ha hb => ?_, fun a ha => ?_, fun a ha hb => ?_⟩
        · by_cases e : a = p
          · rw [e]; exact Int32.not_le.mp q2
          · exact h1 a (by omega) hb
        · rw [pk_un (by omega), pk_un (by omega)]
          exact h2 a (by omega)
        · by_cases e : a = p + 1
          · rw [e, pk_us, pk_us, Nat.add_sub_cancel]; exact ⟨rfl, rfl⟩
          · rw [pk_un e, pk_un e]
            exact h3 a (by omega) hb)
  refine sgX6_rank_0 F Rt m su h0 hs hc (nI n) ou he pc df tx bb co n _ (fun at_ b1 c1 => h15 n at_ b1 c1) ?_
  refine ⟨fun q => ?_, fun q => absurd (nI_lt (b := 8) hn8 (by omega)) q⟩
  exact ⟨n, rfl, rfl, Nat.le_refl _, fun a ha hb => absurd hb (by omega), fun a ha => ⟨rfl, rfl⟩, fun a ha hb => absurd hb (by omega)⟩
