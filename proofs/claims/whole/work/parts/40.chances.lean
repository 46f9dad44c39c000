
abbrev rmX1_addGrade : Room := { frames := 0, cells := 0, slots := 0, locals := 0 }
set_option maxHeartbeats 4000000 in
set_option maxRecDepth 100000 in
theorem sgX1_addGrade_0 {B : pz_B} {g : pz_G} {wc : va_W} {Post : Option Value → va_W → Prop} (F : pz_F B cX1_addGrade 2 (some .int) yX1_addGrade.cls g rmX1_addGrade) (Rt : pz_Rt B g wc Post rmX1_addGrade) (h0 : Nat) (c : Int32) (hw : Nat) (gc : Int32) (kc : Int32) (hp : Nat) (hg : Nat) (ho : Nat) (hd : Nat) (ao : Int64) (hf : Nat) (ht : Nat) (hn : Nat) (up : Int64) (lo : Int64) (wo : Nat → Int32)  (vc : ((c < 0 → Post (some (.int (-1))) [(h0, .inr (1, [.ref hw, .int gc, .int kc, .ref hp, .ref hg, .ref ho, .ref hd, .long ao, .ref hf, .ref ht, .ref hn, .long up, .long lo])), (hw, .inl (g.2.1 1, 4, .inl wo))]) ∧ (¬ c < 0 → (((999 : Int32) < c → Post (some (.int (-1))) [(h0, .inr (1, [.ref hw, .int gc, .int kc, .ref hp, .ref hg, .ref ho, .ref hd, .long ao, .ref hf, .ref ht, .ref hn, .long up, .long lo])), (hw, .inl (g.2.1 1, 4, .inl wo))]) ∧ (¬ (999 : Int32) < c → ((gc < 4 → vp_in gc 4 ∧ ∀ f_5 : Nat → Int32, f_5 = upd wo gc.toNatClampNeg c → ∀ x_6 : Int32, x_6 = (gc + 1) → ∀ x_7 : Int32, x_7 = (x_6 - 1) → Post (some (.int x_7)) [(h0, .inr (1, [.ref hw, .int x_6, .int kc, .ref hp, .ref hg, .ref ho, .ref hd, .long ao, .ref hf, .ref ht, .ref hn, .long up, .long lo])), (hw, .inl (g.2.1 1, 4, .inl f_5))]) ∧ (¬ gc < 4 → Post (some (.int (-1))) [(h0, .inr (1, [.ref hw, .int gc, .int kc, .ref hp, .ref hg, .ref ho, .ref hd, .long ao, .ref hf, .ref ht, .ref hn, .long up, .long lo])), (hw, .inl (g.2.1 1, 4, .inl wo))]))))))) : pz_At B 0 0 0 [(0, .ref h0), (1, .int c)] [] [(h0, .inr (1, [.ref hw, .int gc, .int kc, .ref hp, .ref hg, .ref ho, .ref hd, .long ao, .ref hf, .ref ht, .ref hn, .long up, .long lo])), (hw, .inl (g.2.1 1, 4, .inl wo))] := by
  refine pz_iload_n 1 F rfl dX1_addGrade_0 rfl ?_
  refine pz_if_lt (tgt := 19) F dX1_addGrade_1 (by decide) (fun q_1 => ?_) (fun q_1 => ?_)
  · replace vc := vc.1 q_1
    refine pz_iconst (v := (-1)) F dX1_addGrade_19 rfl ?_
    exact pz_ireturn (w1 := [(h0, .inr (1, [.ref hw, .int gc, .int kc, .ref hp, .ref hg, .ref ho, .ref hd, .long ao, .ref hf, .ref ht, .ref hn, .long up, .long lo])), (hw, .inl (g.2.1 1, 4, .inl wo))]) F Rt (by decide) (by decide) dX1_addGrade_20 [0, 1] rfl rfl rfl vc
  · replace vc := vc.2 q_1
    refine pz_iload_n 1 F rfl dX1_addGrade_4 rfl ?_
    refine pz_sipush (v := 999) F dX1_addGrade_5 rfl ?_
    refine pz_icmp_gt (tgt := 19) F dX1_addGrade_8 (by decide) (fun q_2 => ?_) (fun q_2 => ?_)
    · replace vc := vc.1 q_2
      refine pz_iconst (v := (-1)) F dX1_addGrade_19 rfl ?_
      exact pz_ireturn (w1 := [(h0, .inr (1, [.ref hw, .int gc, .int kc, .ref hp, .ref hg, .ref ho, .ref hd, .long ao, .ref hf, .ref ht, .ref hn, .long up, .long lo])), (hw, .inl (g.2.1 1, 4, .inl wo))]) F Rt (by decide) (by decide) dX1_addGrade_20 [0, 1] rfl rfl rfl vc
    · replace vc := vc.2 q_2
      refine pz_aload_n 0 F rfl dX1_addGrade_11 rfl ?_
      refine pz_get (ci := 1) (C := RX1) (T := TX1) (N := 13) (v := .int gc) 0 F rfl rfl pz_inX1 1 (by decide) pw_113 rfl dX1_addGrade_12 ?_
      refine pz_iconst (v := 4) F dX1_addGrade_15 rfl ?_
      refine pz_icmp_lt (tgt := 21) F dX1_addGrade_16 (by decide) (fun q_3 => ?_) (fun q_3 => ?_)
      · replace vc := vc.1 q_3
        refine pz_aload_n 0 F rfl dX1_addGrade_21 rfl ?_
        refine pz_get (ci := 1) (C := RX1) (T := TX1) (N := 13) (v := .ref hw) 0 F rfl rfl pz_inX1 0 (by decide) pw_111 rfl dX1_addGrade_22 ?_
        refine pz_aload_n 0 F rfl dX1_addGrade_25 rfl ?_
        refine pz_get (ci := 1) (C := RX1) (T := TX1) (N := 13) (v := .int gc) 0 F rfl rfl pz_inX1 1 (by decide) pw_113 rfl dX1_addGrade_26 ?_
        refine pz_iload_n 1 F rfl dX1_addGrade_29 rfl ?_
        obtain ⟨h_4, vc⟩ := vc
        obtain ⟨f_5, ef_5⟩ : ∃ z : Nat → Int32, z = upd wo gc.toNatClampNeg c := ⟨_, rfl⟩
        replace vc := vc f_5 ef_5
        refine pz_iastore (ws' := [(h0, .inr (1, [.ref hw, .int gc, .int kc, .ref hp, .ref hg, .ref ho, .ref hd, .long ao, .ref hf, .ref ht, .ref hn, .long up, .long lo])), (hw, .inl (g.2.1 1, 4, .inl f_5))]) F 1 rfl h_4 dX1_addGrade_30 (by rw [ef_5]; rfl) ?_
        refine pz_aload_n 0 F rfl dX1_addGrade_31 rfl ?_
        refine pz_dup F dX1_addGrade_32 rfl ?_
        refine pz_get (ci := 1) (C := RX1) (T := TX1) (N := 13) (v := .int gc) 0 F rfl rfl pz_inX1 1 (by decide) pw_113 rfl dX1_addGrade_33 ?_
        refine pz_iconst (v := 1) F dX1_addGrade_36 rfl ?_
        refine pz_iadd F dX1_addGrade_37 ?_
        refine pz_topi (fun x_6 ex_6 => ?_)
        replace vc := vc x_6 ex_6
        refine pz_put (ws' := [(h0, .inr (1, [.ref hw, .int x_6, .int kc, .ref hp, .ref hg, .ref ho, .ref hd, .long ao, .ref hf, .ref ht, .ref hn, .long up, .long lo])), (hw, .inl (g.2.1 1, 4, .inl f_5))]) (ci := 1) (C := RX1) (T := TX1) (N := 13) (v := .int x_6) (ty := .int) 0 F rfl rfl pz_inX1 1 (by decide) pw_113 tyX1_ok nmX1 rfl rfl rfl rfl (Nat.le_of_ble_eq_true rfl) dX1_addGrade_38 rfl ?_
        refine pz_aload_n 0 F rfl dX1_addGrade_41 rfl ?_
        refine pz_get (ci := 1) (C := RX1) (T := TX1) (N := 13) (v := .int x_6) 0 F rfl rfl pz_inX1 1 (by decide) pw_113 rfl dX1_addGrade_42 ?_
        refine pz_iconst (v := 1) F dX1_addGrade_45 rfl ?_
        refine pz_isub F dX1_addGrade_46 ?_
        refine pz_topi (fun x_7 ex_7 => ?_)
        replace vc := vc x_7 ex_7
        exact pz_ireturn (w1 := [(h0, .inr (1, [.ref hw, .int x_6, .int kc, .ref hp, .ref hg, .ref ho, .ref hd, .long ao, .ref hf, .ref ht, .ref hn, .long up, .long lo])), (hw, .inl (g.2.1 1, 4, .inl f_5))]) F Rt (by decide) (by decide) dX1_addGrade_47 [0, 1] rfl rfl rfl vc
      · replace vc := vc.2 q_3
        refine pz_iconst (v := (-1)) F dX1_addGrade_19 rfl ?_
        exact pz_ireturn (w1 := [(h0, .inr (1, [.ref hw, .int gc, .int kc, .ref hp, .ref hg, .ref ho, .ref hd, .long ao, .ref hf, .ref ht, .ref hn, .long up, .long lo])), (hw, .inl (g.2.1 1, 4, .inl wo))]) F Rt (by decide) (by decide) dX1_addGrade_20 [0, 1] rfl rfl rfl vc
set_option maxHeartbeats 4000000 in
set_option maxRecDepth 100000 in
theorem ctX1_addGrade (l : Launch) (g : pz_G) (h0 : Nat) (c : Int32) (hw : Nat) (gc : Int32) (kc : Int32) (hp : Nat) (hg : Nat) (ho : Nat) (hd : Nat) (ao : Int64) (hf : Nat) (ht : Nat) (hn : Nat) (up : Int64) (lo : Int64) (wo : Nat → Int32) (hpre : ¬ gc < 0) : pz_Ct l g yX1_addGrade cX1_addGrade 2 (some .int) rmX1_addGrade [.ref h0, .int c] [(h0, .inr (1, [.ref hw, .int gc, .int kc, .ref hp, .ref hg, .ref ho, .ref hd, .long ao, .ref hf, .ref ht, .ref hn, .long up, .long lo])), (hw, .inl (g.2.1 1, 4, .inl wo))] (pz_pi (fun (r : Int32) (u : (Nat → Int32) × Int32) => if c < 0 then r = -1 ∧ u.1 = wo ∧ u.2 = gc else if 999 < c then r = -1 ∧ u.1 = wo ∧ u.2 = gc else if gc < 4 then r = gc + 1 - 1 ∧ u.1 = upd wo gc.toNatClampNeg c ∧ u.2 = gc + 1 else r = -1 ∧ u.1 = wo ∧ u.2 = gc) (fun (u : (Nat → Int32) × Int32) => [(h0, .inr (1, [.ref hw, .int u.2, .int kc, .ref hp, .ref hg, .ref ho, .ref hd, .long ao, .ref hf, .ref ht, .ref hn, .long up, .long lo])), (hw, .inl (g.2.1 1, 4, .inl u.1))])) := by
  refine pz_ofAt (by decide +kernel) (Nat.le_of_ble_eq_true rfl) (fun B F Rt hme => ?_)
  refine sgX1_addGrade_0 F Rt h0 c hw gc kc hp hg ho hd ao hf ht hn up lo wo ?_
  clear F Rt hme
  repeat' (first | exact pu_in2 hpre (by assumption) (by decide) | apply And.intro | intro _)
  all_goals (exact ⟨_, (_, _), rfl, rfl, by subst_vars; simp only [*, reduceIte, and_self]⟩)
abbrev rmX1_hasKind : Room := { frames := 0, cells := 0, slots := 0, locals := 0 }
set_option maxHeartbeats 4000000 in
set_option maxRecDepth 100000 in
theorem sgX1_hasKind_0 {B : pz_B} {g : pz_G} {wc : va_W} {Post : Option Value → va_W → Prop} (F : pz_F B cX1_hasKind 2 (some .boolean) yX1_hasKind.cls g rmX1_hasKind) (Rt : pz_Rt B g wc Post rmX1_hasKind) (h0 : Nat) (m : Int32) (hw : Nat) (gc : Int32) (kc : Int32) (hp : Nat) (hg : Nat) (ho : Nat) (hd : Nat) (ao : Int64) (hf : Nat) (ht : Nat) (hn : Nat) (up : Int64) (lo : Int64)  (vc : ((m < 0 → Post (some (.int 0)) [(h0, .inr (1, [.ref hw, .int gc, .int kc, .ref hp, .ref hg, .ref ho, .ref hd, .long ao, .ref hf, .ref ht, .ref hn, .long up, .long lo]))]) ∧ (¬ m < 0 → ((kc ≤ m → Post (some (.int 0)) [(h0, .inr (1, [.ref hw, .int gc, .int kc, .ref hp, .ref hg, .ref ho, .ref hd, .long ao, .ref hf, .ref ht, .ref hn, .long up, .long lo]))]) ∧ (¬ kc ≤ m → Post (some (.int 1)) [(h0, .inr (1, [.ref hw, .int gc, .int kc, .ref hp, .ref hg, .ref ho, .ref hd, .long ao, .ref hf, .ref ht, .ref hn, .long up, .long lo]))]))))) : pz_At B 0 0 0 [(0, .ref h0), (1, .int m)] [] [(h0, .inr (1, [.ref hw, .int gc, .int kc, .ref hp, .ref hg, .ref ho, .ref hd, .long ao, .ref hf, .ref ht, .ref hn, .long up, .long lo]))] := by
  refine pz_iload_n 1 F rfl dX1_hasKind_0 rfl ?_
  refine pz_if_lt (tgt := 16) F dX1_hasKind_1 (by decide) (fun q_1 => ?_) (fun q_1 => ?_)
  · replace vc := vc.1 q_1
    refine pz_iconst (v := 0) F dX1_hasKind_16 rfl ?_
    exact pz_ireturn (w1 := [(h0, .inr (1, [.ref hw, .int gc, .int kc, .ref hp, .ref hg, .ref ho, .ref hd, .long ao, .ref hf, .ref ht, .ref hn, .long up, .long lo]))]) F Rt (by decide) (by decide) dX1_hasKind_17 [0] rfl rfl rfl vc
  · replace vc := vc.2 q_1
    refine pz_iload_n 1 F rfl dX1_hasKind_4 rfl ?_
    refine pz_aload_n 0 F rfl dX1_hasKind_5 rfl ?_
    refine pz_get (ci := 1) (C := RX1) (T := TX1) (N := 13) (v := .int kc) 0 F rfl rfl pz_inX1 2 (by decide) pw_115 rfl dX1_hasKind_6 ?_
    refine pz_icmp_ge (tgt := 16) F dX1_hasKind_9 (by decide) (fun q_2 => ?_) (fun q_2 => ?_)
    · replace vc := vc.1 q_2
      refine pz_iconst (v := 0) F dX1_hasKind_16 rfl ?_
      exact pz_ireturn (w1 := [(h0, .inr (1, [.ref hw, .int gc, .int kc, .ref hp, .ref hg, .ref ho, .ref hd, .long ao, .ref hf, .ref ht, .ref hn, .long up, .long lo]))]) F Rt (by decide) (by decide) dX1_hasKind_17 [0] rfl rfl rfl vc
    · replace vc := vc.2 q_2
      refine pz_iconst (v := 1) F dX1_hasKind_12 rfl ?_
      refine pz_goto (tgt := 17) F dX1_hasKind_13 (by decide) ?_
      exact pz_ireturn (w1 := [(h0, .inr (1, [.ref hw, .int gc, .int kc, .ref hp, .ref hg, .ref ho, .ref hd, .long ao, .ref hf, .ref ht, .ref hn, .long up, .long lo]))]) F Rt (by decide) (by decide) dX1_hasKind_17 [0] rfl rfl rfl vc
set_option maxHeartbeats 4000000 in
set_option maxRecDepth 100000 in
theorem ctX1_hasKind (l : Launch) (g : pz_G) (h0 : Nat) (m : Int32) (hw : Nat) (gc : Int32) (kc : Int32) (hp : Nat) (hg : Nat) (ho : Nat) (hd : Nat) (ao : Int64) (hf : Nat) (ht : Nat) (hn : Nat) (up : Int64) (lo : Int64) : pz_Ct l g yX1_hasKind cX1_hasKind 2 (some .boolean) rmX1_hasKind [.ref h0, .int m] [(h0, .inr (1, [.ref hw, .int gc, .int kc, .ref hp, .ref hg, .ref ho, .ref hd, .long ao, .ref hf, .ref ht, .ref hn, .long up, .long lo]))] (pz_pi (fun (r : Int32) (u : Unit) => r = if m < 0 then 0 else if kc ≤ m then 0 else 1) (fun (u : Unit) => [(h0, .inr (1, [.ref hw, .int gc, .int kc, .ref hp, .ref hg, .ref ho, .ref hd, .long ao, .ref hf, .ref ht, .ref hn, .long up, .long lo]))])) := by
  refine pz_ofAt (by decide +kernel) (Nat.le_of_ble_eq_true rfl) (fun B F Rt hme => ?_)
  refine sgX1_hasKind_0 F Rt h0 m hw gc kc hp hg ho hd ao hf ht hn up lo ?_
  clear F Rt hme
  repeat' (first | apply And.intro | intro _)
  all_goals (try subst_vars)
  all_goals (first | exact ⟨_, (), rfl, rfl, rfl⟩ | exact ⟨_, (), rfl, rfl, by simp only [*, reduceIte, and_self, and_true, true_and, not_false_eq_true]⟩)
abbrev rmX1_canWeigh : Room := { frames := 0, cells := 0, slots := 0, locals := 0 }
set_option maxHeartbeats 4000000 in
set_option maxRecDepth 100000 in
theorem sgX1_canWeigh_0 {B : pz_B} {g : pz_G} {wc : va_W} {Post : Option Value → va_W → Prop} (F : pz_F B cX1_canWeigh 3 (some .boolean) yX1_canWeigh.cls g rmX1_canWeigh) (Rt : pz_Rt B g wc Post rmX1_canWeigh) (h0 : Nat) (gr : Int32) (w : Int32) (hw : Nat) (gc : Int32) (kc : Int32) (hp : Nat) (hg : Nat) (ho : Nat) (hd : Nat) (ao : Int64) (hf : Nat) (ht : Nat) (hn : Nat) (up : Int64) (lo : Int64)  (vc : ((w < 0 → Post (some (.int 0)) [(h0, .inr (1, [.ref hw, .int gc, .int kc, .ref hp, .ref hg, .ref ho, .ref hd, .long ao, .ref hf, .ref ht, .ref hn, .long up, .long lo]))]) ∧ (¬ w < 0 → ((gc ≤ gr → (((0 : Int32) < w → Post (some (.int 0)) [(h0, .inr (1, [.ref hw, .int gc, .int kc, .ref hp, .ref hg, .ref ho, .ref hd, .long ao, .ref hf, .ref ht, .ref hn, .long up, .long lo]))]) ∧ (¬ (0 : Int32) < w → Post (some (.int 1)) [(h0, .inr (1, [.ref hw, .int gc, .int kc, .ref hp, .ref hg, .ref ho, .ref hd, .long ao, .ref hf, .ref ht, .ref hn, .long up, .long lo]))]))) ∧ (¬ gc ≤ gr → (((16 : Int32) < w → Post (some (.int 0)) [(h0, .inr (1, [.ref hw, .int gc, .int kc, .ref hp, .ref hg, .ref ho, .ref hd, .long ao, .ref hf, .ref ht, .ref hn, .long up, .long lo]))]) ∧ (¬ (16 : Int32) < w → Post (some (.int 1)) [(h0, .inr (1, [.ref hw, .int gc, .int kc, .ref hp, .ref hg, .ref ho, .ref hd, .long ao, .ref hf, .ref ht, .ref hn, .long up, .long lo]))]))))))) : pz_At B 0 0 0 [(0, .ref h0), (1, .int gr), (2, .int w)] [] [(h0, .inr (1, [.ref hw, .int gc, .int kc, .ref hp, .ref hg, .ref ho, .ref hd, .long ao, .ref hf, .ref ht, .ref hn, .long up, .long lo]))] := by
  refine pz_iload_n 2 F rfl dX1_canWeigh_0 rfl ?_
  refine pz_if_lt (tgt := 26) F dX1_canWeigh_1 (by decide) (fun q_1 => ?_) (fun q_1 => ?_)
  · replace vc := vc.1 q_1
    refine pz_iconst (v := 0) F dX1_canWeigh_26 rfl ?_
    exact pz_ireturn (w1 := [(h0, .inr (1, [.ref hw, .int gc, .int kc, .ref hp, .ref hg, .ref ho, .ref hd, .long ao, .ref hf, .ref ht, .ref hn, .long up, .long lo]))]) F Rt (by decide) (by decide) dX1_canWeigh_27 [0] rfl rfl rfl vc
  · replace vc := vc.2 q_1
    refine pz_iload_n 2 F rfl dX1_canWeigh_4 rfl ?_
    refine pz_iload_n 1 F rfl dX1_canWeigh_5 rfl ?_
    refine pz_aload_n 0 F rfl dX1_canWeigh_6 rfl ?_
    refine pz_get (ci := 1) (C := RX1) (T := TX1) (N := 13) (v := .int gc) 0 F rfl rfl pz_inX1 1 (by decide) pw_113 rfl dX1_canWeigh_7 ?_
    refine pz_icmp_ge (tgt := 18) F dX1_canWeigh_10 (by decide) (fun q_2 => ?_) (fun q_2 => ?_)
    · replace vc := vc.1 q_2
      refine pz_iconst (v := 0) F dX1_canWeigh_18 rfl ?_
      refine pz_icmp_gt (tgt := 26) F dX1_canWeigh_19 (by decide) (fun q_3 => ?_) (fun q_3 => ?_)
      · replace vc := vc.1 q_3
        refine pz_iconst (v := 0) F dX1_canWeigh_26 rfl ?_
        exact pz_ireturn (w1 := [(h0, .inr (1, [.ref hw, .int gc, .int kc, .ref hp, .ref hg, .ref ho, .ref hd, .long ao, .ref hf, .ref ht, .ref hn, .long up, .long lo]))]) F Rt (by decide) (by decide) dX1_canWeigh_27 [0] rfl rfl rfl vc
      · replace vc := vc.2 q_3
        refine pz_iconst (v := 1) F dX1_canWeigh_22 rfl ?_
        refine pz_goto (tgt := 27) F dX1_canWeigh_23 (by decide) ?_
        exact pz_ireturn (w1 := [(h0, .inr (1, [.ref hw, .int gc, .int kc, .ref hp, .ref hg, .ref ho, .ref hd, .long ao, .ref hf, .ref ht, .ref hn, .long up, .long lo]))]) F Rt (by decide) (by decide) dX1_canWeigh_27 [0] rfl rfl rfl vc
    · replace vc := vc.2 q_2
      refine pz_bipush (v := 16) F dX1_canWeigh_13 rfl ?_
      refine pz_goto (tgt := 19) F dX1_canWeigh_15 (by decide) ?_
      refine pz_icmp_gt (tgt := 26) F dX1_canWeigh_19 (by decide) (fun q_4 => ?_) (fun q_4 => ?_)
      · replace vc := vc.1 q_4
        refine pz_iconst (v := 0) F dX1_canWeigh_26 rfl ?_
        exact pz_ireturn (w1 := [(h0, .inr (1, [.ref hw, .int gc, .int kc, .ref hp, .ref hg, .ref ho, .ref hd, .long ao, .ref hf, .ref ht, .ref hn, .long up, .long lo]))]) F Rt (by decide) (by decide) dX1_canWeigh_27 [0] rfl rfl rfl vc
      · replace vc := vc.2 q_4
        refine pz_iconst (v := 1) F dX1_canWeigh_22 rfl ?_
        refine pz_goto (tgt := 27) F dX1_canWeigh_23 (by decide) ?_
        exact pz_ireturn (w1 := [(h0, .inr (1, [.ref hw, .int gc, .int kc, .ref hp, .ref hg, .ref ho, .ref hd, .long ao, .ref hf, .ref ht, .ref hn, .long up, .long lo]))]) F Rt (by decide) (by decide) dX1_canWeigh_27 [0] rfl rfl rfl vc
set_option maxHeartbeats 4000000 in
set_option maxRecDepth 100000 in
theorem ctX1_canWeigh (l : Launch) (g : pz_G) (h0 : Nat) (gr : Int32) (w : Int32) (hw : Nat) (gc : Int32) (kc : Int32) (hp : Nat) (hg : Nat) (ho : Nat) (hd : Nat) (ao : Int64) (hf : Nat) (ht : Nat) (hn : Nat) (up : Int64) (lo : Int64) : pz_Ct l g yX1_canWeigh cX1_canWeigh 3 (some .boolean) rmX1_canWeigh [.ref h0, .int gr, .int w] [(h0, .inr (1, [.ref hw, .int gc, .int kc, .ref hp, .ref hg, .ref ho, .ref hd, .long ao, .ref hf, .ref ht, .ref hn, .long up, .long lo]))] (pz_pi (fun (r : Int32) (u : Unit) => r = pu_cw gc gr w) (fun (u : Unit) => [(h0, .inr (1, [.ref hw, .int gc, .int kc, .ref hp, .ref hg, .ref ho, .ref hd, .long ao, .ref hf, .ref ht, .ref hn, .long up, .long lo]))])) := by
  refine pz_ofAt (by decide +kernel) (Nat.le_of_ble_eq_true rfl) (fun B F Rt hme => ?_)
  refine sgX1_canWeigh_0 F Rt h0 gr w hw gc kc hp hg ho hd ao hf ht hn up lo ?_
  clear F Rt hme
  repeat' (first | apply And.intro | intro _)
  all_goals (try subst_vars)
  all_goals (first | exact ⟨_, (), rfl, rfl, rfl⟩ | exact ⟨_, (), rfl, rfl, by simp only [*, pu_cw, reduceIte, and_self, and_true, true_and, not_false_eq_true]⟩)
abbrev rmX1_knowsAll : Room := { frames := 1, cells := 0, slots := 0, locals := 21 }
abbrev paX1_knowsAll_2 (B : pz_B) (g : pz_G) (sl : Int32) (ins : Int32) (h0 : Nat) (hw : Nat) (gc : Int32) (kc : Int32) (hp : Nat) (hg : Nat) (ho : Nat) (hd : Nat) (ao : Int64) (hf : Nat) (ht : Nat) (hn : Nat) (up : Int64) (lo : Int64) (n : Nat) (i : Int32) : Prop := pz_At B 0 0 2 [(0, .ref h0), (1, .int sl), (2, .int ins), (3, .int i)] [] [(h0, .inr (1, [.ref hw, .int gc, .int kc, .ref hp, .ref hg, .ref ho, .ref hd, .long ao, .ref hf, .ref ht, .ref hn, .long up, .long lo]))]
set_option maxHeartbeats 4000000 in
set_option maxRecDepth 100000 in
theorem sgX1_knowsAll_0 {B : pz_B} {g : pz_G} {wc : va_W} {Post : Option Value → va_W → Prop} (F : pz_F B cX1_knowsAll 4 (some .boolean) yX1_knowsAll.cls g rmX1_knowsAll) (Rt : pz_Rt B g wc Post rmX1_knowsAll) (sl : Int32) (ins : Int32) (h0 : Nat) (hw : Nat) (gc : Int32) (kc : Int32) (hp : Nat) (hg : Nat) (ho : Nat) (hd : Nat) (ao : Int64) (hf : Nat) (ht : Nat) (hn : Nat) (up : Int64) (lo : Int64) (n : Nat) (T2 : Int32 → Prop) (hT2 : ∀ (i : Int32), T2 i → paX1_knowsAll_2 B g sl ins h0 hw gc kc hp hg ho hd ao hf ht hn up lo n i)  (vc : T2 0) : pz_At B 0 0 0 [(0, .ref h0), (1, .int sl), (2, .int ins)] [] [(h0, .inr (1, [.ref hw, .int gc, .int kc, .ref hp, .ref hg, .ref ho, .ref hd, .long ao, .ref hf, .ref ht, .ref hn, .long up, .long lo]))] := by
  refine pz_iconst (v := 0) F dX1_knowsAll_0 rfl ?_
  refine pz_istore_n (lv' := [(3, .int 0), (0, .ref h0), (1, .int sl), (2, .int ins)]) F dX1_knowsAll_1 rfl (by decide) rfl ?_
  exact pz_sub [1, 2, 3, 0] [0] rfl rfl rfl (hT2 0 vc)
set_option maxHeartbeats 4000000 in
set_option maxRecDepth 100000 in
theorem sgX1_knowsAll_2 {B : pz_B} {g : pz_G} {wc : va_W} {Post : Option Value → va_W → Prop} (F : pz_F B cX1_knowsAll 4 (some .boolean) yX1_knowsAll.cls g rmX1_knowsAll) (Rt : pz_Rt B g wc Post rmX1_knowsAll) (sl : Int32) (ins : Int32) (h0 : Nat) (hw : Nat) (gc : Int32) (kc : Int32) (hp : Nat) (hg : Nat) (ho : Nat) (hd : Nat) (ao : Int64) (hf : Nat) (ht : Nat) (hn : Nat) (up : Int64) (lo : Int64) (n : Nat) (T2 : Int32 → Prop) (hT2 : ∀ (i : Int32), T2 i → paX1_knowsAll_2 B g sl ins h0 hw gc kc hp hg ho hd ao hf ht hn up lo n i) (i : Int32) (vc : ((sl ≤ i → Post (some (.int 1)) [(h0, .inr (1, [.ref hw, .int gc, .int kc, .ref hp, .ref hg, .ref ho, .ref hd, .long ao, .ref hf, .ref ht, .ref hn, .long up, .long lo]))]) ∧ (¬ sl ≤ i → ∀ r_2 : Int32, ∀ _ : (r_2 = pu_gi ins i), ((r_2 < gc → ∀ x_5 : Int32, x_5 = i + 1 → T2 x_5) ∧ (¬ r_2 < gc → Post (some (.int 0)) [(h0, .inr (1, [.ref hw, .int gc, .int kc, .ref hp, .ref hg, .ref ho, .ref hd, .long ao, .ref hf, .ref ht, .ref hn, .long up, .long lo]))]))))) : pz_At B 0 0 2 [(0, .ref h0), (1, .int sl), (2, .int ins), (3, .int i)] [] [(h0, .inr (1, [.ref hw, .int gc, .int kc, .ref hp, .ref hg, .ref ho, .ref hd, .long ao, .ref hf, .ref ht, .ref hn, .long up, .long lo]))] := by
  refine pz_iload_n 3 F rfl dX1_knowsAll_2 rfl ?_
  refine pz_iload_n 1 F rfl dX1_knowsAll_3 rfl ?_
  refine pz_icmp_ge (tgt := 27) F dX1_knowsAll_4 (by decide) (fun q_1 => ?_) (fun q_1 => ?_)
  · replace vc := vc.1 q_1
    refine pz_iconst (v := 1) F dX1_knowsAll_27 rfl ?_
    exact pz_ireturn (w1 := [(h0, .inr (1, [.ref hw, .int gc, .int kc, .ref hp, .ref hg, .ref ho, .ref hd, .long ao, .ref hf, .ref ht, .ref hn, .long up, .long lo]))]) F Rt (by decide) (by decide) dX1_knowsAll_28 [0] rfl rfl rfl vc
  · replace vc := vc.2 q_1
    refine pz_iload_n 2 F rfl dX1_knowsAll_7 rfl ?_
    refine pz_iload_n 3 F rfl dX1_knowsAll_8 rfl ?_
    refine pz_callS (nA := 2) (As := [.int ins, .int i]) (rest := []) (wr := [(h0, .inr (1, [.ref hw, .int gc, .int kc, .ref hp, .ref hg, .ref ho, .ref hd, .long ao, .ref hf, .ref ht, .ref hn, .long up, .long lo]))]) F (ctX0_gradeInside _ g ins i) pw_433 pw_434 pw_17 pw_435 (by decide +kernel) (by decide) (by decide) rfl rfl (Nat.le_of_ble_eq_true rfl) [] [0] rfl rfl rfl rfl (by decide) dX1_knowsAll_9 (fun r0 w0 hp0 => ?_)
    obtain ⟨r_2, _, rfl, rfl, hq_3⟩ := hp0
    replace vc := vc r_2  hq_3
    refine pz_eq (st' := [.int r_2]) (ws' := [(h0, .inr (1, [.ref hw, .int gc, .int kc, .ref hp, .ref hg, .ref ho, .ref hd, .long ao, .ref hf, .ref ht, .ref hn, .long up, .long lo]))]) rfl rfl ?_
    refine pz_aload_n 0 F rfl dX1_knowsAll_12 rfl ?_
    refine pz_get (ci := 1) (C := RX1) (T := TX1) (N := 13) (v := .int gc) 0 F rfl rfl pz_inX1 1 (by decide) pw_113 rfl dX1_knowsAll_13 ?_
    refine pz_icmp_lt (tgt := 21) F dX1_knowsAll_16 (by decide) (fun q_4 => ?_) (fun q_4 => ?_)
    · replace vc := vc.1 q_4
      obtain ⟨x_5, ex_5⟩ : ∃ z : Int32, z = i + 1 := ⟨_, rfl⟩
      replace vc := vc x_5 ex_5
      refine pz_iinc (v := x_5) (lv' := [(3, .int x_5), (0, .ref h0), (1, .int sl), (2, .int ins)]) 3 F rfl dX1_knowsAll_21 (by rw [ex_5]; rfl) (by decide) rfl ?_
      refine pz_goto (tgt := 2) F dX1_knowsAll_24 (by decide) ?_
      exact pz_sub [1, 2, 3, 0] [0] rfl rfl rfl (hT2 x_5 vc)
    · replace vc := vc.2 q_4
      refine pz_iconst (v := 0) F dX1_knowsAll_19 rfl ?_
      exact pz_ireturn (w1 := [(h0, .inr (1, [.ref hw, .int gc, .int kc, .ref hp, .ref hg, .ref ho, .ref hd, .long ao, .ref hf, .ref ht, .ref hn, .long up, .long lo]))]) F Rt (by decide) (by decide) dX1_knowsAll_20 [0] rfl rfl rfl vc
theorem lpX1_knowsAll_2 {B : pz_B} {g : pz_G} {wc : va_W} {Post : Option Value → va_W → Prop} (F : pz_F B cX1_knowsAll 4 (some .boolean) yX1_knowsAll.cls g rmX1_knowsAll) (Rt : pz_Rt B g wc Post rmX1_knowsAll) (sl : Int32) (ins : Int32) (h0 : Nat) (hw : Nat) (gc : Int32) (kc : Int32) (hp : Nat) (hg : Nat) (ho : Nat) (hd : Nat) (ao : Int64) (hf : Nat) (ht : Nat) (hn : Nat) (up : Int64) (lo : Int64) (n : Nat) (Inv : Nat → Int32 → Prop) (step : ∀ (mz : Nat) (i : Int32), Inv mz i → ∀ TT : Int32 → Prop, TT = (fun i => ∃ mz', mz' < mz ∧ Inv mz' i) → ((sl ≤ i → Post (some (.int 1)) [(h0, .inr (1, [.ref hw, .int gc, .int kc, .ref hp, .ref hg, .ref ho, .ref hd, .long ao, .ref hf, .ref ht, .ref hn, .long up, .long lo]))]) ∧ (¬ sl ≤ i → ∀ r_2 : Int32, ∀ _ : (r_2 = pu_gi ins i), ((r_2 < gc → ∀ x_5 : Int32, x_5 = i + 1 → TT x_5) ∧ (¬ r_2 < gc → Post (some (.int 0)) [(h0, .inr (1, [.ref hw, .int gc, .int kc, .ref hp, .ref hg, .ref ho, .ref hd, .long ao, .ref hf, .ref ht, .ref hn, .long up, .long lo]))]))))) : ∀ (mz : Nat) (i : Int32), Inv mz i → paX1_knowsAll_2 B g sl ins h0 hw gc kc hp hg ho hd ao hf ht hn up lo n i := by
  intro mz
  induction mz using Nat.strongRecOn with
  | _ mz ih =>
    intro i hI
    exact sgX1_knowsAll_2 F Rt sl ins h0 hw gc kc hp hg ho hd ao hf ht hn up lo n (fun i => ∃ mz', mz' < mz ∧ Inv mz' i) (fun i ⟨mz', h1, h2⟩ => ih mz' h1 i h2) i (step mz i hI _ rfl)
set_option maxHeartbeats 4000000 in
set_option maxRecDepth 100000 in
theorem ctX1_knowsAll (l : Launch) (g : pz_G) (sl : Int32) (ins : Int32) (h0 : Nat) (hw : Nat) (gc : Int32) (kc : Int32) (hp : Nat) (hg : Nat) (ho : Nat) (hd : Nat) (ao : Int64) (hf : Nat) (ht : Nat) (hn : Nat) (up : Int64) (lo : Int64) (n : Nat) (hpre : n ≤ 8 ∧ sl = nI n) : pz_Ct l g yX1_knowsAll cX1_knowsAll 4 (some .boolean) rmX1_knowsAll [.ref h0, .int sl, .int ins] [(h0, .inr (1, [.ref hw, .int gc, .int kc, .ref hp, .ref hg, .ref ho, .ref hd, .long ao, .ref hf, .ref ht, .ref hn, .long up, .long lo]))] (pz_pi (fun (r : Int32) (u : Unit) => (r = 1 ∧ ∀ a, a < n → pu_gi ins (nI a) < gc) ∨ (r = 0 ∧ ∃ a, a < n ∧ ¬ pu_gi ins (nI a) < gc)) (fun (u : Unit) => [(h0, .inr (1, [.ref hw, .int gc, .int kc, .ref hp, .ref hg, .ref ho, .ref hd, .long ao, .ref hf, .ref ht, .ref hn, .long up, .long lo]))])) := by
  refine pz_ofAt (by decide +kernel) (Nat.le_of_ble_eq_true rfl) (fun B F Rt hme => ?_)
  obtain ⟨hn8, h1⟩ := hpre
  subst h1
  refine sgX1_knowsAll_0 F Rt (nI n) ins h0 hw gc kc hp hg ho hd ao hf ht hn up lo n _ (fun i h => lpX1_knowsAll_2 F Rt (nI n) ins h0 hw gc kc hp hg ho hd ao hf ht hn up lo n (fun z i => ∃ j, j + z = n ∧ i = nI j ∧ ∀ a, a < j → pu_gi ins (nI a) < gc) ?_ n i h) ⟨0, by omega, nI_0.symm, fun a ha => absurd ha (by omega)⟩
  rintro z i ⟨j, hj, rfl, hp⟩ TT rfl
  refine ⟨fun q => ?_, fun q => ?_⟩
  · have h1 := pu_ge (by omega) q
    exact ⟨_, (), rfl, rfl, Or.inl ⟨rfl, fun a ha => hp a (by omega)⟩⟩
  · have h1 := pu_lt (by omega) (by omega) q
    intro r hr
    refine ⟨fun q2 => ?_, fun q2 => ?_⟩
    · rintro x rfl
      refine ⟨z - 1, by omega, j + 1, by omega, nI_1 j, fun a ha => ?_⟩
      by_cases h2 : a = j
      · rw [h2, ← hr]; exact q2
      · exact hp a (by omega)
    · exact ⟨_, (), rfl, rfl, Or.inr ⟨rfl, j, h1, by rw [← hr]; exact q2⟩⟩
abbrev rmX1_keepWeight : Room := { frames := 0, cells := 0, slots := 0, locals := 0 }
abbrev paX1_keepWeight_22 (B : pz_B) (g : pz_G) (gr : Int32) (w : Int32) (h0 : Nat) (hw : Nat) (gc : Int32) (kc : Int32) (hp : Nat) (hg : Nat) (ho : Nat) (hd : Nat) (ao : Int64) (hf : Nat) (ht : Nat) (hn : Nat) (up : Int64) (lo : Int64) (we : Nat → Int32) (po : Nat → Int64) (k : Nat) (q : Nat) (rw_ : Int32) (p : Int64) (i : Int32) (f1 : Nat → Int32) (f2 : Nat → Int64) : Prop := pz_At B 0 0 22 [(0, .ref h0), (1, .int gr), (2, .int w), (3, .int rw_), (4, .long p), (6, .int i)] [] [(h0, .inr (1, [.ref hw, .int gc, .int kc, .ref hp, .ref hg, .ref ho, .ref hd, .long ao, .ref hf, .ref ht, .ref hn, .long up, .long lo])), (hg, .inl (g.2.1 1, 12, .inl f1)), (ho, .inl (g.2.1 2, 108, .inr (.inl f2)))]
set_option maxHeartbeats 4000000 in
set_option maxRecDepth 100000 in
theorem sgX1_keepWeight_0 {B : pz_B} {g : pz_G} {wc : va_W} {Post : Option Value → va_W → Prop} (F : pz_F B cX1_keepWeight 7 none yX1_keepWeight.cls g rmX1_keepWeight) (Rt : pz_Rt B g wc Post rmX1_keepWeight) (gr : Int32) (w : Int32) (h0 : Nat) (hw : Nat) (gc : Int32) (kc : Int32) (hp : Nat) (hg : Nat) (ho : Nat) (hd : Nat) (ao : Int64) (hf : Nat) (ht : Nat) (hn : Nat) (up : Int64) (lo : Int64) (we : Nat → Int32) (po : Nat → Int64) (k : Nat) (q : Nat) (T22 : Int32 → Int64 → Int32 → (Nat → Int32) → (Nat → Int64) → Prop) (hT22 : ∀ (rw_ : Int32) (p : Int64) (i : Int32) (f1 : Nat → Int32) (f2 : Nat → Int64), T22 rw_ p i f1 f2 → paX1_keepWeight_22 B g gr w h0 hw gc kc hp hg ho hd ao hf ht hn up lo we po k q rw_ p i f1 f2)  (vc : ∀ x_1 : Int32, x_1 = ((kc * 4) + gr) → vp_in x_1 12 ∧ ∀ f_3 : Nat → Int32, f_3 = upd we x_1.toNatClampNeg w → T22 x_1 1 0 f_3 po) : pz_At B 0 0 0 [(0, .ref h0), (1, .int gr), (2, .int w)] [] [(h0, .inr (1, [.ref hw, .int gc, .int kc, .ref hp, .ref hg, .ref ho, .ref hd, .long ao, .ref hf, .ref ht, .ref hn, .long up, .long lo])), (hg, .inl (g.2.1 1, 12, .inl we)), (ho, .inl (g.2.1 2, 108, .inr (.inl po)))] := by
  refine pz_aload_n 0 F rfl dX1_keepWeight_0 rfl ?_
  refine pz_get (ci := 1) (C := RX1) (T := TX1) (N := 13) (v := .int kc) 0 F rfl rfl pz_inX1 2 (by decide) pw_115 rfl dX1_keepWeight_1 ?_
  refine pz_iconst (v := 4) F dX1_keepWeight_4 rfl ?_
  refine pz_imul F dX1_keepWeight_5 ?_
  refine pz_iload_n 1 F rfl dX1_keepWeight_6 rfl ?_
  refine pz_iadd F dX1_keepWeight_7 ?_
  refine pz_topi (fun x_1 ex_1 => ?_)
  replace vc := vc x_1 ex_1
  refine pz_istore_n (lv' := [(3, .int x_1), (0, .ref h0), (1, .int gr), (2, .int w)]) F dX1_keepWeight_8 rfl (by decide) rfl ?_
  refine pz_aload_n 1 F rfl dX1_keepWeight_9 rfl ?_
  refine pz_get (ci := 1) (C := RX1) (T := TX1) (N := 13) (v := .ref hg) 0 F rfl rfl pz_inX1 4 (by decide) pw_118 rfl dX1_keepWeight_10 ?_
  refine pz_iload_n 0 F rfl dX1_keepWeight_13 rfl ?_
  refine pz_iload_n 3 F rfl dX1_keepWeight_14 rfl ?_
  obtain ⟨h_2, vc⟩ := vc
  obtain ⟨f_3, ef_3⟩ : ∃ z : Nat → Int32, z = upd we x_1.toNatClampNeg w := ⟨_, rfl⟩
  replace vc := vc f_3 ef_3
  refine pz_iastore (ws' := [(h0, .inr (1, [.ref hw, .int gc, .int kc, .ref hp, .ref hg, .ref ho, .ref hd, .long ao, .ref hf, .ref ht, .ref hn, .long up, .long lo])), (hg, .inl (g.2.1 1, 12, .inl f_3)), (ho, .inl (g.2.1 2, 108, .inr (.inl po)))]) F 1 rfl h_2 dX1_keepWeight_15 (by rw [ef_3]; rfl) ?_
  refine pz_lconst (v := 1) F dX1_keepWeight_16 rfl ?_
  refine pz_lstore (lv' := [(4, .long 1), (3, .int x_1), (0, .ref h0), (1, .int gr), (2, .int w)]) F dX1_keepWeight_17 (by decide) rfl ?_
  refine pz_iconst (v := 0) F dX1_keepWeight_19 rfl ?_
  refine pz_istore (lv' := [(6, .int 0), (4, .long 1), (3, .int x_1), (0, .ref h0), (1, .int gr), (2, .int w)]) F dX1_keepWeight_20 (by decide) rfl ?_
  exact pz_sub [3, 4, 5, 2, 1, 0] [0, 1, 2] rfl rfl rfl (hT22 x_1 1 0 f_3 po vc)
set_option maxHeartbeats 4000000 in
set_option maxRecDepth 100000 in
theorem sgX1_keepWeight_22 {B : pz_B} {g : pz_G} {wc : va_W} {Post : Option Value → va_W → Prop} (F : pz_F B cX1_keepWeight 7 none yX1_keepWeight.cls g rmX1_keepWeight) (Rt : pz_Rt B g wc Post rmX1_keepWeight) (gr : Int32) (w : Int32) (h0 : Nat) (hw : Nat) (gc : Int32) (kc : Int32) (hp : Nat) (hg : Nat) (ho : Nat) (hd : Nat) (ao : Int64) (hf : Nat) (ht : Nat) (hn : Nat) (up : Int64) (lo : Int64) (we : Nat → Int32) (po : Nat → Int64) (k : Nat) (q : Nat) (T22 : Int32 → Int64 → Int32 → (Nat → Int32) → (Nat → Int64) → Prop) (hT22 : ∀ (rw_ : Int32) (p : Int64) (i : Int32) (f1 : Nat → Int32) (f2 : Nat → Int64), T22 rw_ p i f1 f2 → paX1_keepWeight_22 B g gr w h0 hw gc kc hp hg ho hd ao hf ht hn up lo we po k q rw_ p i f1 f2) (rw_ : Int32) (p : Int64) (i : Int32) (f1 : Nat → Int32) (f2 : Nat → Int64) (vc : (((9 : Int32) ≤ i → Post none [(h0, .inr (1, [.ref hw, .int gc, .int kc, .ref hp, .ref hg, .ref ho, .ref hd, .long ao, .ref hf, .ref ht, .ref hn, .long up, .long lo])), (hg, .inl (g.2.1 1, 12, .inl f1)), (ho, .inl (g.2.1 2, 108, .inr (.inl f2)))]) ∧ (¬ (9 : Int32) ≤ i → vp_in ((rw_ * 9) + i) 108 ∧ ∀ f_3 : Nat → Int64, f_3 = vp_updL f2 ((rw_ * 9) + i).toNatClampNeg p → ∀ x_4 : Int64, x_4 = (p * w.toInt64) → ∀ x_5 : Int32, x_5 = i + 1 → T22 rw_ x_4 x_5 f1 f_3))) : pz_At B 0 0 22 [(0, .ref h0), (1, .int gr), (2, .int w), (3, .int rw_), (4, .long p), (6, .int i)] [] [(h0, .inr (1, [.ref hw, .int gc, .int kc, .ref hp, .ref hg, .ref ho, .ref hd, .long ao, .ref hf, .ref ht, .ref hn, .long up, .long lo])), (hg, .inl (g.2.1 1, 12, .inl f1)), (ho, .inl (g.2.1 2, 108, .inr (.inl f2)))] := by
  refine pz_iload 5 F rfl dX1_keepWeight_22 ?_
  refine pz_bipush (v := 9) F dX1_keepWeight_24 rfl ?_
  refine pz_icmp_ge (tgt := 56) F dX1_keepWeight_26 (by decide) (fun q_1 => ?_) (fun q_1 => ?_)
  · replace vc := vc.1 q_1
    exact pz_return (w1 := [(h0, .inr (1, [.ref hw, .int gc, .int kc, .ref hp, .ref hg, .ref ho, .ref hd, .long ao, .ref hf, .ref ht, .ref hn, .long up, .long lo])), (hg, .inl (g.2.1 1, 12, .inl f1)), (ho, .inl (g.2.1 2, 108, .inr (.inl f2)))]) F Rt (by decide) (by decide) dX1_keepWeight_56 [0, 1, 2] rfl rfl vc
  · replace vc := vc.2 q_1
    refine pz_aload_n 0 F rfl dX1_keepWeight_29 rfl ?_
    refine pz_get (ci := 1) (C := RX1) (T := TX1) (N := 13) (v := .ref ho) 0 F rfl rfl pz_inX1 5 (by decide) pw_119 rfl dX1_keepWeight_30 ?_
    refine pz_iload_n 3 F rfl dX1_keepWeight_33 rfl ?_
    refine pz_bipush (v := 9) F dX1_keepWeight_34 rfl ?_
    refine pz_imul F dX1_keepWeight_36 ?_
    refine pz_iload 5 F rfl dX1_keepWeight_37 ?_
    refine pz_iadd F dX1_keepWeight_39 ?_
    refine pz_lload 4 F rfl dX1_keepWeight_40 ?_
    obtain ⟨h_2, vc⟩ := vc
    obtain ⟨f_3, ef_3⟩ : ∃ z : Nat → Int64, z = vp_updL f2 ((rw_ * 9) + i).toNatClampNeg p := ⟨_, rfl⟩
    replace vc := vc f_3 ef_3
    refine pz_lastore (ws' := [(h0, .inr (1, [.ref hw, .int gc, .int kc, .ref hp, .ref hg, .ref ho, .ref hd, .long ao, .ref hf, .ref ht, .ref hn, .long up, .long lo])), (hg, .inl (g.2.1 1, 12, .inl f1)), (ho, .inl (g.2.1 2, 108, .inr (.inl f_3)))]) F 2 rfl h_2 dX1_keepWeight_42 (by rw [ef_3]; rfl) ?_
    refine pz_lload 4 F rfl dX1_keepWeight_43 ?_
    refine pz_iload_n 2 F rfl dX1_keepWeight_45 rfl ?_
    refine pz_i2l F dX1_keepWeight_46 ?_
    refine pz_lmul F dX1_keepWeight_47 ?_
    refine pz_topl (fun x_4 ex_4 => ?_)
    replace vc := vc x_4 ex_4
    refine pz_lstore (lv' := [(4, .long x_4), (0, .ref h0), (1, .int gr), (2, .int w), (3, .int rw_), (6, .int i)]) F dX1_keepWeight_48 (by decide) rfl ?_
    obtain ⟨x_5, ex_5⟩ : ∃ z : Int32, z = i + 1 := ⟨_, rfl⟩
    replace vc := vc x_5 ex_5
    refine pz_iinc (v := x_5) (lv' := [(6, .int x_5), (4, .long x_4), (0, .ref h0), (1, .int gr), (2, .int w), (3, .int rw_)]) 5 F rfl dX1_keepWeight_50 (by rw [ex_5]; rfl) (by decide) rfl ?_
    refine pz_goto (tgt := 22) F dX1_keepWeight_53 (by decide) ?_
    exact pz_sub [2, 3, 4, 5, 1, 0] [0, 1, 2] rfl rfl rfl (hT22 rw_ x_4 x_5 f1 f_3 vc)
theorem lpX1_keepWeight_22 {B : pz_B} {g : pz_G} {wc : va_W} {Post : Option Value → va_W → Prop} (F : pz_F B cX1_keepWeight 7 none yX1_keepWeight.cls g rmX1_keepWeight) (Rt : pz_Rt B g wc Post rmX1_keepWeight) (gr : Int32) (w : Int32) (h0 : Nat) (hw : Nat) (gc : Int32) (kc : Int32) (hp : Nat) (hg : Nat) (ho : Nat) (hd : Nat) (ao : Int64) (hf : Nat) (ht : Nat) (hn : Nat) (up : Int64) (lo : Int64) (we : Nat → Int32) (po : Nat → Int64) (k : Nat) (q : Nat) (Inv : Nat → Int32 → Int64 → Int32 → (Nat → Int32) → (Nat → Int64) → Prop) (step : ∀ (mz : Nat) (rw_ : Int32) (p : Int64) (i : Int32) (f1 : Nat → Int32) (f2 : Nat → Int64), Inv mz rw_ p i f1 f2 → ∀ TT : Int32 → Int64 → Int32 → (Nat → Int32) → (Nat → Int64) → Prop, TT = (fun rw_ p i f1 f2 => ∃ mz', mz' < mz ∧ Inv mz' rw_ p i f1 f2) → (((9 : Int32) ≤ i → Post none [(h0, .inr (1, [.ref hw, .int gc, .int kc, .ref hp, .ref hg, .ref ho, .ref hd, .long ao, .ref hf, .ref ht, .ref hn, .long up, .long lo])), (hg, .inl (g.2.1 1, 12, .inl f1)), (ho, .inl (g.2.1 2, 108, .inr (.inl f2)))]) ∧ (¬ (9 : Int32) ≤ i → vp_in ((rw_ * 9) + i) 108 ∧ ∀ f_3 : Nat → Int64, f_3 = vp_updL f2 ((rw_ * 9) + i).toNatClampNeg p → ∀ x_4 : Int64, x_4 = (p * w.toInt64) → ∀ x_5 : Int32, x_5 = i + 1 → TT rw_ x_4 x_5 f1 f_3))) : ∀ (mz : Nat) (rw_ : Int32) (p : Int64) (i : Int32) (f1 : Nat → Int32) (f2 : Nat → Int64), Inv mz rw_ p i f1 f2 → paX1_keepWeight_22 B g gr w h0 hw gc kc hp hg ho hd ao hf ht hn up lo we po k q rw_ p i f1 f2 := by
  intro mz
  induction mz using Nat.strongRecOn with
  | _ mz ih =>
    intro rw_ p i f1 f2 hI
    exact sgX1_keepWeight_22 F Rt gr w h0 hw gc kc hp hg ho hd ao hf ht hn up lo we po k q (fun rw_ p i f1 f2 => ∃ mz', mz' < mz ∧ Inv mz' rw_ p i f1 f2) (fun rw_ p i f1 f2 ⟨mz', h1, h2⟩ => ih mz' h1 rw_ p i f1 f2 h2) rw_ p i f1 f2 (step mz rw_ p i f1 f2 hI _ rfl)
set_option maxHeartbeats 4000000 in
set_option maxRecDepth 100000 in
theorem ctX1_keepWeight (l : Launch) (g : pz_G) (gr : Int32) (w : Int32) (h0 : Nat) (hw : Nat) (gc : Int32) (kc : Int32) (hp : Nat) (hg : Nat) (ho : Nat) (hd : Nat) (ao : Int64) (hf : Nat) (ht : Nat) (hn : Nat) (up : Int64) (lo : Int64) (we : Nat → Int32) (po : Nat → Int64) (k : Nat) (q : Nat) (hpre : k < 3 ∧ q < 4 ∧ kc = nI k ∧ gr = nI q) : pz_Ct l g yX1_keepWeight cX1_keepWeight 7 none rmX1_keepWeight [.ref h0, .int gr, .int w] [(h0, .inr (1, [.ref hw, .int gc, .int kc, .ref hp, .ref hg, .ref ho, .ref hd, .long ao, .ref hf, .ref ht, .ref hn, .long up, .long lo])), (hg, .inl (g.2.1 1, 12, .inl we)), (ho, .inl (g.2.1 2, 108, .inr (.inl po)))] (pz_pv (fun (u : (Nat → Int32) × (Nat → Int64)) => u.1 = upd we (4 * k + q) w ∧ ∀ a, a < 108 → u.2 a = if (4 * k + q) * 9 ≤ a ∧ a < (4 * k + q) * 9 + 9 then pu_pw w (a - (4 * k + q) * 9) else po a) (fun (u : (Nat → Int32) × (Nat → Int64)) => [(h0, .inr (1, [.ref hw, .int gc, .int kc, .ref hp, .ref hg, .ref ho, .ref hd, .long ao, .ref hf, .ref ht, .ref hn, .long up, .long lo])), (hg, .inl (g.2.1 1, 12, .inl u.1)), (ho, .inl (g.2.1 2, 108, .inr (.inl u.2)))])) := by
  refine pz_ofAt (by decide +kernel) (Nat.le_of_ble_eq_true rfl) (fun B F Rt hme => ?_)
  obtain ⟨hk, hq, h1, h2⟩ := hpre
  subst h1; subst h2
  have e4 : nI k * 4 + nI q = nI (4 * k + q) := by rw [show (4 : Int32) = nI 4 from rfl, pk_mul, nI_add, Nat.mul_comm]
  refine sgX1_keepWeight_0 F Rt (nI q) w h0 hw gc (nI k) hp hg ho hd ao hf ht hn up lo we po k q _ (fun rw_ p i f1 f2 h => lpX1_keepWeight_22 F Rt (nI q) w h0 hw gc (nI k) hp hg ho hd ao hf ht hn up lo we po k q (fun z rw_ p i f1 f2 => ∃ j, j + z = 9 ∧ rw_ = nI (4 * k + q) ∧ i = nI j ∧ p = pu_pw w j ∧ f1 = upd we (4 * k + q) w ∧ ∀ a, a < 108 → f2 a = if (4 * k + q) * 9 ≤ a ∧ a < (4 * k + q) * 9 + j then pu_pw w (a - (4 * k + q) * 9) else po a) ?_ 9 rw_ p i f1 f2 h) ?_
  · rintro z rw_ p i f1 f2 ⟨j, hj, rfl, rfl, rfl, rfl, hf⟩ TT rfl
    refine ⟨fun q2 => ?_, fun q2 => ?_⟩
    · have h1 := pu_ge (n := 9) (by omega) q2
      exact ⟨(_, _), rfl, rfl, rfl, fun a ha => by
        show f2 a = _
        rw [hf a ha, show j = 9 by omega]⟩
    · have h1 := pu_lt (n := 9) (by omega) (by omega) q2
      have e9 : nI (4 * k + q) * 9 + nI j = nI ((4 * k + q) * 9 + j) := by rw [show (9 : Int32) = nI 9 from rfl, pk_mul, nI_add]
      rw [e9]
      refine ⟨vp_in_nI (by omega) (by omega), ?_⟩
      rintro f rfl x rfl y rfl
      rw [nI_clamp (by omega)]
      refine ⟨z - 1, by omega, j + 1, by omega, rfl, nI_1 j, rfl, rfl, fun a ha => ?_⟩
      by_cases h2 : a = (4 * k + q) * 9 + j
      · rw [h2, pk_uLs, if_pos (by omega), show (4 * k + q) * 9 + j - (4 * k + q) * 9 = j by omega]
      · rw [pk_uLn h2, hf a ha]
        by_cases h3 : (4 * k + q) * 9 ≤ a ∧ a < (4 * k + q) * 9 + j
        · rw [if_pos h3, if_pos (by omega)]
        · rw [if_neg h3, if_neg (by omega)]
  · rw [e4]
    rintro x rfl
    refine ⟨vp_in_nI (by omega) (by omega), ?_⟩
    rintro f rfl
    rw [nI_clamp (by omega)]
    exact ⟨0, by omega, rfl, nI_0.symm, rfl, rfl, fun a ha => by rw [if_neg (by omega)]⟩
abbrev rmX1_commonDivisor : Room := { frames := 0, cells := 0, slots := 0, locals := 0 }
abbrev paX1_commonDivisor_9 (B : pz_B) (g : pz_G) (x : Int64) (y : Int64) (a : Int64) (b : Int64) (i : Int32) : Prop := pz_At B 0 0 9 [(0, .long x), (2, .long y), (4, .long a), (6, .long b), (8, .int i)] [] []
set_option maxHeartbeats 4000000 in
set_option maxRecDepth 100000 in
theorem sgX1_commonDivisor_0 {B : pz_B} {g : pz_G} {wc : va_W} {Post : Option Value → va_W → Prop} (F : pz_F B cX1_commonDivisor 11 (some .long) yX1_commonDivisor.cls g rmX1_commonDivisor) (Rt : pz_Rt B g wc Post rmX1_commonDivisor) (x : Int64) (y : Int64) (T9 : Int64 → Int64 → Int32 → Prop) (hT9 : ∀ (a : Int64) (b : Int64) (i : Int32), T9 a b i → paX1_commonDivisor_9 B g x y a b i)  (vc : T9 x y 0) : pz_At B 0 0 0 [(0, .long x), (2, .long y)] [] [] := by
  refine pz_lload_n 0 F rfl dX1_commonDivisor_0 rfl ?_
  refine pz_lstore (lv' := [(4, .long x), (0, .long x), (2, .long y)]) F dX1_commonDivisor_1 (by decide) rfl ?_
  refine pz_lload_n 2 F rfl dX1_commonDivisor_3 rfl ?_
  refine pz_lstore (lv' := [(6, .long y), (4, .long x), (0, .long x), (2, .long y)]) F dX1_commonDivisor_4 (by decide) rfl ?_
  refine pz_iconst (v := 0) F dX1_commonDivisor_6 rfl ?_
  refine pz_istore (lv' := [(8, .int 0), (6, .long y), (4, .long x), (0, .long x), (2, .long y)]) F dX1_commonDivisor_7 (by decide) rfl ?_
  exact pz_sub [3, 4, 2, 1, 0] [] rfl rfl rfl (hT9 x y 0 vc)
set_option maxHeartbeats 4000000 in
set_option maxRecDepth 100000 in
theorem sgX1_commonDivisor_9 {B : pz_B} {g : pz_G} {wc : va_W} {Post : Option Value → va_W → Prop} (F : pz_F B cX1_commonDivisor 11 (some .long) yX1_commonDivisor.cls g rmX1_commonDivisor) (Rt : pz_Rt B g wc Post rmX1_commonDivisor) (x : Int64) (y : Int64) (T9 : Int64 → Int64 → Int32 → Prop) (hT9 : ∀ (a : Int64) (b : Int64) (i : Int32), T9 a b i → paX1_commonDivisor_9 B g x y a b i) (a : Int64) (b : Int64) (i : Int32) (vc : (((100 : Int32) ≤ i → Post (some (.long a)) []) ∧ (¬ (100 : Int32) ≤ i → (((lg_cmp b 0) = 0 → Post (some (.long a)) []) ∧ (¬ (lg_cmp b 0) = 0 → (¬ b = 0) ∧ ∀ x_4 : Int64, x_4 = (a - a / b * b) → ∀ x_5 : Int32, x_5 = i + 1 → T9 b x_4 x_5))))) : pz_At B 0 0 9 [(0, .long x), (2, .long y), (4, .long a), (6, .long b), (8, .int i)] [] [] := by
  refine pz_iload 4 F rfl dX1_commonDivisor_9 ?_
  refine pz_bipush (v := 100) F dX1_commonDivisor_11 rfl ?_
  refine pz_icmp_ge (tgt := 44) F dX1_commonDivisor_13 (by decide) (fun q_1 => ?_) (fun q_1 => ?_)
  · replace vc := vc.1 q_1
    refine pz_lload 2 F rfl dX1_commonDivisor_44 ?_
    exact pz_lreturn (w1 := []) F Rt (by decide) (by decide) dX1_commonDivisor_46 [] rfl rfl vc
  · replace vc := vc.2 q_1
    refine pz_lload 3 F rfl dX1_commonDivisor_16 ?_
    refine pz_lconst (v := 0) F dX1_commonDivisor_18 rfl ?_
    refine pz_lcmp F dX1_commonDivisor_19 ?_
    refine pz_if_eq (tgt := 44) F dX1_commonDivisor_20 (by decide) (fun q_2 => ?_) (fun q_2 => ?_)
    · replace vc := vc.1 q_2
      refine pz_lload 2 F rfl dX1_commonDivisor_44 ?_
      exact pz_lreturn (w1 := []) F Rt (by decide) (by decide) dX1_commonDivisor_46 [] rfl rfl vc
    · replace vc := vc.2 q_2
      refine pz_lload 2 F rfl dX1_commonDivisor_23 ?_
      refine pz_lload 3 F rfl dX1_commonDivisor_25 ?_
      obtain ⟨h_3, vc⟩ := vc
      refine pz_lrem F h_3 dX1_commonDivisor_27 ?_
      refine pz_topl (fun x_4 ex_4 => ?_)
      replace vc := vc x_4 ex_4
      refine pz_lstore (lv' := [(9, .long x_4), (0, .long x), (2, .long y), (4, .long a), (6, .long b), (8, .int i)]) F dX1_commonDivisor_28 (by decide) rfl ?_
      refine pz_lload 4 F rfl dX1_commonDivisor_30 ?_
      refine pz_lstore (lv' := [(4, .long b), (9, .long x_4), (0, .long x), (2, .long y), (6, .long b), (8, .int i)]) F dX1_commonDivisor_32 (by decide) rfl ?_
      refine pz_lload 1 F rfl dX1_commonDivisor_34 ?_
      refine pz_lstore (lv' := [(6, .long x_4), (4, .long b), (9, .long x_4), (0, .long x), (2, .long y), (8, .int i)]) F dX1_commonDivisor_36 (by decide) rfl ?_
      obtain ⟨x_5, ex_5⟩ : ∃ z : Int32, z = i + 1 := ⟨_, rfl⟩
      replace vc := vc x_5 ex_5
      refine pz_iinc (v := x_5) (lv' := [(8, .int x_5), (6, .long x_4), (4, .long b), (9, .long x_4), (0, .long x), (2, .long y)]) 5 F rfl dX1_commonDivisor_38 (by rw [ex_5]; rfl) (by decide) rfl ?_
      refine pz_goto (tgt := 9) F dX1_commonDivisor_41 (by decide) ?_
      exact pz_sub [4, 5, 2, 1, 0] [] rfl rfl rfl (hT9 b x_4 x_5 vc)
theorem lpX1_commonDivisor_9 {B : pz_B} {g : pz_G} {wc : va_W} {Post : Option Value → va_W → Prop} (F : pz_F B cX1_commonDivisor 11 (some .long) yX1_commonDivisor.cls g rmX1_commonDivisor) (Rt : pz_Rt B g wc Post rmX1_commonDivisor) (x : Int64) (y : Int64) (Inv : Nat → Int64 → Int64 → Int32 → Prop) (step : ∀ (mz : Nat) (a : Int64) (b : Int64) (i : Int32), Inv mz a b i → ∀ TT : Int64 → Int64 → Int32 → Prop, TT = (fun a b i => ∃ mz', mz' < mz ∧ Inv mz' a b i) → (((100 : Int32) ≤ i → Post (some (.long a)) []) ∧ (¬ (100 : Int32) ≤ i → (((lg_cmp b 0) = 0 → Post (some (.long a)) []) ∧ (¬ (lg_cmp b 0) = 0 → (¬ b = 0) ∧ ∀ x_4 : Int64, x_4 = (a - a / b * b) → ∀ x_5 : Int32, x_5 = i + 1 → TT b x_4 x_5))))) : ∀ (mz : Nat) (a : Int64) (b : Int64) (i : Int32), Inv mz a b i → paX1_commonDivisor_9 B g x y a b i := by
  intro mz
  induction mz using Nat.strongRecOn with
  | _ mz ih =>
    intro a b i hI
    exact sgX1_commonDivisor_9 F Rt x y (fun a b i => ∃ mz', mz' < mz ∧ Inv mz' a b i) (fun a b i ⟨mz', h1, h2⟩ => ih mz' h1 a b i h2) a b i (step mz a b i hI _ rfl)
set_option maxHeartbeats 4000000 in
set_option maxRecDepth 100000 in
theorem ctX1_commonDivisor (l : Launch) (g : pz_G) (x : Int64) (y : Int64) : pz_Ct l g yX1_commonDivisor cX1_commonDivisor 11 (some .long) rmX1_commonDivisor [.long x, .long y] [] (pz_pl (fun (r : Int64) (u : Unit) => r = pu_cd 100 x y) (fun (u : Unit) => [])) := by
  refine pz_ofAt (by decide +kernel) (Nat.le_of_ble_eq_true rfl) (fun B F Rt hme => ?_)
  refine sgX1_commonDivisor_0 F Rt x y _ (fun a b i h => lpX1_commonDivisor_9 F Rt x y (fun z a b i => ∃ j, j + z = 100 ∧ i = nI j ∧ pu_cd 100 x y = pu_cd z a b) ?_ 100 a b i h) ⟨0, by omega, nI_0.symm, rfl⟩
  rintro z a b i ⟨j, hj, rfl, hR⟩ TT rfl
  refine ⟨fun q => ?_, fun q => ?_⟩
  · have h1 := pu_ge (n := 100) (by omega) q
    exact ⟨_, (), rfl, rfl, by rw [hR, show z = 0 by omega]; rfl⟩
  · have h1 := pu_lt (n := 100) (by omega) (by omega) q
    obtain ⟨z, rfl⟩ : ∃ z', z = z' + 1 := ⟨z - 1, by omega⟩
    rw [lg_cmp_eq]
    refine ⟨fun q2 => ⟨_, (), rfl, rfl, by rw [hR, pu_cd, if_pos q2]⟩, fun q2 => ⟨q2, ?_⟩⟩
    rintro r rfl i2 rfl
    exact ⟨z, by omega, j + 1, by omega, nI_1 j, by rw [hR, pu_cd, if_neg q2]⟩
abbrev rmX1_keepFraction : Room := { frames := 1, cells := 0, slots := 0, locals := 30 }
set_option maxHeartbeats 4000000 in
set_option maxRecDepth 100000 in
theorem sgX1_keepFraction_0 {B : pz_B} {g : pz_G} {wc : va_W} {Post : Option Value → va_W → Prop} (F : pz_F B cX1_keepFraction 7 none yX1_keepFraction.cls g rmX1_keepFraction) (Rt : pz_Rt B g wc Post rmX1_keepFraction) (h0 : Nat) (x : Int64) (y : Int64) (hw : Nat) (gc : Int32) (kc : Int32) (hp : Nat) (hg : Nat) (ho : Nat) (hd : Nat) (ao : Int64) (hf : Nat) (ht : Nat) (hn : Nat) (up : Int64) (lo : Int64)  (vc : ∀ r_1 : Int64, ∀ _ : (r_1 = pu_cd 100 x y), (((lg_cmp r_1 0) ≤ 0 → Post none [(h0, .inr (1, [.ref hw, .int gc, .int kc, .ref hp, .ref hg, .ref ho, .ref hd, .long ao, .ref hf, .ref ht, .ref hn, .long up, .long lo]))]) ∧ (¬ (lg_cmp r_1 0) ≤ 0 → (¬ r_1 = 0) ∧ ∀ x_5 : Int64, x_5 = (x / r_1) → (¬ r_1 = 0) ∧ ∀ x_7 : Int64, x_7 = (y / r_1) → Post none [(h0, .inr (1, [.ref hw, .int gc, .int kc, .ref hp, .ref hg, .ref ho, .ref hd, .long ao, .ref hf, .ref ht, .ref hn, .long x_5, .long x_7]))]))) : pz_At B 0 0 0 [(0, .ref h0), (1, .long x), (3, .long y)] [] [(h0, .inr (1, [.ref hw, .int gc, .int kc, .ref hp, .ref hg, .ref ho, .ref hd, .long ao, .ref hf, .ref ht, .ref hn, .long up, .long lo]))] := by
  refine pz_lload_n 1 F rfl dX1_keepFraction_0 rfl ?_
  refine pz_lload_n 2 F rfl dX1_keepFraction_1 rfl ?_
  refine pz_callS (nA := 2) (As := [.long x, .long y]) (rest := []) (wr := [(h0, .inr (1, [.ref hw, .int gc, .int kc, .ref hp, .ref hg, .ref ho, .ref hd, .long ao, .ref hf, .ref ht, .ref hn, .long up, .long lo]))]) F (ctX1_commonDivisor _ g x y) pw_649 pw_650 pw_5 pw_651 (by decide +kernel) (by decide) (by decide) rfl rfl (Nat.le_of_ble_eq_true rfl) [] [0] rfl rfl rfl rfl (by decide) dX1_keepFraction_2 (fun r0 w0 hp0 => ?_)
  obtain ⟨r_1, _, rfl, rfl, hq_2⟩ := hp0
  replace vc := vc r_1  hq_2
  refine pz_eq (st' := [.long r_1]) (ws' := [(h0, .inr (1, [.ref hw, .int gc, .int kc, .ref hp, .ref hg, .ref ho, .ref hd, .long ao, .ref hf, .ref ht, .ref hn, .long up, .long lo]))]) rfl rfl ?_
  refine pz_lstore (lv' := [(5, .long r_1), (0, .ref h0), (1, .long x), (3, .long y)]) F dX1_keepFraction_5 (by decide) rfl ?_
  refine pz_lload 0 F rfl dX1_keepFraction_7 ?_
  refine pz_lconst (v := 0) F dX1_keepFraction_9 rfl ?_
  refine pz_lcmp F dX1_keepFraction_10 ?_
  refine pz_if_le (tgt := 30) F dX1_keepFraction_11 (by decide) (fun q_3 => ?_) (fun q_3 => ?_)
  · replace vc := vc.1 q_3
    exact pz_return (w1 := [(h0, .inr (1, [.ref hw, .int gc, .int kc, .ref hp, .ref hg, .ref ho, .ref hd, .long ao, .ref hf, .ref ht, .ref hn, .long up, .long lo]))]) F Rt (by decide) (by decide) dX1_keepFraction_30 [0] rfl rfl vc
  · replace vc := vc.2 q_3
    refine pz_aload_n 1 F rfl dX1_keepFraction_14 rfl ?_
    refine pz_lload_n 2 F rfl dX1_keepFraction_15 rfl ?_
    refine pz_lload 0 F rfl dX1_keepFraction_16 ?_
    obtain ⟨h_4, vc⟩ := vc
    refine pz_ldiv F h_4 dX1_keepFraction_18 ?_
    refine pz_topl (fun x_5 ex_5 => ?_)
    replace vc := vc x_5 ex_5
    refine pz_put (ws' := [(h0, .inr (1, [.ref hw, .int gc, .int kc, .ref hp, .ref hg, .ref ho, .ref hd, .long ao, .ref hf, .ref ht, .ref hn, .long x_5, .long lo]))]) (ci := 1) (C := RX1) (T := TX1) (N := 13) (v := .long x_5) (ty := .long) 0 F rfl rfl pz_inX1 11 (by decide) pw_125 tyX1_ok nmX1 rfl rfl rfl rfl (Nat.le_of_ble_eq_true rfl) dX1_keepFraction_19 rfl ?_
    refine pz_aload_n 1 F rfl dX1_keepFraction_22 rfl ?_
    refine pz_lload_n 3 F rfl dX1_keepFraction_23 rfl ?_
    refine pz_lload 0 F rfl dX1_keepFraction_24 ?_
    obtain ⟨h_6, vc⟩ := vc
    refine pz_ldiv F h_6 dX1_keepFraction_26 ?_
    refine pz_topl (fun x_7 ex_7 => ?_)
    replace vc := vc x_7 ex_7
    refine pz_put (ws' := [(h0, .inr (1, [.ref hw, .int gc, .int kc, .ref hp, .ref hg, .ref ho, .ref hd, .long ao, .ref hf, .ref ht, .ref hn, .long x_5, .long x_7]))]) (ci := 1) (C := RX1) (T := TX1) (N := 13) (v := .long x_7) (ty := .long) 0 F rfl rfl pz_inX1 12 (by decide) pw_127 tyX1_ok nmX1 rfl rfl rfl rfl (Nat.le_of_ble_eq_true rfl) dX1_keepFraction_27 rfl ?_
    exact pz_return (w1 := [(h0, .inr (1, [.ref hw, .int gc, .int kc, .ref hp, .ref hg, .ref ho, .ref hd, .long ao, .ref hf, .ref ht, .ref hn, .long x_5, .long x_7]))]) F Rt (by decide) (by decide) dX1_keepFraction_30 [0] rfl rfl vc
set_option maxHeartbeats 4000000 in
set_option maxRecDepth 100000 in
theorem ctX1_keepFraction (l : Launch) (g : pz_G) (h0 : Nat) (x : Int64) (y : Int64) (hw : Nat) (gc : Int32) (kc : Int32) (hp : Nat) (hg : Nat) (ho : Nat) (hd : Nat) (ao : Int64) (hf : Nat) (ht : Nat) (hn : Nat) (up : Int64) (lo : Int64) : pz_Ct l g yX1_keepFraction cX1_keepFraction 7 none rmX1_keepFraction [.ref h0, .long x, .long y] [(h0, .inr (1, [.ref hw, .int gc, .int kc, .ref hp, .ref hg, .ref ho, .ref hd, .long ao, .ref hf, .ref ht, .ref hn, .long up, .long lo]))] (pz_pv (fun (u : Int64 × Int64) => if pu_cd 100 x y ≤ 0 then u.1 = up ∧ u.2 = lo else u.1 = x / pu_cd 100 x y ∧ u.2 = y / pu_cd 100 x y) (fun (u : Int64 × Int64) => [(h0, .inr (1, [.ref hw, .int gc, .int kc, .ref hp, .ref hg, .ref ho, .ref hd, .long ao, .ref hf, .ref ht, .ref hn, .long u.1, .long u.2]))])) := by
  refine pz_ofAt (by decide +kernel) (Nat.le_of_ble_eq_true rfl) (fun B F Rt hme => ?_)
  refine sgX1_keepFraction_0 F Rt h0 x y hw gc kc hp hg ho hd ao hf ht hn up lo ?_
  rintro r rfl
  rw [lg_cmp_le]
  refine ⟨fun q => ⟨(_, _), rfl, rfl, by dsimp only; rw [if_pos q]; exact ⟨rfl, rfl⟩⟩, fun q => ?_⟩
  have hne : ¬ pu_cd 100 x y = 0 := fun h => q (by rw [h]; exact Int64.le_refl 0)
  refine ⟨hne, ?_⟩
  rintro a rfl
  refine ⟨hne, ?_⟩
  rintro b rfl
  exact ⟨(_, _), rfl, rfl, by dsimp only; rw [if_neg q]; exact ⟨rfl, rfl⟩⟩
abbrev rmX1_expectKind : Room := { frames := 2, cells := 0, slots := 0, locals := 56 }
set_option maxHeartbeats 4000000 in
set_option maxRecDepth 100000 in
theorem sgX1_expectKind_0 {B : pz_B} {g : pz_G} {wc : va_W} {Post : Option Value → va_W → Prop} (F : pz_F B cX1_expectKind 2 none yX1_expectKind.cls g rmX1_expectKind) (Rt : pz_Rt B g wc Post rmX1_expectKind) (m : Int32) (h0 : Nat) (hw : Nat) (gc : Int32) (kc : Int32) (hp : Nat) (hg : Nat) (ho : Nat) (hd : Nat) (ao : Int64) (hf : Nat) (ht : Nat) (hn : Nat) (up : Int64) (lo : Int64) (od : Nat → Int64) (k : Nat)  (vc : vp_in m 3 ∧ ∀ up2_2 : Int64, ∀ lo2_3 : Int64, ∀ _ : (if pu_cd 100 (od m.toNatClampNeg) ao ≤ 0 then up2_2 = up ∧ lo2_3 = lo else up2_2 = (od m.toNatClampNeg) / pu_cd 100 (od m.toNatClampNeg) ao ∧ lo2_3 = ao / pu_cd 100 (od m.toNatClampNeg) ao), Post none [(h0, .inr (1, [.ref hw, .int gc, .int kc, .ref hp, .ref hg, .ref ho, .ref hd, .long ao, .ref hf, .ref ht, .ref hn, .long up2_2, .long lo2_3])), (hd, .inl (g.2.1 2, 3, .inr (.inl od)))]) : pz_At B 0 0 0 [(0, .ref h0), (1, .int m)] [] [(h0, .inr (1, [.ref hw, .int gc, .int kc, .ref hp, .ref hg, .ref ho, .ref hd, .long ao, .ref hf, .ref ht, .ref hn, .long up, .long lo])), (hd, .inl (g.2.1 2, 3, .inr (.inl od)))] := by
  refine pz_aload_n 0 F rfl dX1_expectKind_0 rfl ?_
  refine pz_aload_n 0 F rfl dX1_expectKind_1 rfl ?_
  refine pz_get (ci := 1) (C := RX1) (T := TX1) (N := 13) (v := .ref hd) 0 F rfl rfl pz_inX1 6 (by decide) pw_120 rfl dX1_expectKind_2 ?_
  refine pz_iload_n 1 F rfl dX1_expectKind_5 rfl ?_
  obtain ⟨h_1, vc⟩ := vc
  refine pz_laload 1 F rfl h_1 dX1_expectKind_6 ?_
  refine pz_aload_n 0 F rfl dX1_expectKind_7 rfl ?_
  refine pz_get (ci := 1) (C := RX1) (T := TX1) (N := 13) (v := .long ao) 0 F rfl rfl pz_inX1 7 (by decide) pw_121 rfl dX1_expectKind_8 ?_
  refine pz_callV (nA := 2) (ci := 1) (C := RX1) (T := TX1) (N := 13) (As := [.long (od m.toNatClampNeg), .long ao]) (rest := []) (wr := [(hd, .inl (g.2.1 2, 3, .inr (.inl od)))]) F (ctX1_keepFraction _ g h0 (od m.toNatClampNeg) ao hw gc kc hp hg ho hd ao hf ht hn up lo) 0 rfl rfl pw_645 pw_647 pv_21 pw_5 pw_648 (by decide +kernel) (by decide) (by decide) rfl rfl (Nat.le_of_ble_eq_true rfl) [0] [1] rfl rfl rfl rfl (by decide) dX1_expectKind_11 (fun r0 w0 hp0 => ?_)
  obtain ⟨⟨up2_2, lo2_3⟩, rfl, rfl, hq_4⟩ := hp0
  replace vc := vc up2_2 lo2_3 hq_4
  refine pz_eq (st' := []) (ws' := [(hd, .inl (g.2.1 2, 3, .inr (.inl od))), (h0, .inr (1, [.ref hw, .int gc, .int kc, .ref hp, .ref hg, .ref ho, .ref hd, .long ao, .ref hf, .ref ht, .ref hn, .long up2_2, .long lo2_3]))]) rfl rfl ?_
  exact pz_return (w1 := [(h0, .inr (1, [.ref hw, .int gc, .int kc, .ref hp, .ref hg, .ref ho, .ref hd, .long ao, .ref hf, .ref ht, .ref hn, .long up2_2, .long lo2_3])), (hd, .inl (g.2.1 2, 3, .inr (.inl od)))]) F Rt (by decide) (by decide) dX1_expectKind_14 [1, 0] rfl rfl vc
set_option maxHeartbeats 4000000 in
set_option maxRecDepth 100000 in
theorem ctX1_expectKind (l : Launch) (g : pz_G) (m : Int32) (h0 : Nat) (hw : Nat) (gc : Int32) (kc : Int32) (hp : Nat) (hg : Nat) (ho : Nat) (hd : Nat) (ao : Int64) (hf : Nat) (ht : Nat) (hn : Nat) (up : Int64) (lo : Int64) (od : Nat → Int64) (k : Nat) (hpre : k < 3 ∧ m = nI k) : pz_Ct l g yX1_expectKind cX1_expectKind 2 none rmX1_expectKind [.ref h0, .int m] [(h0, .inr (1, [.ref hw, .int gc, .int kc, .ref hp, .ref hg, .ref ho, .ref hd, .long ao, .ref hf, .ref ht, .ref hn, .long up, .long lo])), (hd, .inl (g.2.1 2, 3, .inr (.inl od)))] (pz_pv (fun (u : Int64 × Int64) => if pu_cd 100 (od k) ao ≤ 0 then u.1 = up ∧ u.2 = lo else u.1 = od k / pu_cd 100 (od k) ao ∧ u.2 = ao / pu_cd 100 (od k) ao) (fun (u : Int64 × Int64) => [(h0, .inr (1, [.ref hw, .int gc, .int kc, .ref hp, .ref hg, .ref ho, .ref hd, .long ao, .ref hf, .ref ht, .ref hn, .long u.1, .long u.2])), (hd, .inl (g.2.1 2, 3, .inr (.inl od)))])) := by
  refine pz_ofAt (by decide +kernel) (Nat.le_of_ble_eq_true rfl) (fun B F Rt hme => ?_)
  obtain ⟨hk, h1⟩ := hpre
  subst h1
  refine sgX1_expectKind_0 F Rt (nI k) h0 hw gc kc hp hg ho hd ao hf ht hn up lo od k ?_
  rw [nI_clamp (by omega)]
  exact ⟨vp_in_nI hk (by omega), fun up2 lo2 h => ⟨(_, _), rfl, rfl, h⟩⟩
abbrev rmX1_sixteenToThe : Room := { frames := 0, cells := 0, slots := 0, locals := 0 }
set_option maxHeartbeats 4000000 in
set_option maxRecDepth 100000 in
theorem sgX1_sixteenToThe_0 {B : pz_B} {g : pz_G} {wc : va_W} {Post : Option Value → va_W → Prop} (F : pz_F B cX1_sixteenToThe 1 (some .long) yX1_sixteenToThe.cls g rmX1_sixteenToThe) (Rt : pz_Rt B g wc Post rmX1_sixteenToThe) (x : Int32)  (vc : ∀ x_1 : Int64, x_1 = ((1 : Int64) <<< ((4 * x).toInt64 &&& 63)) → Post (some (.long x_1)) []) : pz_At B 0 0 0 [(0, .int x)] [] [] := by
  refine pz_lconst (v := 1) F dX1_sixteenToThe_0 rfl ?_
  refine pz_iconst (v := 4) F dX1_sixteenToThe_1 rfl ?_
  refine pz_iload_n 0 F rfl dX1_sixteenToThe_2 rfl ?_
  refine pz_imul F dX1_sixteenToThe_3 ?_
  refine pz_lshl F dX1_sixteenToThe_4 ?_
  refine pz_topl (fun x_1 ex_1 => ?_)
  replace vc := vc x_1 ex_1
  exact pz_lreturn (w1 := []) F Rt (by decide) (by decide) dX1_sixteenToThe_5 [] rfl rfl vc
set_option maxHeartbeats 4000000 in
set_option maxRecDepth 100000 in
theorem ctX1_sixteenToThe (l : Launch) (g : pz_G) (x : Int32) : pz_Ct l g yX1_sixteenToThe cX1_sixteenToThe 1 (some .long) rmX1_sixteenToThe [.int x] [] (pz_pl (fun (r : Int64) (u : Unit) => r = (1 : Int64) <<< ((4 * x).toInt64 &&& 63)) (fun (u : Unit) => [])) := by
  refine pz_ofAt (by decide +kernel) (Nat.le_of_ble_eq_true rfl) (fun B F Rt hme => ?_)
  refine sgX1_sixteenToThe_0 F Rt x ?_
  clear F Rt hme
  repeat' (first | apply And.intro | intro _)
  all_goals (try subst_vars)
  all_goals (first | exact ⟨_, (), rfl, rfl, rfl⟩ | exact ⟨_, (), rfl, rfl, by simp only [*, reduceIte, and_self, and_true, true_and, not_false_eq_true]⟩)
abbrev rmX1_oddsOfNext : Room := { frames := 0, cells := 0, slots := 0, locals := 0 }
abbrev paX1_oddsOfNext_5 (B : pz_B) (g : pz_G) (x : Int32) (h0 : Nat) (hw : Nat) (gc : Int32) (kc : Int32) (hp : Nat) (hg : Nat) (ho : Nat) (hd : Nat) (ao : Int64) (hf : Nat) (ht : Nat) (hn : Nat) (up : Int64) (lo : Int64) (oth : Nat → Int64) (we : Nat → Int32) (k : Nat) (q : Nat) (s : Int64) (i : Int32) : Prop := pz_At B 0 0 5 [(0, .ref h0), (1, .int x), (2, .long s), (4, .int i)] [] [(h0, .inr (1, [.ref hw, .int gc, .int kc, .ref hp, .ref hg, .ref ho, .ref hd, .long ao, .ref hf, .ref ht, .ref hn, .long up, .long lo])), (ht, .inl (g.2.1 2, 3, .inr (.inl oth))), (hg, .inl (g.2.1 1, 12, .inl we))]
set_option maxHeartbeats 4000000 in
set_option maxRecDepth 100000 in
theorem sgX1_oddsOfNext_0 {B : pz_B} {g : pz_G} {wc : va_W} {Post : Option Value → va_W → Prop} (F : pz_F B cX1_oddsOfNext 5 (some .long) yX1_oddsOfNext.cls g rmX1_oddsOfNext) (Rt : pz_Rt B g wc Post rmX1_oddsOfNext) (x : Int32) (h0 : Nat) (hw : Nat) (gc : Int32) (kc : Int32) (hp : Nat) (hg : Nat) (ho : Nat) (hd : Nat) (ao : Int64) (hf : Nat) (ht : Nat) (hn : Nat) (up : Int64) (lo : Int64) (oth : Nat → Int64) (we : Nat → Int32) (k : Nat) (q : Nat) (T5 : Int64 → Int32 → Prop) (hT5 : ∀ (s : Int64) (i : Int32), T5 s i → paX1_oddsOfNext_5 B g x h0 hw gc kc hp hg ho hd ao hf ht hn up lo oth we k q s i)  (vc : T5 0 0) : pz_At B 0 0 0 [(0, .ref h0), (1, .int x)] [] [(h0, .inr (1, [.ref hw, .int gc, .int kc, .ref hp, .ref hg, .ref ho, .ref hd, .long ao, .ref hf, .ref ht, .ref hn, .long up, .long lo])), (ht, .inl (g.2.1 2, 3, .inr (.inl oth))), (hg, .inl (g.2.1 1, 12, .inl we))] := by
  refine pz_lconst (v := 0) F dX1_oddsOfNext_0 rfl ?_
  refine pz_lstore_n (lv' := [(2, .long 0), (0, .ref h0), (1, .int x)]) F dX1_oddsOfNext_1 rfl (by decide) rfl ?_
  refine pz_iconst (v := 0) F dX1_oddsOfNext_2 rfl ?_
  refine pz_istore (lv' := [(4, .int 0), (2, .long 0), (0, .ref h0), (1, .int x)]) F dX1_oddsOfNext_3 (by decide) rfl ?_
  exact pz_sub [2, 3, 1, 0] [0, 1, 2] rfl rfl rfl (hT5 0 0 vc)
set_option maxHeartbeats 4000000 in
set_option maxRecDepth 100000 in
theorem sgX1_oddsOfNext_5 {B : pz_B} {g : pz_G} {wc : va_W} {Post : Option Value → va_W → Prop} (F : pz_F B cX1_oddsOfNext 5 (some .long) yX1_oddsOfNext.cls g rmX1_oddsOfNext) (Rt : pz_Rt B g wc Post rmX1_oddsOfNext) (x : Int32) (h0 : Nat) (hw : Nat) (gc : Int32) (kc : Int32) (hp : Nat) (hg : Nat) (ho : Nat) (hd : Nat) (ao : Int64) (hf : Nat) (ht : Nat) (hn : Nat) (up : Int64) (lo : Int64) (oth : Nat → Int64) (we : Nat → Int32) (k : Nat) (q : Nat) (T5 : Int64 → Int32 → Prop) (hT5 : ∀ (s : Int64) (i : Int32), T5 s i → paX1_oddsOfNext_5 B g x h0 hw gc kc hp hg ho hd ao hf ht hn up lo oth we k q s i) (s : Int64) (i : Int32) (vc : ((kc ≤ i → Post (some (.long s)) [(h0, .inr (1, [.ref hw, .int gc, .int kc, .ref hp, .ref hg, .ref ho, .ref hd, .long ao, .ref hf, .ref ht, .ref hn, .long up, .long lo])), (ht, .inl (g.2.1 2, 3, .inr (.inl oth))), (hg, .inl (g.2.1 1, 12, .inl we))]) ∧ (¬ kc ≤ i → vp_in i 3 ∧ vp_in ((i * 4) + x) 12 ∧ ∀ x_4 : Int64, x_4 = (s + ((oth i.toNatClampNeg) * ((we ((i * 4) + x).toNatClampNeg).toInt64))) → ∀ x_5 : Int32, x_5 = i + 1 → T5 x_4 x_5))) : pz_At B 0 0 5 [(0, .ref h0), (1, .int x), (2, .long s), (4, .int i)] [] [(h0, .inr (1, [.ref hw, .int gc, .int kc, .ref hp, .ref hg, .ref ho, .ref hd, .long ao, .ref hf, .ref ht, .ref hn, .long up, .long lo])), (ht, .inl (g.2.1 2, 3, .inr (.inl oth))), (hg, .inl (g.2.1 1, 12, .inl we))] := by
  refine pz_iload 3 F rfl dX1_oddsOfNext_5 ?_
  refine pz_aload_n 0 F rfl dX1_oddsOfNext_7 rfl ?_
  refine pz_get (ci := 1) (C := RX1) (T := TX1) (N := 13) (v := .int kc) 0 F rfl rfl pz_inX1 2 (by decide) pw_115 rfl dX1_oddsOfNext_8 ?_
  refine pz_icmp_ge (tgt := 43) F dX1_oddsOfNext_11 (by decide) (fun q_1 => ?_) (fun q_1 => ?_)
  · replace vc := vc.1 q_1
    refine pz_lload_n 2 F rfl dX1_oddsOfNext_43 rfl ?_
    exact pz_lreturn (w1 := [(h0, .inr (1, [.ref hw, .int gc, .int kc, .ref hp, .ref hg, .ref ho, .ref hd, .long ao, .ref hf, .ref ht, .ref hn, .long up, .long lo])), (ht, .inl (g.2.1 2, 3, .inr (.inl oth))), (hg, .inl (g.2.1 1, 12, .inl we))]) F Rt (by decide) (by decide) dX1_oddsOfNext_44 [0, 1, 2] rfl rfl vc
  · replace vc := vc.2 q_1
    refine pz_lload_n 2 F rfl dX1_oddsOfNext_14 rfl ?_
    refine pz_aload_n 0 F rfl dX1_oddsOfNext_15 rfl ?_
    refine pz_get (ci := 1) (C := RX1) (T := TX1) (N := 13) (v := .ref ht) 0 F rfl rfl pz_inX1 9 (by decide) pw_123 rfl dX1_oddsOfNext_16 ?_
    refine pz_iload 3 F rfl dX1_oddsOfNext_19 ?_
    obtain ⟨h_2, vc⟩ := vc
    refine pz_laload 1 F rfl h_2 dX1_oddsOfNext_21 ?_
    refine pz_aload_n 0 F rfl dX1_oddsOfNext_22 rfl ?_
    refine pz_get (ci := 1) (C := RX1) (T := TX1) (N := 13) (v := .ref hg) 0 F rfl rfl pz_inX1 4 (by decide) pw_118 rfl dX1_oddsOfNext_23 ?_
    refine pz_iload 3 F rfl dX1_oddsOfNext_26 ?_
    refine pz_iconst (v := 4) F dX1_oddsOfNext_28 rfl ?_
    refine pz_imul F dX1_oddsOfNext_29 ?_
    refine pz_iload_n 1 F rfl dX1_oddsOfNext_30 rfl ?_
    refine pz_iadd F dX1_oddsOfNext_31 ?_
    obtain ⟨h_3, vc⟩ := vc
    refine pz_iaload 2 F rfl h_3 dX1_oddsOfNext_32 ?_
    refine pz_i2l F dX1_oddsOfNext_33 ?_
    refine pz_lmul F dX1_oddsOfNext_34 ?_
    refine pz_ladd F dX1_oddsOfNext_35 ?_
    refine pz_topl (fun x_4 ex_4 => ?_)
    replace vc := vc x_4 ex_4
    refine pz_lstore_n (lv' := [(2, .long x_4), (0, .ref h0), (1, .int x), (4, .int i)]) F dX1_oddsOfNext_36 rfl (by decide) rfl ?_
    obtain ⟨x_5, ex_5⟩ : ∃ z : Int32, z = i + 1 := ⟨_, rfl⟩
    replace vc := vc x_5 ex_5
    refine pz_iinc (v := x_5) (lv' := [(4, .int x_5), (2, .long x_4), (0, .ref h0), (1, .int x)]) 3 F rfl dX1_oddsOfNext_37 (by rw [ex_5]; rfl) (by decide) rfl ?_
    refine pz_goto (tgt := 5) F dX1_oddsOfNext_40 (by decide) ?_
    exact pz_sub [2, 3, 1, 0] [0, 1, 2] rfl rfl rfl (hT5 x_4 x_5 vc)
theorem lpX1_oddsOfNext_5 {B : pz_B} {g : pz_G} {wc : va_W} {Post : Option Value → va_W → Prop} (F : pz_F B cX1_oddsOfNext 5 (some .long) yX1_oddsOfNext.cls g rmX1_oddsOfNext) (Rt : pz_Rt B g wc Post rmX1_oddsOfNext) (x : Int32) (h0 : Nat) (hw : Nat) (gc : Int32) (kc : Int32) (hp : Nat) (hg : Nat) (ho : Nat) (hd : Nat) (ao : Int64) (hf : Nat) (ht : Nat) (hn : Nat) (up : Int64) (lo : Int64) (oth : Nat → Int64) (we : Nat → Int32) (k : Nat) (q : Nat) (Inv : Nat → Int64 → Int32 → Prop) (step : ∀ (mz : Nat) (s : Int64) (i : Int32), Inv mz s i → ∀ TT : Int64 → Int32 → Prop, TT = (fun s i => ∃ mz', mz' < mz ∧ Inv mz' s i) → ((kc ≤ i → Post (some (.long s)) [(h0, .inr (1, [.ref hw, .int gc, .int kc, .ref hp, .ref hg, .ref ho, .ref hd, .long ao, .ref hf, .ref ht, .ref hn, .long up, .long lo])), (ht, .inl (g.2.1 2, 3, .inr (.inl oth))), (hg, .inl (g.2.1 1, 12, .inl we))]) ∧ (¬ kc ≤ i → vp_in i 3 ∧ vp_in ((i * 4) + x) 12 ∧ ∀ x_4 : Int64, x_4 = (s + ((oth i.toNatClampNeg) * ((we ((i * 4) + x).toNatClampNeg).toInt64))) → ∀ x_5 : Int32, x_5 = i + 1 → TT x_4 x_5))) : ∀ (mz : Nat) (s : Int64) (i : Int32), Inv mz s i → paX1_oddsOfNext_5 B g x h0 hw gc kc hp hg ho hd ao hf ht hn up lo oth we k q s i := by
  intro mz
  induction mz using Nat.strongRecOn with
  | _ mz ih =>
    intro s i hI
    exact sgX1_oddsOfNext_5 F Rt x h0 hw gc kc hp hg ho hd ao hf ht hn up lo oth we k q (fun s i => ∃ mz', mz' < mz ∧ Inv mz' s i) (fun s i ⟨mz', h1, h2⟩ => ih mz' h1 s i h2) s i (step mz s i hI _ rfl)
set_option maxHeartbeats 4000000 in
set_option maxRecDepth 100000 in
theorem ctX1_oddsOfNext (l : Launch) (g : pz_G) (x : Int32) (h0 : Nat) (hw : Nat) (gc : Int32) (kc : Int32) (hp : Nat) (hg : Nat) (ho : Nat) (hd : Nat) (ao : Int64) (hf : Nat) (ht : Nat) (hn : Nat) (up : Int64) (lo : Int64) (oth : Nat → Int64) (we : Nat → Int32) (k : Nat) (q : Nat) (hpre : k ≤ 3 ∧ q < 4 ∧ kc = nI k ∧ x = nI q) : pz_Ct l g yX1_oddsOfNext cX1_oddsOfNext 5 (some .long) rmX1_oddsOfNext [.ref h0, .int x] [(h0, .inr (1, [.ref hw, .int gc, .int kc, .ref hp, .ref hg, .ref ho, .ref hd, .long ao, .ref hf, .ref ht, .ref hn, .long up, .long lo])), (ht, .inl (g.2.1 2, 3, .inr (.inl oth))), (hg, .inl (g.2.1 1, 12, .inl we))] (pz_pl (fun (r : Int64) (u : Unit) => r = pu_on oth we q k) (fun (u : Unit) => [(h0, .inr (1, [.ref hw, .int gc, .int kc, .ref hp, .ref hg, .ref ho, .ref hd, .long ao, .ref hf, .ref ht, .ref hn, .long up, .long lo])), (ht, .inl (g.2.1 2, 3, .inr (.inl oth))), (hg, .inl (g.2.1 1, 12, .inl we))])) := by
  refine pz_ofAt (by decide +kernel) (Nat.le_of_ble_eq_true rfl) (fun B F Rt hme => ?_)
  obtain ⟨hk, hq, h1, h2⟩ := hpre
  subst h1; subst h2
  refine sgX1_oddsOfNext_0 F Rt (nI q) h0 hw gc (nI k) hp hg ho hd ao hf ht hn up lo oth we k q _ (fun s i h => lpX1_oddsOfNext_5 F Rt (nI q) h0 hw gc (nI k) hp hg ho hd ao hf ht hn up lo oth we k q (fun z s i => ∃ j, j + z = k ∧ i = nI j ∧ s = pu_on oth we q j) ?_ k s i h) ⟨0, by omega, nI_0.symm, rfl⟩
  rintro z s i ⟨j, hj, rfl, rfl⟩ TT rfl
  refine ⟨fun q2 => ?_, fun q2 => ?_⟩
  · have h1 := pu_ge (by omega) q2
    exact ⟨_, (), rfl, rfl, by rw [show j = k by omega]⟩
  · have h1 := pu_lt (by omega) (by omega) q2
    have e4 : nI j * 4 + nI q = nI (4 * j + q) := by rw [show (4 : Int32) = nI 4 from rfl, pk_mul, nI_add, Nat.mul_comm]
    rw [e4, nI_clamp (n := j) (by omega), nI_clamp (n := 4 * j + q) (by omega)]
    refine ⟨vp_in_nI (by omega) (by omega), vp_in_nI (by omega) (by omega), ?_⟩
    rintro x rfl y rfl
    exact ⟨z - 1, by omega, j + 1, by omega, nI_1 j, rfl⟩
