
abbrev rmX1_weigh : Room := { frames := 2, cells := 0, slots := 0, locals := 42 }
abbrev paX1_weigh_7 (B : pz_B) (g : pz_G) (h0 : Nat) (hw : Nat) (gc : Int32) (kc : Int32) (hp : Nat) (hg : Nat) (ho : Nat) (hd : Nat) (ao : Int64) (hf : Nat) (ht : Nat) (hn : Nat) (up : Int64) (lo : Int64) (pr : Nat → Int32) (we : Nat → Int32) (od : Nat → Int64) (h3 : Nat) (h3_slices : Int32) (h3_inside : Int32) (h3_parts : Nat) (h3_bidders : Nat) (h3_bidCoins : Nat) (h3_bidCount : Int32) (h3_seen : Int32) (h3_spent : Int32) (k : Nat) (s : Nat) (ki : Int32) (ao1 : Int64) (od1 : Nat → Int64) : Prop := pz_At B 0 0 7 [(0, .ref h0), (1, .ref h3), (2, .int ki)] [] [(h0, .inr (1, [.ref hw, .int gc, .int kc, .ref hp, .ref hg, .ref ho, .ref hd, .long ao1, .ref hf, .ref ht, .ref hn, .long up, .long lo])), (hp, .inl (g.2.1 1, 3, .inl pr)), (hg, .inl (g.2.1 1, 12, .inl we)), (hd, .inl (g.2.1 2, 3, .inr (.inl od1))), (h3, .inr (0, [.int h3_slices, .int h3_inside, .ref h3_parts, .ref h3_bidders, .ref h3_bidCoins, .int h3_bidCount, .int h3_seen, .int h3_spent]))]
abbrev paX1_weigh_26 (B : pz_B) (g : pz_G) (h0 : Nat) (hw : Nat) (gc : Int32) (kc : Int32) (hp : Nat) (hg : Nat) (ho : Nat) (hd : Nat) (ao : Int64) (hf : Nat) (ht : Nat) (hn : Nat) (up : Int64) (lo : Int64) (pr : Nat → Int32) (we : Nat → Int32) (od : Nat → Int64) (h3 : Nat) (h3_slices : Int32) (h3_inside : Int32) (h3_parts : Nat) (h3_bidders : Nat) (h3_bidCoins : Nat) (h3_bidCount : Int32) (h3_seen : Int32) (h3_spent : Int32) (k : Nat) (s : Nat) (ki : Int32) (w : Int64) (s1 : Int32) (ao1 : Int64) (od1 : Nat → Int64) : Prop := pz_At B 0 0 26 [(0, .ref h0), (1, .ref h3), (2, .int ki), (3, .long w), (5, .int s1)] [] [(h0, .inr (1, [.ref hw, .int gc, .int kc, .ref hp, .ref hg, .ref ho, .ref hd, .long ao1, .ref hf, .ref ht, .ref hn, .long up, .long lo])), (hp, .inl (g.2.1 1, 3, .inl pr)), (hg, .inl (g.2.1 1, 12, .inl we)), (hd, .inl (g.2.1 2, 3, .inr (.inl od1))), (h3, .inr (0, [.int h3_slices, .int h3_inside, .ref h3_parts, .ref h3_bidders, .ref h3_bidCoins, .int h3_bidCount, .int h3_seen, .int h3_spent]))]
set_option maxHeartbeats 4000000 in
set_option maxRecDepth 100000 in
theorem sgX1_weigh_0 {B : pz_B} {g : pz_G} {wc : va_W} {Post : Option Value → va_W → Prop} (F : pz_F B cX1_weigh 6 (some .boolean) yX1_weigh.cls g rmX1_weigh) (Rt : pz_Rt B g wc Post rmX1_weigh) (h0 : Nat) (hw : Nat) (gc : Int32) (kc : Int32) (hp : Nat) (hg : Nat) (ho : Nat) (hd : Nat) (ao : Int64) (hf : Nat) (ht : Nat) (hn : Nat) (up : Int64) (lo : Int64) (pr : Nat → Int32) (we : Nat → Int32) (od : Nat → Int64) (h3 : Nat) (h3_slices : Int32) (h3_inside : Int32) (h3_parts : Nat) (h3_bidders : Nat) (h3_bidCoins : Nat) (h3_bidCount : Int32) (h3_seen : Int32) (h3_spent : Int32) (k : Nat) (s : Nat) (T7 : Int32 → Int64 → (Nat → Int64) → Prop) (hT7 : ∀ (ki : Int32) (ao1 : Int64) (od1 : Nat → Int64), T7 ki ao1 od1 → paX1_weigh_7 B g h0 hw gc kc hp hg ho hd ao hf ht hn up lo pr we od h3 h3_slices h3_inside h3_parts h3_bidders h3_bidCoins h3_bidCount h3_seen h3_spent k s ki ao1 od1)  (vc : T7 0 0 od) : pz_At B 0 0 0 [(0, .ref h0), (1, .ref h3)] [] [(h0, .inr (1, [.ref hw, .int gc, .int kc, .ref hp, .ref hg, .ref ho, .ref hd, .long ao, .ref hf, .ref ht, .ref hn, .long up, .long lo])), (hp, .inl (g.2.1 1, 3, .inl pr)), (hg, .inl (g.2.1 1, 12, .inl we)), (hd, .inl (g.2.1 2, 3, .inr (.inl od))), (h3, .inr (0, [.int h3_slices, .int h3_inside, .ref h3_parts, .ref h3_bidders, .ref h3_bidCoins, .int h3_bidCount, .int h3_seen, .int h3_spent]))] := by
  refine pz_aload_n 0 F rfl dX1_weigh_0 rfl ?_
  refine pz_lconst (v := 0) F dX1_weigh_1 rfl ?_
  refine pz_put (ws' := [(h0, .inr (1, [.ref hw, .int gc, .int kc, .ref hp, .ref hg, .ref ho, .ref hd, .long 0, .ref hf, .ref ht, .ref hn, .long up, .long lo])), (hp, .inl (g.2.1 1, 3, .inl pr)), (hg, .inl (g.2.1 1, 12, .inl we)), (hd, .inl (g.2.1 2, 3, .inr (.inl od))), (h3, .inr (0, [.int h3_slices, .int h3_inside, .ref h3_parts, .ref h3_bidders, .ref h3_bidCoins, .int h3_bidCount, .int h3_seen, .int h3_spent]))]) (ci := 1) (C := RX1) (T := TX1) (N := 13) (v := .long 0) (ty := .long) 0 F rfl rfl pz_inX1 7 (by decide) pw_121 tyX1_ok nmX1 rfl rfl rfl rfl (Nat.le_of_ble_eq_true rfl) dX1_weigh_2 rfl ?_
  refine pz_iconst (v := 0) F dX1_weigh_5 rfl ?_
  refine pz_istore_n (lv' := [(2, .int 0), (0, .ref h0), (1, .ref h3)]) F dX1_weigh_6 rfl (by decide) rfl ?_
  exact pz_sub [1, 2, 0] [0, 1, 2, 3, 4] rfl rfl rfl (hT7 0 0 od vc)
set_option maxHeartbeats 4000000 in
set_option maxRecDepth 100000 in
theorem sgX1_weigh_7 {B : pz_B} {g : pz_G} {wc : va_W} {Post : Option Value → va_W → Prop} (F : pz_F B cX1_weigh 6 (some .boolean) yX1_weigh.cls g rmX1_weigh) (Rt : pz_Rt B g wc Post rmX1_weigh) (h0 : Nat) (hw : Nat) (gc : Int32) (kc : Int32) (hp : Nat) (hg : Nat) (ho : Nat) (hd : Nat) (ao : Int64) (hf : Nat) (ht : Nat) (hn : Nat) (up : Int64) (lo : Int64) (pr : Nat → Int32) (we : Nat → Int32) (od : Nat → Int64) (h3 : Nat) (h3_slices : Int32) (h3_inside : Int32) (h3_parts : Nat) (h3_bidders : Nat) (h3_bidCoins : Nat) (h3_bidCount : Int32) (h3_seen : Int32) (h3_spent : Int32) (k : Nat) (s : Nat) (T26 : Int32 → Int64 → Int32 → Int64 → (Nat → Int64) → Prop) (hT26 : ∀ (ki : Int32) (w : Int64) (s1 : Int32) (ao1 : Int64) (od1 : Nat → Int64), T26 ki w s1 ao1 od1 → paX1_weigh_26 B g h0 hw gc kc hp hg ho hd ao hf ht hn up lo pr we od h3 h3_slices h3_inside h3_parts h3_bidders h3_bidCoins h3_bidCount h3_seen h3_spent k s ki w s1 ao1 od1) (ki : Int32) (ao1 : Int64) (od1 : Nat → Int64) (vc : ((kc ≤ ki → (((lg_cmp ao1 0) ≤ 0 → Post (some (.int 0)) [(h0, .inr (1, [.ref hw, .int gc, .int kc, .ref hp, .ref hg, .ref ho, .ref hd, .long ao1, .ref hf, .ref ht, .ref hn, .long up, .long lo])), (hp, .inl (g.2.1 1, 3, .inl pr)), (hg, .inl (g.2.1 1, 12, .inl we)), (hd, .inl (g.2.1 2, 3, .inr (.inl od1))), (h3, .inr (0, [.int h3_slices, .int h3_inside, .ref h3_parts, .ref h3_bidders, .ref h3_bidCoins, .int h3_bidCount, .int h3_seen, .int h3_spent]))]) ∧ (¬ (lg_cmp ao1 0) ≤ 0 → Post (some (.int 1)) [(h0, .inr (1, [.ref hw, .int gc, .int kc, .ref hp, .ref hg, .ref ho, .ref hd, .long ao1, .ref hf, .ref ht, .ref hn, .long up, .long lo])), (hp, .inl (g.2.1 1, 3, .inl pr)), (hg, .inl (g.2.1 1, 12, .inl we)), (hd, .inl (g.2.1 2, 3, .inr (.inl od1))), (h3, .inr (0, [.int h3_slices, .int h3_inside, .ref h3_parts, .ref h3_bidders, .ref h3_bidCoins, .int h3_bidCount, .int h3_seen, .int h3_spent]))]))) ∧ (¬ kc ≤ ki → vp_in ki 3 ∧ ∀ x_4 : Int64, x_4 = ((pr ki.toNatClampNeg).toInt64) → T26 ki x_4 0 ao1 od1))) : pz_At B 0 0 7 [(0, .ref h0), (1, .ref h3), (2, .int ki)] [] [(h0, .inr (1, [.ref hw, .int gc, .int kc, .ref hp, .ref hg, .ref ho, .ref hd, .long ao1, .ref hf, .ref ht, .ref hn, .long up, .long lo])), (hp, .inl (g.2.1 1, 3, .inl pr)), (hg, .inl (g.2.1 1, 12, .inl we)), (hd, .inl (g.2.1 2, 3, .inr (.inl od1))), (h3, .inr (0, [.int h3_slices, .int h3_inside, .ref h3_parts, .ref h3_bidders, .ref h3_bidCoins, .int h3_bidCount, .int h3_seen, .int h3_spent]))] := by
  refine pz_iload_n 2 F rfl dX1_weigh_7 rfl ?_
  refine pz_aload_n 0 F rfl dX1_weigh_8 rfl ?_
  refine pz_get (ci := 1) (C := RX1) (T := TX1) (N := 13) (v := .int kc) 0 F rfl rfl pz_inX1 2 (by decide) pw_115 rfl dX1_weigh_9 ?_
  refine pz_icmp_ge (tgt := 83) F dX1_weigh_12 (by decide) (fun q_1 => ?_) (fun q_1 => ?_)
  · replace vc := vc.1 q_1
    refine pz_aload_n 0 F rfl dX1_weigh_83 rfl ?_
    refine pz_get (ci := 1) (C := RX1) (T := TX1) (N := 13) (v := .long ao1) 0 F rfl rfl pz_inX1 7 (by decide) pw_121 rfl dX1_weigh_84 ?_
    refine pz_lconst (v := 0) F dX1_weigh_87 rfl ?_
    refine pz_lcmp F dX1_weigh_88 ?_
    refine pz_if_le (tgt := 96) F dX1_weigh_89 (by decide) (fun q_2 => ?_) (fun q_2 => ?_)
    · replace vc := vc.1 q_2
      refine pz_iconst (v := 0) F dX1_weigh_96 rfl ?_
      exact pz_ireturn (w1 := [(h0, .inr (1, [.ref hw, .int gc, .int kc, .ref hp, .ref hg, .ref ho, .ref hd, .long ao1, .ref hf, .ref ht, .ref hn, .long up, .long lo])), (hp, .inl (g.2.1 1, 3, .inl pr)), (hg, .inl (g.2.1 1, 12, .inl we)), (hd, .inl (g.2.1 2, 3, .inr (.inl od1))), (h3, .inr (0, [.int h3_slices, .int h3_inside, .ref h3_parts, .ref h3_bidders, .ref h3_bidCoins, .int h3_bidCount, .int h3_seen, .int h3_spent]))]) F Rt (by decide) (by decide) dX1_weigh_97 [0, 1, 2, 3, 4] rfl rfl rfl vc
    · replace vc := vc.2 q_2
      refine pz_iconst (v := 1) F dX1_weigh_92 rfl ?_
      refine pz_goto (tgt := 97) F dX1_weigh_93 (by decide) ?_
      exact pz_ireturn (w1 := [(h0, .inr (1, [.ref hw, .int gc, .int kc, .ref hp, .ref hg, .ref ho, .ref hd, .long ao1, .ref hf, .ref ht, .ref hn, .long up, .long lo])), (hp, .inl (g.2.1 1, 3, .inl pr)), (hg, .inl (g.2.1 1, 12, .inl we)), (hd, .inl (g.2.1 2, 3, .inr (.inl od1))), (h3, .inr (0, [.int h3_slices, .int h3_inside, .ref h3_parts, .ref h3_bidders, .ref h3_bidCoins, .int h3_bidCount, .int h3_seen, .int h3_spent]))]) F Rt (by decide) (by decide) dX1_weigh_97 [0, 1, 2, 3, 4] rfl rfl rfl vc
  · replace vc := vc.2 q_1
    refine pz_aload_n 0 F rfl dX1_weigh_15 rfl ?_
    refine pz_get (ci := 1) (C := RX1) (T := TX1) (N := 13) (v := .ref hp) 0 F rfl rfl pz_inX1 3 (by decide) pw_117 rfl dX1_weigh_16 ?_
    refine pz_iload_n 2 F rfl dX1_weigh_19 rfl ?_
    obtain ⟨h_3, vc⟩ := vc
    refine pz_iaload 1 F rfl h_3 dX1_weigh_20 ?_
    refine pz_i2l F dX1_weigh_21 ?_
    refine pz_topl (fun x_4 ex_4 => ?_)
    replace vc := vc x_4 ex_4
    refine pz_lstore_n (lv' := [(3, .long x_4), (0, .ref h0), (1, .ref h3), (2, .int ki)]) F dX1_weigh_22 rfl (by decide) rfl ?_
    refine pz_iconst (v := 0) F dX1_weigh_23 rfl ?_
    refine pz_istore (lv' := [(5, .int 0), (3, .long x_4), (0, .ref h0), (1, .ref h3), (2, .int ki)]) F dX1_weigh_24 (by decide) rfl ?_
    exact pz_sub [2, 3, 4, 1, 0] [0, 1, 2, 3, 4] rfl rfl rfl (hT26 ki x_4 0 ao1 od1 vc)
set_option maxHeartbeats 4000000 in
set_option maxRecDepth 100000 in
theorem sgX1_weigh_26 {B : pz_B} {g : pz_G} {wc : va_W} {Post : Option Value → va_W → Prop} (F : pz_F B cX1_weigh 6 (some .boolean) yX1_weigh.cls g rmX1_weigh) (Rt : pz_Rt B g wc Post rmX1_weigh) (h0 : Nat) (hw : Nat) (gc : Int32) (kc : Int32) (hp : Nat) (hg : Nat) (ho : Nat) (hd : Nat) (ao : Int64) (hf : Nat) (ht : Nat) (hn : Nat) (up : Int64) (lo : Int64) (pr : Nat → Int32) (we : Nat → Int32) (od : Nat → Int64) (h3 : Nat) (h3_slices : Int32) (h3_inside : Int32) (h3_parts : Nat) (h3_bidders : Nat) (h3_bidCoins : Nat) (h3_bidCount : Int32) (h3_seen : Int32) (h3_spent : Int32) (k : Nat) (s : Nat) (T7 : Int32 → Int64 → (Nat → Int64) → Prop) (hT7 : ∀ (ki : Int32) (ao1 : Int64) (od1 : Nat → Int64), T7 ki ao1 od1 → paX1_weigh_7 B g h0 hw gc kc hp hg ho hd ao hf ht hn up lo pr we od h3 h3_slices h3_inside h3_parts h3_bidders h3_bidCoins h3_bidCount h3_seen h3_spent k s ki ao1 od1) (T26 : Int32 → Int64 → Int32 → Int64 → (Nat → Int64) → Prop) (hT26 : ∀ (ki : Int32) (w : Int64) (s1 : Int32) (ao1 : Int64) (od1 : Nat → Int64), T26 ki w s1 ao1 od1 → paX1_weigh_26 B g h0 hw gc kc hp hg ho hd ao hf ht hn up lo pr we od h3 h3_slices h3_inside h3_parts h3_bidders h3_bidCoins h3_bidCount h3_seen h3_spent k s ki w s1 ao1 od1) (ki : Int32) (w : Int64) (s1 : Int32) (ao1 : Int64) (od1 : Nat → Int64) (vc : ((h3_seen ≤ s1 → vp_in ki 3 ∧ ∀ f_3 : Nat → Int64, f_3 = vp_updL od1 ki.toNatClampNeg w → ∀ x_4 : Int64, x_4 = (ao1 + w) → ∀ x_5 : Int32, x_5 = ki + 1 → T7 x_5 x_4 f_3) ∧ (¬ h3_seen ≤ s1 → ∀ r_6 : Int32, ∀ _ : (r_6 = pu_gi h3_inside s1), vp_in ((ki * 4) + r_6) 12 ∧ ∀ x_9 : Int64, x_9 = (w * ((we ((ki * 4) + r_6).toNatClampNeg).toInt64)) → ∀ x_10 : Int32, x_10 = s1 + 1 → T26 ki x_9 x_10 ao1 od1))) : pz_At B 0 0 26 [(0, .ref h0), (1, .ref h3), (2, .int ki), (3, .long w), (5, .int s1)] [] [(h0, .inr (1, [.ref hw, .int gc, .int kc, .ref hp, .ref hg, .ref ho, .ref hd, .long ao1, .ref hf, .ref ht, .ref hn, .long up, .long lo])), (hp, .inl (g.2.1 1, 3, .inl pr)), (hg, .inl (g.2.1 1, 12, .inl we)), (hd, .inl (g.2.1 2, 3, .inr (.inl od1))), (h3, .inr (0, [.int h3_slices, .int h3_inside, .ref h3_parts, .ref h3_bidders, .ref h3_bidCoins, .int h3_bidCount, .int h3_seen, .int h3_spent]))] := by
  refine pz_iload 4 F rfl dX1_weigh_26 ?_
  refine pz_aload_n 1 F rfl dX1_weigh_28 rfl ?_
  refine pz_get (ci := 0) (C := RX0) (T := TX0) (N := 8) (v := .int h3_seen) 4 F rfl rfl pz_inX0 6 (by decide) pw_456 rfl dX1_weigh_29 ?_
  refine pz_icmp_ge (tgt := 60) F dX1_weigh_32 (by decide) (fun q_1 => ?_) (fun q_1 => ?_)
  · replace vc := vc.1 q_1
    refine pz_aload_n 0 F rfl dX1_weigh_60 rfl ?_
    refine pz_get (ci := 1) (C := RX1) (T := TX1) (N := 13) (v := .ref hd) 0 F rfl rfl pz_inX1 6 (by decide) pw_120 rfl dX1_weigh_61 ?_
    refine pz_iload_n 2 F rfl dX1_weigh_64 rfl ?_
    refine pz_lload_n 3 F rfl dX1_weigh_65 rfl ?_
    obtain ⟨h_2, vc⟩ := vc
    obtain ⟨f_3, ef_3⟩ : ∃ z : Nat → Int64, z = vp_updL od1 ki.toNatClampNeg w := ⟨_, rfl⟩
    replace vc := vc f_3 ef_3
    refine pz_lastore (ws' := [(h0, .inr (1, [.ref hw, .int gc, .int kc, .ref hp, .ref hg, .ref ho, .ref hd, .long ao1, .ref hf, .ref ht, .ref hn, .long up, .long lo])), (hp, .inl (g.2.1 1, 3, .inl pr)), (hg, .inl (g.2.1 1, 12, .inl we)), (hd, .inl (g.2.1 2, 3, .inr (.inl f_3))), (h3, .inr (0, [.int h3_slices, .int h3_inside, .ref h3_parts, .ref h3_bidders, .ref h3_bidCoins, .int h3_bidCount, .int h3_seen, .int h3_spent]))]) F 3 rfl h_2 dX1_weigh_66 (by rw [ef_3]; rfl) ?_
    refine pz_aload_n 0 F rfl dX1_weigh_67 rfl ?_
    refine pz_dup F dX1_weigh_68 rfl ?_
    refine pz_get (ci := 1) (C := RX1) (T := TX1) (N := 13) (v := .long ao1) 0 F rfl rfl pz_inX1 7 (by decide) pw_121 rfl dX1_weigh_69 ?_
    refine pz_lload_n 3 F rfl dX1_weigh_72 rfl ?_
    refine pz_ladd F dX1_weigh_73 ?_
    refine pz_topl (fun x_4 ex_4 => ?_)
    replace vc := vc x_4 ex_4
    refine pz_put (ws' := [(h0, .inr (1, [.ref hw, .int gc, .int kc, .ref hp, .ref hg, .ref ho, .ref hd, .long x_4, .ref hf, .ref ht, .ref hn, .long up, .long lo])), (hp, .inl (g.2.1 1, 3, .inl pr)), (hg, .inl (g.2.1 1, 12, .inl we)), (hd, .inl (g.2.1 2, 3, .inr (.inl f_3))), (h3, .inr (0, [.int h3_slices, .int h3_inside, .ref h3_parts, .ref h3_bidders, .ref h3_bidCoins, .int h3_bidCount, .int h3_seen, .int h3_spent]))]) (ci := 1) (C := RX1) (T := TX1) (N := 13) (v := .long x_4) (ty := .long) 0 F rfl rfl pz_inX1 7 (by decide) pw_121 tyX1_ok nmX1 rfl rfl rfl rfl (Nat.le_of_ble_eq_true rfl) dX1_weigh_74 rfl ?_
    obtain ⟨x_5, ex_5⟩ : ∃ z : Int32, z = ki + 1 := ⟨_, rfl⟩
    replace vc := vc x_5 ex_5
    refine pz_iinc (v := x_5) (lv' := [(2, .int x_5), (0, .ref h0), (1, .ref h3), (3, .long w), (5, .int s1)]) 2 F rfl dX1_weigh_77 (by rw [ex_5]; rfl) (by decide) rfl ?_
    refine pz_goto (tgt := 7) F dX1_weigh_80 (by decide) ?_
    exact pz_sub [1, 2, 0] [0, 1, 2, 3, 4] rfl rfl rfl (hT7 x_5 x_4 f_3 vc)
  · replace vc := vc.2 q_1
    refine pz_lload_n 3 F rfl dX1_weigh_35 rfl ?_
    refine pz_aload_n 0 F rfl dX1_weigh_36 rfl ?_
    refine pz_get (ci := 1) (C := RX1) (T := TX1) (N := 13) (v := .ref hg) 0 F rfl rfl pz_inX1 4 (by decide) pw_118 rfl dX1_weigh_37 ?_
    refine pz_iload_n 2 F rfl dX1_weigh_40 rfl ?_
    refine pz_iconst (v := 4) F dX1_weigh_41 rfl ?_
    refine pz_imul F dX1_weigh_42 ?_
    refine pz_aload_n 1 F rfl dX1_weigh_43 rfl ?_
    refine pz_iload 4 F rfl dX1_weigh_44 ?_
    refine pz_callV (nA := 1) (ci := 0) (C := RX0) (T := TX0) (N := 8) (As := [.int s1]) (rest := [.int (ki * 4), .ref hg, .long w]) (wr := [(h0, .inr (1, [.ref hw, .int gc, .int kc, .ref hp, .ref hg, .ref ho, .ref hd, .long ao1, .ref hf, .ref ht, .ref hn, .long up, .long lo])), (hp, .inl (g.2.1 1, 3, .inl pr)), (hg, .inl (g.2.1 1, 12, .inl we)), (hd, .inl (g.2.1 2, 3, .inr (.inl od1)))]) F (ctX0_gradeOf _ g h3 s1 h3_slices h3_inside h3_parts h3_bidders h3_bidCoins h3_bidCount h3_seen h3_spent) 4 rfl rfl pw_638 pw_599 pw_600 pw_17 pw_601 (by decide +kernel) (by decide) (by decide) rfl rfl (Nat.le_of_ble_eq_true rfl) [4] [0, 1, 2, 3] rfl rfl rfl rfl (by decide) dX1_weigh_46 (fun r0 w0 hp0 => ?_)
    obtain ⟨r_6, _, rfl, rfl, hq_7⟩ := hp0
    replace vc := vc r_6  hq_7
    refine pz_eq (st' := [.int r_6, .int (ki * 4), .ref hg, .long w]) (ws' := [(h0, .inr (1, [.ref hw, .int gc, .int kc, .ref hp, .ref hg, .ref ho, .ref hd, .long ao1, .ref hf, .ref ht, .ref hn, .long up, .long lo])), (hp, .inl (g.2.1 1, 3, .inl pr)), (hg, .inl (g.2.1 1, 12, .inl we)), (hd, .inl (g.2.1 2, 3, .inr (.inl od1))), (h3, .inr (0, [.int h3_slices, .int h3_inside, .ref h3_parts, .ref h3_bidders, .ref h3_bidCoins, .int h3_bidCount, .int h3_seen, .int h3_spent]))]) rfl rfl ?_
    refine pz_iadd F dX1_weigh_49 ?_
    obtain ⟨h_8, vc⟩ := vc
    refine pz_iaload 2 F rfl h_8 dX1_weigh_50 ?_
    refine pz_i2l F dX1_weigh_51 ?_
    refine pz_lmul F dX1_weigh_52 ?_
    refine pz_topl (fun x_9 ex_9 => ?_)
    replace vc := vc x_9 ex_9
    refine pz_lstore_n (lv' := [(3, .long x_9), (0, .ref h0), (1, .ref h3), (2, .int ki), (5, .int s1)]) F dX1_weigh_53 rfl (by decide) rfl ?_
    obtain ⟨x_10, ex_10⟩ : ∃ z : Int32, z = s1 + 1 := ⟨_, rfl⟩
    replace vc := vc x_10 ex_10
    refine pz_iinc (v := x_10) (lv' := [(5, .int x_10), (3, .long x_9), (0, .ref h0), (1, .ref h3), (2, .int ki)]) 4 F rfl dX1_weigh_54 (by rw [ex_10]; rfl) (by decide) rfl ?_
    refine pz_goto (tgt := 26) F dX1_weigh_57 (by decide) ?_
    exact pz_sub [2, 3, 4, 1, 0] [0, 1, 2, 3, 4] rfl rfl rfl (hT26 ki x_9 x_10 ao1 od1 vc)
theorem lpX1_weigh_26 {B : pz_B} {g : pz_G} {wc : va_W} {Post : Option Value → va_W → Prop} (F : pz_F B cX1_weigh 6 (some .boolean) yX1_weigh.cls g rmX1_weigh) (Rt : pz_Rt B g wc Post rmX1_weigh) (h0 : Nat) (hw : Nat) (gc : Int32) (kc : Int32) (hp : Nat) (hg : Nat) (ho : Nat) (hd : Nat) (ao : Int64) (hf : Nat) (ht : Nat) (hn : Nat) (up : Int64) (lo : Int64) (pr : Nat → Int32) (we : Nat → Int32) (od : Nat → Int64) (h3 : Nat) (h3_slices : Int32) (h3_inside : Int32) (h3_parts : Nat) (h3_bidders : Nat) (h3_bidCoins : Nat) (h3_bidCount : Int32) (h3_seen : Int32) (h3_spent : Int32) (k : Nat) (s : Nat) (T7 : Int32 → Int64 → (Nat → Int64) → Prop) (hT7 : ∀ (ki : Int32) (ao1 : Int64) (od1 : Nat → Int64), T7 ki ao1 od1 → paX1_weigh_7 B g h0 hw gc kc hp hg ho hd ao hf ht hn up lo pr we od h3 h3_slices h3_inside h3_parts h3_bidders h3_bidCoins h3_bidCount h3_seen h3_spent k s ki ao1 od1) (Inv : Nat → Int32 → Int64 → Int32 → Int64 → (Nat → Int64) → Prop) (step : ∀ (mz : Nat) (ki : Int32) (w : Int64) (s1 : Int32) (ao1 : Int64) (od1 : Nat → Int64), Inv mz ki w s1 ao1 od1 → ∀ TT : Int32 → Int64 → Int32 → Int64 → (Nat → Int64) → Prop, TT = (fun ki w s1 ao1 od1 => ∃ mz', mz' < mz ∧ Inv mz' ki w s1 ao1 od1) → ((h3_seen ≤ s1 → vp_in ki 3 ∧ ∀ f_3 : Nat → Int64, f_3 = vp_updL od1 ki.toNatClampNeg w → ∀ x_4 : Int64, x_4 = (ao1 + w) → ∀ x_5 : Int32, x_5 = ki + 1 → T7 x_5 x_4 f_3) ∧ (¬ h3_seen ≤ s1 → ∀ r_6 : Int32, ∀ _ : (r_6 = pu_gi h3_inside s1), vp_in ((ki * 4) + r_6) 12 ∧ ∀ x_9 : Int64, x_9 = (w * ((we ((ki * 4) + r_6).toNatClampNeg).toInt64)) → ∀ x_10 : Int32, x_10 = s1 + 1 → TT ki x_9 x_10 ao1 od1))) : ∀ (mz : Nat) (ki : Int32) (w : Int64) (s1 : Int32) (ao1 : Int64) (od1 : Nat → Int64), Inv mz ki w s1 ao1 od1 → paX1_weigh_26 B g h0 hw gc kc hp hg ho hd ao hf ht hn up lo pr we od h3 h3_slices h3_inside h3_parts h3_bidders h3_bidCoins h3_bidCount h3_seen h3_spent k s ki w s1 ao1 od1 := by
  intro mz
  induction mz using Nat.strongRecOn with
  | _ mz ih =>
    intro ki w s1 ao1 od1 hI
    exact sgX1_weigh_26 F Rt h0 hw gc kc hp hg ho hd ao hf ht hn up lo pr we od h3 h3_slices h3_inside h3_parts h3_bidders h3_bidCoins h3_bidCount h3_seen h3_spent k s T7 hT7 (fun ki w s1 ao1 od1 => ∃ mz', mz' < mz ∧ Inv mz' ki w s1 ao1 od1) (fun ki w s1 ao1 od1 ⟨mz', h1, h2⟩ => ih mz' h1 ki w s1 ao1 od1 h2) ki w s1 ao1 od1 (step mz ki w s1 ao1 od1 hI _ rfl)
set_option maxHeartbeats 4000000 in
set_option maxRecDepth 100000 in
theorem ctX1_weigh (l : Launch) (g : pz_G) (h0 : Nat) (hw : Nat) (gc : Int32) (kc : Int32) (hp : Nat) (hg : Nat) (ho : Nat) (hd : Nat) (ao : Int64) (hf : Nat) (ht : Nat) (hn : Nat) (up : Int64) (lo : Int64) (pr : Nat → Int32) (we : Nat → Int32) (od : Nat → Int64) (h3 : Nat) (h3_slices : Int32) (h3_inside : Int32) (h3_parts : Nat) (h3_bidders : Nat) (h3_bidCoins : Nat) (h3_bidCount : Int32) (h3_seen : Int32) (h3_spent : Int32) (k : Nat) (s : Nat) (hpre : k ≤ 3 ∧ s ≤ 8 ∧ kc = nI k ∧ h3_seen = nI s) : pz_Ct l g yX1_weigh cX1_weigh 6 (some .boolean) rmX1_weigh [.ref h0, .ref h3] [(h0, .inr (1, [.ref hw, .int gc, .int kc, .ref hp, .ref hg, .ref ho, .ref hd, .long ao, .ref hf, .ref ht, .ref hn, .long up, .long lo])), (hp, .inl (g.2.1 1, 3, .inl pr)), (hg, .inl (g.2.1 1, 12, .inl we)), (hd, .inl (g.2.1 2, 3, .inr (.inl od))), (h3, .inr (0, [.int h3_slices, .int h3_inside, .ref h3_parts, .ref h3_bidders, .ref h3_bidCoins, .int h3_bidCount, .int h3_seen, .int h3_spent]))] (pz_pi (fun (r : Int32) (u : Int64 × (Nat → Int64)) => (∀ a, a < k → u.2 a = pu_wg pr we h3_inside a s) ∧ u.1 = pu_wa pr we h3_inside s k ∧ r = if u.1 ≤ 0 then 0 else 1) (fun (u : Int64 × (Nat → Int64)) => [(h0, .inr (1, [.ref hw, .int gc, .int kc, .ref hp, .ref hg, .ref ho, .ref hd, .long u.1, .ref hf, .ref ht, .ref hn, .long up, .long lo])), (hp, .inl (g.2.1 1, 3, .inl pr)), (hg, .inl (g.2.1 1, 12, .inl we)), (hd, .inl (g.2.1 2, 3, .inr (.inl u.2))), (h3, .inr (0, [.int h3_slices, .int h3_inside, .ref h3_parts, .ref h3_bidders, .ref h3_bidCoins, .int h3_bidCount, .int h3_seen, .int h3_spent]))])) := by
  refine pz_ofAt (by decide +kernel) (Nat.le_of_ble_eq_true rfl) (fun B F Rt hme => ?_)
  obtain ⟨hk, hs, h1, h2⟩ := hpre
  subst h1; subst h2
  have key : ∀ (m : Nat) (ki : Int32) (ao1 : Int64) (od1 : Nat → Int64), (∃ j, j + m = k ∧ ki = nI j ∧ ao1 = pu_wa pr we h3_inside s j ∧ ∀ a, a < j → od1 a = pu_wg pr we h3_inside a s) → paX1_weigh_7 B g h0 hw gc (nI k) hp hg ho hd ao hf ht hn up lo pr we od h3 h3_slices h3_inside h3_parts h3_bidders h3_bidCoins h3_bidCount (nI s) h3_spent k s ki ao1 od1 := by
    intro m
    induction m using Nat.strongRecOn with
    | _ m ih =>
      rintro ki ao1 od1 ⟨j, hj, rfl, rfl, hod⟩
      refine sgX1_weigh_7 F Rt h0 hw gc (nI k) hp hg ho hd ao hf ht hn up lo pr we od h3 h3_slices h3_inside h3_parts h3_bidders h3_bidCoins h3_bidCount (nI s) h3_spent k s (fun ki w s1 ao1 od1 => ki = nI j ∧ j < k ∧ ao1 = pu_wa pr we h3_inside s j ∧ (∀ a, a < j → od1 a = pu_wg pr we h3_inside a s) ∧ ∃ i, i ≤ s ∧ s1 = nI i ∧ w = pu_wg pr we h3_inside j i) ?_ (nI j) _ od1 ?_
      · rintro ki w s1 ao1 od1 ⟨rfl, hjk, rfl, hod, i, hi, rfl, rfl⟩
        refine lpX1_weigh_26 F Rt h0 hw gc (nI k) hp hg ho hd ao hf ht hn up lo pr we od h3 h3_slices h3_inside h3_parts h3_bidders h3_bidCoins h3_bidCount (nI s) h3_spent k s (fun ki ao1 od1 => ∃ m', m' < m ∧ ∃ j, j + m' = k ∧ ki = nI j ∧ ao1 = pu_wa pr we h3_inside s j ∧ ∀ a, a < j → od1 a = pu_wg pr we h3_inside a s) (fun ki ao1 od1 ⟨m', h1, h2⟩ => ih m' h1 ki ao1 od1 h2) (fun z ki w s1 ao1 od1 => ki = nI j ∧ ao1 = pu_wa pr we h3_inside s j ∧ (∀ a, a < j → od1 a = pu_wg pr we h3_inside a s) ∧ ∃ i, i + z = s ∧ s1 = nI i ∧ w = pu_wg pr we h3_inside j i) ?_ (s - i) _ _ _ _ od1 ⟨rfl, rfl, hod, i, by omega, rfl, rfl⟩
        rintro z ki w s1 ao1 od1 ⟨rfl, rfl, hod, i, hi, rfl, rfl⟩ TT rfl
        refine ⟨fun q => ?_, fun q => ?_⟩
        · have h1 := pu_ge (by omega) q
          refine ⟨vp_in_nI (by omega) (by omega), ?_⟩
          rintro f rfl x rfl y rfl
          rw [nI_clamp (by omega), show i = s by omega]
          refine ⟨m - 1, by omega, j + 1, by omega, nI_1 j, rfl, fun a ha => ?_⟩
          by_cases h2 : a = j
          · rw [h2, pk_uLs]
          · rw [pk_uLn h2]; exact hod a (by omega)
        · have h1 := pu_lt (by omega) (by omega) q
          intro r hr
          obtain ⟨v, hv, hv2⟩ := pu_gi4 h3_inside (nI i)
          have e4 : nI j * 4 + r = nI (4 * j + v) := by rw [hr, hv2, show (4 : Int32) = nI 4 from rfl, pk_mul, nI_add, Nat.mul_comm]
          rw [e4]
          refine ⟨vp_in_nI (by omega) (by omega), ?_⟩
          rintro x rfl y rfl
          refine ⟨z - 1, by omega, rfl, rfl, hod, i + 1, by omega, nI_1 i, ?_⟩
          rw [pu_wg, hv2, nI_clamp (by omega), nI_clamp (by omega)]
      · refine ⟨fun q => ?_, fun q => ?_⟩
        · have h1 := pu_ge (by omega) q
          have e : j = k := by omega
          subst e
          rw [lg_cmp_le]
          refine ⟨fun q2 => ⟨_, (_, _), rfl, rfl, hod, rfl, by dsimp only; rw [if_pos q2]⟩, fun q2 => ⟨_, (_, _), rfl, rfl, hod, rfl, by dsimp only; rw [if_neg q2]⟩⟩
        · have h1 := pu_lt (by omega) (by omega) q
          refine ⟨vp_in_nI (by omega) (by omega), ?_⟩
          rintro x rfl
          rw [nI_clamp (by omega)]
          exact ⟨rfl, h1, rfl, hod, 0, by omega, nI_0.symm, rfl⟩
  exact sgX1_weigh_0 F Rt h0 hw gc (nI k) hp hg ho hd ao hf ht hn up lo pr we od h3 h3_slices h3_inside h3_parts h3_bidders h3_bidCoins h3_bidCount (nI s) h3_spent k s _ (fun ki ao1 od1 => key k ki ao1 od1) ⟨0, by omega, nI_0.symm, rfl, fun a ha => absurd ha (by omega)⟩
abbrev rmX1_goFurther : Room := { frames := 0, cells := 0, slots := 0, locals := 0 }
abbrev paX1_goFurther_32 (B : pz_B) (g : pz_G) (x0 : Int32) (x1 : Int32) (x2 : Int32) (x3 : Int32) (h0 : Nat) (hw : Nat) (gc : Int32) (kc : Int32) (hp : Nat) (hg : Nat) (ho : Nat) (hd : Nat) (ao : Int64) (hf : Nat) (ht : Nat) (hn : Nat) (up : Int64) (lo : Int64) (fu : Nat → Int32) (od : Nat → Int64) (po : Nat → Int64) (oth : Nat → Int64) (k : Nat) (c0 : Nat) (c1 : Nat) (c2 : Nat) (c3 : Nat) (ki : Int32) (f1 : Nat → Int32) (o1 : Nat → Int64) : Prop := pz_At B 0 0 32 [(0, .ref h0), (1, .int x0), (2, .int x1), (3, .int x2), (4, .int x3), (5, .int ki)] [] [(h0, .inr (1, [.ref hw, .int gc, .int kc, .ref hp, .ref hg, .ref ho, .ref hd, .long ao, .ref hf, .ref ht, .ref hn, .long up, .long lo])), (hf, .inl (g.2.1 1, 4, .inl f1)), (hd, .inl (g.2.1 2, 3, .inr (.inl od))), (ho, .inl (g.2.1 2, 108, .inr (.inl po))), (ht, .inl (g.2.1 2, 3, .inr (.inl o1)))]
abbrev paX1_goFurther_53 (B : pz_B) (g : pz_G) (x0 : Int32) (x1 : Int32) (x2 : Int32) (x3 : Int32) (h0 : Nat) (hw : Nat) (gc : Int32) (kc : Int32) (hp : Nat) (hg : Nat) (ho : Nat) (hd : Nat) (ao : Int64) (hf : Nat) (ht : Nat) (hn : Nat) (up : Int64) (lo : Int64) (fu : Nat → Int32) (od : Nat → Int64) (po : Nat → Int64) (oth : Nat → Int64) (k : Nat) (c0 : Nat) (c1 : Nat) (c2 : Nat) (c3 : Nat) (ki : Int32) (w : Int64) (q1 : Int32) (f1 : Nat → Int32) (o1 : Nat → Int64) : Prop := pz_At B 0 0 53 [(0, .ref h0), (1, .int x0), (2, .int x1), (3, .int x2), (4, .int x3), (5, .int ki), (6, .long w), (8, .int q1)] [] [(h0, .inr (1, [.ref hw, .int gc, .int kc, .ref hp, .ref hg, .ref ho, .ref hd, .long ao, .ref hf, .ref ht, .ref hn, .long up, .long lo])), (hf, .inl (g.2.1 1, 4, .inl f1)), (hd, .inl (g.2.1 2, 3, .inr (.inl od))), (ho, .inl (g.2.1 2, 108, .inr (.inl po))), (ht, .inl (g.2.1 2, 3, .inr (.inl o1)))]
set_option maxHeartbeats 4000000 in
set_option maxRecDepth 100000 in
theorem sgX1_goFurther_0 {B : pz_B} {g : pz_G} {wc : va_W} {Post : Option Value → va_W → Prop} (F : pz_F B cX1_goFurther 9 none yX1_goFurther.cls g rmX1_goFurther) (Rt : pz_Rt B g wc Post rmX1_goFurther) (x0 : Int32) (x1 : Int32) (x2 : Int32) (x3 : Int32) (h0 : Nat) (hw : Nat) (gc : Int32) (kc : Int32) (hp : Nat) (hg : Nat) (ho : Nat) (hd : Nat) (ao : Int64) (hf : Nat) (ht : Nat) (hn : Nat) (up : Int64) (lo : Int64) (fu : Nat → Int32) (od : Nat → Int64) (po : Nat → Int64) (oth : Nat → Int64) (k : Nat) (c0 : Nat) (c1 : Nat) (c2 : Nat) (c3 : Nat) (T32 : Int32 → (Nat → Int32) → (Nat → Int64) → Prop) (hT32 : ∀ (ki : Int32) (f1 : Nat → Int32) (o1 : Nat → Int64), T32 ki f1 o1 → paX1_goFurther_32 B g x0 x1 x2 x3 h0 hw gc kc hp hg ho hd ao hf ht hn up lo fu od po oth k c0 c1 c2 c3 ki f1 o1)  (vc : vp_in 0 4 ∧ ∀ f_2 : Nat → Int32, f_2 = upd fu (0 : Int32).toNatClampNeg x0 → vp_in 1 4 ∧ ∀ f_4 : Nat → Int32, f_4 = upd f_2 (1 : Int32).toNatClampNeg x1 → vp_in 2 4 ∧ ∀ f_6 : Nat → Int32, f_6 = upd f_4 (2 : Int32).toNatClampNeg x2 → vp_in 3 4 ∧ ∀ f_8 : Nat → Int32, f_8 = upd f_6 (3 : Int32).toNatClampNeg x3 → T32 0 f_8 oth) : pz_At B 0 0 0 [(0, .ref h0), (1, .int x0), (2, .int x1), (3, .int x2), (4, .int x3)] [] [(h0, .inr (1, [.ref hw, .int gc, .int kc, .ref hp, .ref hg, .ref ho, .ref hd, .long ao, .ref hf, .ref ht, .ref hn, .long up, .long lo])), (hf, .inl (g.2.1 1, 4, .inl fu)), (hd, .inl (g.2.1 2, 3, .inr (.inl od))), (ho, .inl (g.2.1 2, 108, .inr (.inl po))), (ht, .inl (g.2.1 2, 3, .inr (.inl oth)))] := by
  refine pz_aload_n 0 F rfl dX1_goFurther_0 rfl ?_
  refine pz_get (ci := 1) (C := RX1) (T := TX1) (N := 13) (v := .ref hf) 0 F rfl rfl pz_inX1 8 (by decide) pw_122 rfl dX1_goFurther_1 ?_
  refine pz_iconst (v := 0) F dX1_goFurther_4 rfl ?_
  refine pz_iload_n 1 F rfl dX1_goFurther_5 rfl ?_
  obtain ⟨h_1, vc⟩ := vc
  obtain ⟨f_2, ef_2⟩ : ∃ z : Nat → Int32, z = upd fu (0 : Int32).toNatClampNeg x0 := ⟨_, rfl⟩
  replace vc := vc f_2 ef_2
  refine pz_iastore (ws' := [(h0, .inr (1, [.ref hw, .int gc, .int kc, .ref hp, .ref hg, .ref ho, .ref hd, .long ao, .ref hf, .ref ht, .ref hn, .long up, .long lo])), (hf, .inl (g.2.1 1, 4, .inl f_2)), (hd, .inl (g.2.1 2, 3, .inr (.inl od))), (ho, .inl (g.2.1 2, 108, .inr (.inl po))), (ht, .inl (g.2.1 2, 3, .inr (.inl oth)))]) F 1 rfl h_1 dX1_goFurther_6 (by rw [ef_2]; rfl) ?_
  refine pz_aload_n 0 F rfl dX1_goFurther_7 rfl ?_
  refine pz_get (ci := 1) (C := RX1) (T := TX1) (N := 13) (v := .ref hf) 0 F rfl rfl pz_inX1 8 (by decide) pw_122 rfl dX1_goFurther_8 ?_
  refine pz_iconst (v := 1) F dX1_goFurther_11 rfl ?_
  refine pz_iload_n 2 F rfl dX1_goFurther_12 rfl ?_
  obtain ⟨h_3, vc⟩ := vc
  obtain ⟨f_4, ef_4⟩ : ∃ z : Nat → Int32, z = upd f_2 (1 : Int32).toNatClampNeg x1 := ⟨_, rfl⟩
  replace vc := vc f_4 ef_4
  refine pz_iastore (ws' := [(h0, .inr (1, [.ref hw, .int gc, .int kc, .ref hp, .ref hg, .ref ho, .ref hd, .long ao, .ref hf, .ref ht, .ref hn, .long up, .long lo])), (hf, .inl (g.2.1 1, 4, .inl f_4)), (hd, .inl (g.2.1 2, 3, .inr (.inl od))), (ho, .inl (g.2.1 2, 108, .inr (.inl po))), (ht, .inl (g.2.1 2, 3, .inr (.inl oth)))]) F 1 rfl h_3 dX1_goFurther_13 (by rw [ef_4]; rfl) ?_
  refine pz_aload_n 0 F rfl dX1_goFurther_14 rfl ?_
  refine pz_get (ci := 1) (C := RX1) (T := TX1) (N := 13) (v := .ref hf) 0 F rfl rfl pz_inX1 8 (by decide) pw_122 rfl dX1_goFurther_15 ?_
  refine pz_iconst (v := 2) F dX1_goFurther_18 rfl ?_
  refine pz_iload_n 3 F rfl dX1_goFurther_19 rfl ?_
  obtain ⟨h_5, vc⟩ := vc
  obtain ⟨f_6, ef_6⟩ : ∃ z : Nat → Int32, z = upd f_4 (2 : Int32).toNatClampNeg x2 := ⟨_, rfl⟩
  replace vc := vc f_6 ef_6
  refine pz_iastore (ws' := [(h0, .inr (1, [.ref hw, .int gc, .int kc, .ref hp, .ref hg, .ref ho, .ref hd, .long ao, .ref hf, .ref ht, .ref hn, .long up, .long lo])), (hf, .inl (g.2.1 1, 4, .inl f_6)), (hd, .inl (g.2.1 2, 3, .inr (.inl od))), (ho, .inl (g.2.1 2, 108, .inr (.inl po))), (ht, .inl (g.2.1 2, 3, .inr (.inl oth)))]) F 1 rfl h_5 dX1_goFurther_20 (by rw [ef_6]; rfl) ?_
  refine pz_aload_n 0 F rfl dX1_goFurther_21 rfl ?_
  refine pz_get (ci := 1) (C := RX1) (T := TX1) (N := 13) (v := .ref hf) 0 F rfl rfl pz_inX1 8 (by decide) pw_122 rfl dX1_goFurther_22 ?_
  refine pz_iconst (v := 3) F dX1_goFurther_25 rfl ?_
  refine pz_iload 4 F rfl dX1_goFurther_26 ?_
  obtain ⟨h_7, vc⟩ := vc
  obtain ⟨f_8, ef_8⟩ : ∃ z : Nat → Int32, z = upd f_6 (3 : Int32).toNatClampNeg x3 := ⟨_, rfl⟩
  replace vc := vc f_8 ef_8
  refine pz_iastore (ws' := [(h0, .inr (1, [.ref hw, .int gc, .int kc, .ref hp, .ref hg, .ref ho, .ref hd, .long ao, .ref hf, .ref ht, .ref hn, .long up, .long lo])), (hf, .inl (g.2.1 1, 4, .inl f_8)), (hd, .inl (g.2.1 2, 3, .inr (.inl od))), (ho, .inl (g.2.1 2, 108, .inr (.inl po))), (ht, .inl (g.2.1 2, 3, .inr (.inl oth)))]) F 1 rfl h_7 dX1_goFurther_28 (by rw [ef_8]; rfl) ?_
  refine pz_iconst (v := 0) F dX1_goFurther_29 rfl ?_
  refine pz_istore (lv' := [(5, .int 0), (0, .ref h0), (1, .int x0), (2, .int x1), (3, .int x2), (4, .int x3)]) F dX1_goFurther_30 (by decide) rfl ?_
  exact pz_sub [1, 2, 3, 4, 5, 0] [0, 1, 2, 3, 4] rfl rfl rfl (hT32 0 f_8 oth vc)
set_option maxHeartbeats 4000000 in
set_option maxRecDepth 100000 in
theorem sgX1_goFurther_32 {B : pz_B} {g : pz_G} {wc : va_W} {Post : Option Value → va_W → Prop} (F : pz_F B cX1_goFurther 9 none yX1_goFurther.cls g rmX1_goFurther) (Rt : pz_Rt B g wc Post rmX1_goFurther) (x0 : Int32) (x1 : Int32) (x2 : Int32) (x3 : Int32) (h0 : Nat) (hw : Nat) (gc : Int32) (kc : Int32) (hp : Nat) (hg : Nat) (ho : Nat) (hd : Nat) (ao : Int64) (hf : Nat) (ht : Nat) (hn : Nat) (up : Int64) (lo : Int64) (fu : Nat → Int32) (od : Nat → Int64) (po : Nat → Int64) (oth : Nat → Int64) (k : Nat) (c0 : Nat) (c1 : Nat) (c2 : Nat) (c3 : Nat) (T53 : Int32 → Int64 → Int32 → (Nat → Int32) → (Nat → Int64) → Prop) (hT53 : ∀ (ki : Int32) (w : Int64) (q1 : Int32) (f1 : Nat → Int32) (o1 : Nat → Int64), T53 ki w q1 f1 o1 → paX1_goFurther_53 B g x0 x1 x2 x3 h0 hw gc kc hp hg ho hd ao hf ht hn up lo fu od po oth k c0 c1 c2 c3 ki w q1 f1 o1) (ki : Int32) (f1 : Nat → Int32) (o1 : Nat → Int64) (vc : ((kc ≤ ki → Post none [(h0, .inr (1, [.ref hw, .int gc, .int kc, .ref hp, .ref hg, .ref ho, .ref hd, .long ao, .ref hf, .ref ht, .ref hn, .long up, .long lo])), (hf, .inl (g.2.1 1, 4, .inl f1)), (hd, .inl (g.2.1 2, 3, .inr (.inl od))), (ho, .inl (g.2.1 2, 108, .inr (.inl po))), (ht, .inl (g.2.1 2, 3, .inr (.inl o1)))]) ∧ (¬ kc ≤ ki → vp_in ki 3 ∧ ∀ x_3 : Int64, x_3 = (od ki.toNatClampNeg) → T53 ki x_3 0 f1 o1))) : pz_At B 0 0 32 [(0, .ref h0), (1, .int x0), (2, .int x1), (3, .int x2), (4, .int x3), (5, .int ki)] [] [(h0, .inr (1, [.ref hw, .int gc, .int kc, .ref hp, .ref hg, .ref ho, .ref hd, .long ao, .ref hf, .ref ht, .ref hn, .long up, .long lo])), (hf, .inl (g.2.1 1, 4, .inl f1)), (hd, .inl (g.2.1 2, 3, .inr (.inl od))), (ho, .inl (g.2.1 2, 108, .inr (.inl po))), (ht, .inl (g.2.1 2, 3, .inr (.inl o1)))] := by
  refine pz_iload 5 F rfl dX1_goFurther_32 ?_
  refine pz_aload_n 0 F rfl dX1_goFurther_34 rfl ?_
  refine pz_get (ci := 1) (C := RX1) (T := TX1) (N := 13) (v := .int kc) 0 F rfl rfl pz_inX1 2 (by decide) pw_115 rfl dX1_goFurther_35 ?_
  refine pz_icmp_ge (tgt := 108) F dX1_goFurther_38 (by decide) (fun q_1 => ?_) (fun q_1 => ?_)
  · replace vc := vc.1 q_1
    exact pz_return (w1 := [(h0, .inr (1, [.ref hw, .int gc, .int kc, .ref hp, .ref hg, .ref ho, .ref hd, .long ao, .ref hf, .ref ht, .ref hn, .long up, .long lo])), (hf, .inl (g.2.1 1, 4, .inl f1)), (hd, .inl (g.2.1 2, 3, .inr (.inl od))), (ho, .inl (g.2.1 2, 108, .inr (.inl po))), (ht, .inl (g.2.1 2, 3, .inr (.inl o1)))]) F Rt (by decide) (by decide) dX1_goFurther_108 [0, 1, 2, 3, 4] rfl rfl vc
  · replace vc := vc.2 q_1
    refine pz_aload_n 0 F rfl dX1_goFurther_41 rfl ?_
    refine pz_get (ci := 1) (C := RX1) (T := TX1) (N := 13) (v := .ref hd) 0 F rfl rfl pz_inX1 6 (by decide) pw_120 rfl dX1_goFurther_42 ?_
    refine pz_iload 5 F rfl dX1_goFurther_45 ?_
    obtain ⟨h_2, vc⟩ := vc
    refine pz_laload 2 F rfl h_2 dX1_goFurther_47 ?_
    refine pz_topl (fun x_3 ex_3 => ?_)
    replace vc := vc x_3 ex_3
    refine pz_lstore (lv' := [(6, .long x_3), (0, .ref h0), (1, .int x0), (2, .int x1), (3, .int x2), (4, .int x3), (5, .int ki)]) F dX1_goFurther_48 (by decide) rfl ?_
    refine pz_iconst (v := 0) F dX1_goFurther_50 rfl ?_
    refine pz_istore (lv' := [(8, .int 0), (6, .long x_3), (0, .ref h0), (1, .int x0), (2, .int x1), (3, .int x2), (4, .int x3), (5, .int ki)]) F dX1_goFurther_51 (by decide) rfl ?_
    exact pz_sub [2, 3, 4, 5, 6, 7, 1, 0] [0, 1, 2, 3, 4] rfl rfl rfl (hT53 ki x_3 0 f1 o1 vc)
set_option maxHeartbeats 4000000 in
set_option maxRecDepth 100000 in
theorem sgX1_goFurther_53 {B : pz_B} {g : pz_G} {wc : va_W} {Post : Option Value → va_W → Prop} (F : pz_F B cX1_goFurther 9 none yX1_goFurther.cls g rmX1_goFurther) (Rt : pz_Rt B g wc Post rmX1_goFurther) (x0 : Int32) (x1 : Int32) (x2 : Int32) (x3 : Int32) (h0 : Nat) (hw : Nat) (gc : Int32) (kc : Int32) (hp : Nat) (hg : Nat) (ho : Nat) (hd : Nat) (ao : Int64) (hf : Nat) (ht : Nat) (hn : Nat) (up : Int64) (lo : Int64) (fu : Nat → Int32) (od : Nat → Int64) (po : Nat → Int64) (oth : Nat → Int64) (k : Nat) (c0 : Nat) (c1 : Nat) (c2 : Nat) (c3 : Nat) (T32 : Int32 → (Nat → Int32) → (Nat → Int64) → Prop) (hT32 : ∀ (ki : Int32) (f1 : Nat → Int32) (o1 : Nat → Int64), T32 ki f1 o1 → paX1_goFurther_32 B g x0 x1 x2 x3 h0 hw gc kc hp hg ho hd ao hf ht hn up lo fu od po oth k c0 c1 c2 c3 ki f1 o1) (T53 : Int32 → Int64 → Int32 → (Nat → Int32) → (Nat → Int64) → Prop) (hT53 : ∀ (ki : Int32) (w : Int64) (q1 : Int32) (f1 : Nat → Int32) (o1 : Nat → Int64), T53 ki w q1 f1 o1 → paX1_goFurther_53 B g x0 x1 x2 x3 h0 hw gc kc hp hg ho hd ao hf ht hn up lo fu od po oth k c0 c1 c2 c3 ki w q1 f1 o1) (ki : Int32) (w : Int64) (q1 : Int32) (f1 : Nat → Int32) (o1 : Nat → Int64) (vc : (((4 : Int32) ≤ q1 → vp_in ki 3 ∧ ∀ f_3 : Nat → Int64, f_3 = vp_updL o1 ki.toNatClampNeg w → ∀ x_4 : Int32, x_4 = ki + 1 → T32 x_4 f1 f_3) ∧ (¬ (4 : Int32) ≤ q1 → vp_in q1 4 ∧ vp_in ((((ki * 4) + q1) * 9) + (f1 q1.toNatClampNeg)) 108 ∧ ∀ x_7 : Int64, x_7 = (w * (po ((((ki * 4) + q1) * 9) + (f1 q1.toNatClampNeg)).toNatClampNeg)) → ∀ x_8 : Int32, x_8 = q1 + 1 → T53 ki x_7 x_8 f1 o1))) : pz_At B 0 0 53 [(0, .ref h0), (1, .int x0), (2, .int x1), (3, .int x2), (4, .int x3), (5, .int ki), (6, .long w), (8, .int q1)] [] [(h0, .inr (1, [.ref hw, .int gc, .int kc, .ref hp, .ref hg, .ref ho, .ref hd, .long ao, .ref hf, .ref ht, .ref hn, .long up, .long lo])), (hf, .inl (g.2.1 1, 4, .inl f1)), (hd, .inl (g.2.1 2, 3, .inr (.inl od))), (ho, .inl (g.2.1 2, 108, .inr (.inl po))), (ht, .inl (g.2.1 2, 3, .inr (.inl o1)))] := by
  refine pz_iload 7 F rfl dX1_goFurther_53 ?_
  refine pz_iconst (v := 4) F dX1_goFurther_55 rfl ?_
  refine pz_icmp_ge (tgt := 93) F dX1_goFurther_56 (by decide) (fun q_1 => ?_) (fun q_1 => ?_)
  · replace vc := vc.1 q_1
    refine pz_aload_n 0 F rfl dX1_goFurther_93 rfl ?_
    refine pz_get (ci := 1) (C := RX1) (T := TX1) (N := 13) (v := .ref ht) 0 F rfl rfl pz_inX1 9 (by decide) pw_123 rfl dX1_goFurther_94 ?_
    refine pz_iload 5 F rfl dX1_goFurther_97 ?_
    refine pz_lload 6 F rfl dX1_goFurther_99 ?_
    obtain ⟨h_2, vc⟩ := vc
    obtain ⟨f_3, ef_3⟩ : ∃ z : Nat → Int64, z = vp_updL o1 ki.toNatClampNeg w := ⟨_, rfl⟩
    replace vc := vc f_3 ef_3
    refine pz_lastore (ws' := [(h0, .inr (1, [.ref hw, .int gc, .int kc, .ref hp, .ref hg, .ref ho, .ref hd, .long ao, .ref hf, .ref ht, .ref hn, .long up, .long lo])), (hf, .inl (g.2.1 1, 4, .inl f1)), (hd, .inl (g.2.1 2, 3, .inr (.inl od))), (ho, .inl (g.2.1 2, 108, .inr (.inl po))), (ht, .inl (g.2.1 2, 3, .inr (.inl f_3)))]) F 4 rfl h_2 dX1_goFurther_101 (by rw [ef_3]; rfl) ?_
    obtain ⟨x_4, ex_4⟩ : ∃ z : Int32, z = ki + 1 := ⟨_, rfl⟩
    replace vc := vc x_4 ex_4
    refine pz_iinc (v := x_4) (lv' := [(5, .int x_4), (0, .ref h0), (1, .int x0), (2, .int x1), (3, .int x2), (4, .int x3), (6, .long w), (8, .int q1)]) 5 F rfl dX1_goFurther_102 (by rw [ex_4]; rfl) (by decide) rfl ?_
    refine pz_goto (tgt := 32) F dX1_goFurther_105 (by decide) ?_
    exact pz_sub [1, 2, 3, 4, 5, 0] [0, 1, 2, 3, 4] rfl rfl rfl (hT32 x_4 f1 f_3 vc)
  · replace vc := vc.2 q_1
    refine pz_lload 6 F rfl dX1_goFurther_59 ?_
    refine pz_aload_n 0 F rfl dX1_goFurther_61 rfl ?_
    refine pz_get (ci := 1) (C := RX1) (T := TX1) (N := 13) (v := .ref ho) 0 F rfl rfl pz_inX1 5 (by decide) pw_119 rfl dX1_goFurther_62 ?_
    refine pz_iload 5 F rfl dX1_goFurther_65 ?_
    refine pz_iconst (v := 4) F dX1_goFurther_67 rfl ?_
    refine pz_imul F dX1_goFurther_68 ?_
    refine pz_iload 7 F rfl dX1_goFurther_69 ?_
    refine pz_iadd F dX1_goFurther_71 ?_
    refine pz_bipush (v := 9) F dX1_goFurther_72 rfl ?_
    refine pz_imul F dX1_goFurther_74 ?_
    refine pz_aload_n 0 F rfl dX1_goFurther_75 rfl ?_
    refine pz_get (ci := 1) (C := RX1) (T := TX1) (N := 13) (v := .ref hf) 0 F rfl rfl pz_inX1 8 (by decide) pw_122 rfl dX1_goFurther_76 ?_
    refine pz_iload 7 F rfl dX1_goFurther_79 ?_
    obtain ⟨h_5, vc⟩ := vc
    refine pz_iaload 1 F rfl h_5 dX1_goFurther_81 ?_
    refine pz_iadd F dX1_goFurther_82 ?_
    obtain ⟨h_6, vc⟩ := vc
    refine pz_laload 3 F rfl h_6 dX1_goFurther_83 ?_
    refine pz_lmul F dX1_goFurther_84 ?_
    refine pz_topl (fun x_7 ex_7 => ?_)
    replace vc := vc x_7 ex_7
    refine pz_lstore (lv' := [(6, .long x_7), (0, .ref h0), (1, .int x0), (2, .int x1), (3, .int x2), (4, .int x3), (5, .int ki), (8, .int q1)]) F dX1_goFurther_85 (by decide) rfl ?_
    obtain ⟨x_8, ex_8⟩ : ∃ z : Int32, z = q1 + 1 := ⟨_, rfl⟩
    replace vc := vc x_8 ex_8
    refine pz_iinc (v := x_8) (lv' := [(8, .int x_8), (6, .long x_7), (0, .ref h0), (1, .int x0), (2, .int x1), (3, .int x2), (4, .int x3), (5, .int ki)]) 7 F rfl dX1_goFurther_87 (by rw [ex_8]; rfl) (by decide) rfl ?_
    refine pz_goto (tgt := 53) F dX1_goFurther_90 (by decide) ?_
    exact pz_sub [2, 3, 4, 5, 6, 7, 1, 0] [0, 1, 2, 3, 4] rfl rfl rfl (hT53 ki x_7 x_8 f1 o1 vc)
theorem lpX1_goFurther_53 {B : pz_B} {g : pz_G} {wc : va_W} {Post : Option Value → va_W → Prop} (F : pz_F B cX1_goFurther 9 none yX1_goFurther.cls g rmX1_goFurther) (Rt : pz_Rt B g wc Post rmX1_goFurther) (x0 : Int32) (x1 : Int32) (x2 : Int32) (x3 : Int32) (h0 : Nat) (hw : Nat) (gc : Int32) (kc : Int32) (hp : Nat) (hg : Nat) (ho : Nat) (hd : Nat) (ao : Int64) (hf : Nat) (ht : Nat) (hn : Nat) (up : Int64) (lo : Int64) (fu : Nat → Int32) (od : Nat → Int64) (po : Nat → Int64) (oth : Nat → Int64) (k : Nat) (c0 : Nat) (c1 : Nat) (c2 : Nat) (c3 : Nat) (T32 : Int32 → (Nat → Int32) → (Nat → Int64) → Prop) (hT32 : ∀ (ki : Int32) (f1 : Nat → Int32) (o1 : Nat → Int64), T32 ki f1 o1 → paX1_goFurther_32 B g x0 x1 x2 x3 h0 hw gc kc hp hg ho hd ao hf ht hn up lo fu od po oth k c0 c1 c2 c3 ki f1 o1) (Inv : Nat → Int32 → Int64 → Int32 → (Nat → Int32) → (Nat → Int64) → Prop) (step : ∀ (mz : Nat) (ki : Int32) (w : Int64) (q1 : Int32) (f1 : Nat → Int32) (o1 : Nat → Int64), Inv mz ki w q1 f1 o1 → ∀ TT : Int32 → Int64 → Int32 → (Nat → Int32) → (Nat → Int64) → Prop, TT = (fun ki w q1 f1 o1 => ∃ mz', mz' < mz ∧ Inv mz' ki w q1 f1 o1) → (((4 : Int32) ≤ q1 → vp_in ki 3 ∧ ∀ f_3 : Nat → Int64, f_3 = vp_updL o1 ki.toNatClampNeg w → ∀ x_4 : Int32, x_4 = ki + 1 → T32 x_4 f1 f_3) ∧ (¬ (4 : Int32) ≤ q1 → vp_in q1 4 ∧ vp_in ((((ki * 4) + q1) * 9) + (f1 q1.toNatClampNeg)) 108 ∧ ∀ x_7 : Int64, x_7 = (w * (po ((((ki * 4) + q1) * 9) + (f1 q1.toNatClampNeg)).toNatClampNeg)) → ∀ x_8 : Int32, x_8 = q1 + 1 → TT ki x_7 x_8 f1 o1))) : ∀ (mz : Nat) (ki : Int32) (w : Int64) (q1 : Int32) (f1 : Nat → Int32) (o1 : Nat → Int64), Inv mz ki w q1 f1 o1 → paX1_goFurther_53 B g x0 x1 x2 x3 h0 hw gc kc hp hg ho hd ao hf ht hn up lo fu od po oth k c0 c1 c2 c3 ki w q1 f1 o1 := by
  intro mz
  induction mz using Nat.strongRecOn with
  | _ mz ih =>
    intro ki w q1 f1 o1 hI
    exact sgX1_goFurther_53 F Rt x0 x1 x2 x3 h0 hw gc kc hp hg ho hd ao hf ht hn up lo fu od po oth k c0 c1 c2 c3 T32 hT32 (fun ki w q1 f1 o1 => ∃ mz', mz' < mz ∧ Inv mz' ki w q1 f1 o1) (fun ki w q1 f1 o1 ⟨mz', h1, h2⟩ => ih mz' h1 ki w q1 f1 o1 h2) ki w q1 f1 o1 (step mz ki w q1 f1 o1 hI _ rfl)
set_option maxHeartbeats 4000000 in
set_option maxRecDepth 100000 in
theorem ctX1_goFurther (l : Launch) (g : pz_G) (x0 : Int32) (x1 : Int32) (x2 : Int32) (x3 : Int32) (h0 : Nat) (hw : Nat) (gc : Int32) (kc : Int32) (hp : Nat) (hg : Nat) (ho : Nat) (hd : Nat) (ao : Int64) (hf : Nat) (ht : Nat) (hn : Nat) (up : Int64) (lo : Int64) (fu : Nat → Int32) (od : Nat → Int64) (po : Nat → Int64) (oth : Nat → Int64) (k : Nat) (c0 : Nat) (c1 : Nat) (c2 : Nat) (c3 : Nat) (hpre : k ≤ 3 ∧ c0 ≤ 8 ∧ c1 ≤ 8 ∧ c2 ≤ 8 ∧ c3 ≤ 8 ∧ kc = nI k ∧ x0 = nI c0 ∧ x1 = nI c1 ∧ x2 = nI c2 ∧ x3 = nI c3) : pz_Ct l g yX1_goFurther cX1_goFurther 9 none rmX1_goFurther [.ref h0, .int x0, .int x1, .int x2, .int x3] [(h0, .inr (1, [.ref hw, .int gc, .int kc, .ref hp, .ref hg, .ref ho, .ref hd, .long ao, .ref hf, .ref ht, .ref hn, .long up, .long lo])), (hf, .inl (g.2.1 1, 4, .inl fu)), (hd, .inl (g.2.1 2, 3, .inr (.inl od))), (ho, .inl (g.2.1 2, 108, .inr (.inl po))), (ht, .inl (g.2.1 2, 3, .inr (.inl oth)))] (pz_pv (fun (u : (Nat → Int32) × (Nat → Int64)) => u.1 0 = x0 ∧ u.1 1 = x1 ∧ u.1 2 = x2 ∧ u.1 3 = x3 ∧ ∀ a, a < k → u.2 a = pu_of (od a) po u.1 a 4) (fun (u : (Nat → Int32) × (Nat → Int64)) => [(h0, .inr (1, [.ref hw, .int gc, .int kc, .ref hp, .ref hg, .ref ho, .ref hd, .long ao, .ref hf, .ref ht, .ref hn, .long up, .long lo])), (hf, .inl (g.2.1 1, 4, .inl u.1)), (hd, .inl (g.2.1 2, 3, .inr (.inl od))), (ho, .inl (g.2.1 2, 108, .inr (.inl po))), (ht, .inl (g.2.1 2, 3, .inr (.inl u.2)))])) := by
  refine pz_ofAt (by decide +kernel) (Nat.le_of_ble_eq_true rfl) (fun B F Rt hme => ?_)
  obtain ⟨hk, k0, k1, k2, k3, h1, e0, e1, e2, e3⟩ := hpre
  subst h1; subst e0; subst e1; subst e2; subst e3
  refine sgX1_goFurther_0 F Rt (nI c0) (nI c1) (nI c2) (nI c3) h0 hw gc (nI k) hp hg ho hd ao hf ht hn up lo fu od po oth k c0 c1 c2 c3 (fun ki f1 o1 => ∃ j, j ≤ k ∧ ki = nI j ∧ (f1 0 = nI c0 ∧ f1 1 = nI c1 ∧ f1 2 = nI c2 ∧ f1 3 = nI c3) ∧ ∀ a, a < j → o1 a = pu_of (od a) po f1 a 4) ?_ ?_
  · have key : ∀ (m : Nat) (ki : Int32) (f1 : Nat → Int32) (o1 : Nat → Int64), (∃ j, j + m = k ∧ ki = nI j ∧ (f1 0 = nI c0 ∧ f1 1 = nI c1 ∧ f1 2 = nI c2 ∧ f1 3 = nI c3) ∧ ∀ a, a < j → o1 a = pu_of (od a) po f1 a 4) → paX1_goFurther_32 B g (nI c0) (nI c1) (nI c2) (nI c3) h0 hw gc (nI k) hp hg ho hd ao hf ht hn up lo fu od po oth k c0 c1 c2 c3 ki f1 o1 := by
      intro m
      induction m using Nat.strongRecOn with
      | _ m ih =>
        rintro ki f1 o1 ⟨j, hj, rfl, hff, ho1⟩
        have hfin : ∀ q, q < 4 → ∃ v, v ≤ 8 ∧ f1 q = nI v := by
          intro q hq
          rcases (show q = 0 ∨ q = 1 ∨ q = 2 ∨ q = 3 by omega) with rfl | rfl | rfl | rfl
          · exact ⟨c0, k0, hff.1⟩
          · exact ⟨c1, k1, hff.2.1⟩
          · exact ⟨c2, k2, hff.2.2.1⟩
          · exact ⟨c3, k3, hff.2.2.2⟩
        refine sgX1_goFurther_32 F Rt (nI c0) (nI c1) (nI c2) (nI c3) h0 hw gc (nI k) hp hg ho hd ao hf ht hn up lo fu od po oth k c0 c1 c2 c3 (fun ki w q1 f2 o2 => ki = nI j ∧ j < k ∧ f2 = f1 ∧ o2 = o1 ∧ ∃ q, q ≤ 4 ∧ q1 = nI q ∧ w = pu_of (od j) po f1 j q) ?_ (nI j) f1 o1 ?_
        · rintro ki w q1 f2 o2 ⟨rfl, hjk, rfl, rfl, q, hq, rfl, rfl⟩
          refine lpX1_goFurther_53 F Rt (nI c0) (nI c1) (nI c2) (nI c3) h0 hw gc (nI k) hp hg ho hd ao hf ht hn up lo fu od po oth k c0 c1 c2 c3 (fun ki f1 o1 => ∃ m', m' < m ∧ ∃ j, j + m' = k ∧ ki = nI j ∧ (f1 0 = nI c0 ∧ f1 1 = nI c1 ∧ f1 2 = nI c2 ∧ f1 3 = nI c3) ∧ ∀ a, a < j → o1 a = pu_of (od a) po f1 a 4) (fun ki f1 o1 ⟨m', h1, h2⟩ => ih m' h1 ki f1 o1 h2) (fun z ki w q1 f3 o3 => ki = nI j ∧ f3 = f2 ∧ o3 = o2 ∧ ∃ q, q + z = 4 ∧ q1 = nI q ∧ w = pu_of (od j) po f2 j q) ?_ (4 - q) _ _ _ f2 o2 ⟨rfl, rfl, rfl, q, by omega, rfl, rfl⟩
          rintro z ki w q1 f3 o3 ⟨rfl, rfl, rfl, q, hq, rfl, rfl⟩ TT rfl
          refine ⟨fun q2 => ?_, fun q2 => ?_⟩
          · have h1 := pu_ge (n := 4) (by omega) q2
            refine ⟨vp_in_nI (by omega) (by omega), ?_⟩
            rintro f rfl x rfl
            rw [nI_clamp (by omega), show q = 4 by omega]
            refine ⟨m - 1, by omega, j + 1, by omega, nI_1 j, hff, fun a ha => ?_⟩
            by_cases h2 : a = j
            · rw [h2, pk_uLs]
            · rw [pk_uLn h2]; exact ho1 a (by omega)
          · have h1 := pu_lt (n := 4) (by omega) (by omega) q2
            obtain ⟨v, hv, hv2⟩ := hfin q h1
            rw [nI_clamp (n := q) (by omega), hv2]
            have e4 : (nI j * 4 + nI q) * 9 + nI v = nI ((4 * j + q) * 9 + v) := by rw [show (4 : Int32) = nI 4 from rfl, show (9 : Int32) = nI 9 from rfl, pk_mul, nI_add, pk_mul, nI_add, Nat.mul_comm j 4]
            rw [e4]
            refine ⟨vp_in_nI (by omega) (by omega), vp_in_nI (by omega) (by omega), ?_⟩
            rintro x rfl y rfl
            refine ⟨z - 1, by omega, rfl, rfl, rfl, q + 1, by omega, nI_1 q, ?_⟩
            rw [pu_of, hv2, nI_clamp (by omega), nI_clamp (by omega)]
        · refine ⟨fun q => ?_, fun q => ?_⟩
          · have h1 := pu_ge (by omega) q
            have e : j = k := by omega
            subst e
            exact ⟨(f1, o1), rfl, rfl, hff.1, hff.2.1, hff.2.2.1, hff.2.2.2, ho1⟩
          · have h1 := pu_lt (by omega) (by omega) q
            refine ⟨vp_in_nI (by omega) (by omega), ?_⟩
            rintro x rfl
            rw [nI_clamp (by omega)]
            exact ⟨rfl, h1, rfl, rfl, 0, by omega, nI_0.symm, rfl⟩
    rintro ki f1 o1 ⟨j, hj, h⟩
    exact key (k - j) ki f1 o1 ⟨j, by omega, h⟩
  · refine ⟨vp_in_nI (n := 0) (by omega) (by omega), ?_⟩
    rintro f rfl
    refine ⟨vp_in_nI (n := 1) (by omega) (by omega), ?_⟩
    rintro f2 rfl
    refine ⟨vp_in_nI (n := 2) (by omega) (by omega), ?_⟩
    rintro f3 rfl
    refine ⟨vp_in_nI (n := 3) (by omega) (by omega), ?_⟩
    rintro f4 rfl
    exact ⟨0, by omega, nI_0.symm, ⟨rfl, rfl, rfl, rfl⟩, fun a ha => absurd ha (by omega)⟩
abbrev rmX1_addKind : Room := { frames := 1, cells := 0, slots := 0, locals := 26 }
set_option maxHeartbeats 4000000 in
set_option maxRecDepth 100000 in
theorem sgX1_addKind_0 {B : pz_B} {g : pz_G} {wc : va_W} {Post : Option Value → va_W → Prop} (F : pz_F B cX1_addKind 6 (some .int) yX1_addKind.cls g rmX1_addKind) (Rt : pz_Rt B g wc Post rmX1_addKind) (p : Int32) (w0 : Int32) (w1 : Int32) (w2 : Int32) (w3 : Int32) (h0 : Nat) (hw : Nat) (gc : Int32) (kc : Int32) (hp : Nat) (hg : Nat) (ho : Nat) (hd : Nat) (ao : Int64) (hf : Nat) (ht : Nat) (hn : Nat) (up : Int64) (lo : Int64) (pr : Nat → Int32) (we : Nat → Int32) (po : Nat → Int64) (k : Nat)  (vc : ((p < 1 → Post (some (.int (-1))) [(h0, .inr (1, [.ref hw, .int gc, .int kc, .ref hp, .ref hg, .ref ho, .ref hd, .long ao, .ref hf, .ref ht, .ref hn, .long up, .long lo])), (hp, .inl (g.2.1 1, 3, .inl pr)), (hg, .inl (g.2.1 1, 12, .inl we)), (ho, .inl (g.2.1 2, 108, .inr (.inl po)))]) ∧ (¬ p < 1 → (((99 : Int32) < p → Post (some (.int (-1))) [(h0, .inr (1, [.ref hw, .int gc, .int kc, .ref hp, .ref hg, .ref ho, .ref hd, .long ao, .ref hf, .ref ht, .ref hn, .long up, .long lo])), (hp, .inl (g.2.1 1, 3, .inl pr)), (hg, .inl (g.2.1 1, 12, .inl we)), (ho, .inl (g.2.1 2, 108, .inr (.inl po)))]) ∧ (¬ (99 : Int32) < p → ((kc < 3 → ∀ r_4 : Int32, ∀ _ : (r_4 = pu_cw gc 0 w0), ((r_4 = 0 → Post (some (.int (-1))) [(h0, .inr (1, [.ref hw, .int gc, .int kc, .ref hp, .ref hg, .ref ho, .ref hd, .long ao, .ref hf, .ref ht, .ref hn, .long up, .long lo])), (hp, .inl (g.2.1 1, 3, .inl pr)), (hg, .inl (g.2.1 1, 12, .inl we)), (ho, .inl (g.2.1 2, 108, .inr (.inl po)))]) ∧ (¬ r_4 = 0 → ∀ r_7 : Int32, ∀ _ : (r_7 = pu_cw gc 1 w1), ((r_7 = 0 → Post (some (.int (-1))) [(h0, .inr (1, [.ref hw, .int gc, .int kc, .ref hp, .ref hg, .ref ho, .ref hd, .long ao, .ref hf, .ref ht, .ref hn, .long up, .long lo])), (hp, .inl (g.2.1 1, 3, .inl pr)), (hg, .inl (g.2.1 1, 12, .inl we)), (ho, .inl (g.2.1 2, 108, .inr (.inl po)))]) ∧ (¬ r_7 = 0 → ∀ r_10 : Int32, ∀ _ : (r_10 = pu_cw gc 2 w2), ((r_10 = 0 → Post (some (.int (-1))) [(h0, .inr (1, [.ref hw, .int gc, .int kc, .ref hp, .ref hg, .ref ho, .ref hd, .long ao, .ref hf, .ref ht, .ref hn, .long up, .long lo])), (hp, .inl (g.2.1 1, 3, .inl pr)), (hg, .inl (g.2.1 1, 12, .inl we)), (ho, .inl (g.2.1 2, 108, .inr (.inl po)))]) ∧ (¬ r_10 = 0 → ∀ r_13 : Int32, ∀ _ : (r_13 = pu_cw gc 3 w3), ((¬ r_13 = 0 → (((((w0 + w1) + w2) + w3) = 16 → vp_in kc 3 ∧ ∀ f_18 : Nat → Int32, f_18 = upd pr kc.toNatClampNeg p → (k < 3 ∧ 0 < 4 ∧ kc = nI k ∧ 0 = nI 0) ∧ ∀ we2_20 : Nat → Int32, ∀ po2_21 : Nat → Int64, ∀ _ : (we2_20 = upd we (4 * k + 0) w0 ∧ ∀ a, a < 108 → po2_21 a = if (4 * k + 0) * 9 ≤ a ∧ a < (4 * k + 0) * 9 + 9 then pu_pw w0 (a - (4 * k + 0) * 9) else po a), ∃ q_23 : Nat, (k < 3 ∧ q_23 < 4 ∧ kc = nI k ∧ 1 = nI q_23) ∧ ∀ we2_25 : Nat → Int32, ∀ po2_26 : Nat → Int64, ∀ _ : (we2_25 = upd we2_20 (4 * k + q_23) w1 ∧ ∀ a, a < 108 → po2_26 a = if (4 * k + q_23) * 9 ≤ a ∧ a < (4 * k + q_23) * 9 + 9 then pu_pw w1 (a - (4 * k + q_23) * 9) else po2_21 a), ∃ q_28 : Nat, (k < 3 ∧ q_28 < 4 ∧ kc = nI k ∧ 2 = nI q_28) ∧ ∀ we2_30 : Nat → Int32, ∀ po2_31 : Nat → Int64, ∀ _ : (we2_30 = upd we2_25 (4 * k + q_28) w2 ∧ ∀ a, a < 108 → po2_31 a = if (4 * k + q_28) * 9 ≤ a ∧ a < (4 * k + q_28) * 9 + 9 then pu_pw w2 (a - (4 * k + q_28) * 9) else po2_26 a), ∃ q_33 : Nat, (k < 3 ∧ q_33 < 4 ∧ kc = nI k ∧ 3 = nI q_33) ∧ ∀ we2_35 : Nat → Int32, ∀ po2_36 : Nat → Int64, ∀ _ : (we2_35 = upd we2_30 (4 * k + q_33) w3 ∧ ∀ a, a < 108 → po2_36 a = if (4 * k + q_33) * 9 ≤ a ∧ a < (4 * k + q_33) * 9 + 9 then pu_pw w3 (a - (4 * k + q_33) * 9) else po2_31 a), ∀ x_38 : Int32, x_38 = (kc + 1) → ∀ x_39 : Int32, x_39 = (x_38 - 1) → Post (some (.int x_39)) [(h0, .inr (1, [.ref hw, .int gc, .int x_38, .ref hp, .ref hg, .ref ho, .ref hd, .long ao, .ref hf, .ref ht, .ref hn, .long up, .long lo])), (hp, .inl (g.2.1 1, 3, .inl f_18)), (hg, .inl (g.2.1 1, 12, .inl we2_35)), (ho, .inl (g.2.1 2, 108, .inr (.inl po2_36)))]) ∧ (¬ (((w0 + w1) + w2) + w3) = 16 → Post (some (.int (-1))) [(h0, .inr (1, [.ref hw, .int gc, .int kc, .ref hp, .ref hg, .ref ho, .ref hd, .long ao, .ref hf, .ref ht, .ref hn, .long up, .long lo])), (hp, .inl (g.2.1 1, 3, .inl pr)), (hg, .inl (g.2.1 1, 12, .inl we)), (ho, .inl (g.2.1 2, 108, .inr (.inl po)))]))) ∧ (r_13 = 0 → Post (some (.int (-1))) [(h0, .inr (1, [.ref hw, .int gc, .int kc, .ref hp, .ref hg, .ref ho, .ref hd, .long ao, .ref hf, .ref ht, .ref hn, .long up, .long lo])), (hp, .inl (g.2.1 1, 3, .inl pr)), (hg, .inl (g.2.1 1, 12, .inl we)), (ho, .inl (g.2.1 2, 108, .inr (.inl po)))]))))))))) ∧ (¬ kc < 3 → Post (some (.int (-1))) [(h0, .inr (1, [.ref hw, .int gc, .int kc, .ref hp, .ref hg, .ref ho, .ref hd, .long ao, .ref hf, .ref ht, .ref hn, .long up, .long lo])), (hp, .inl (g.2.1 1, 3, .inl pr)), (hg, .inl (g.2.1 1, 12, .inl we)), (ho, .inl (g.2.1 2, 108, .inr (.inl po)))]))))))) : pz_At B 0 0 0 [(0, .ref h0), (1, .int p), (2, .int w0), (3, .int w1), (4, .int w2), (5, .int w3)] [] [(h0, .inr (1, [.ref hw, .int gc, .int kc, .ref hp, .ref hg, .ref ho, .ref hd, .long ao, .ref hf, .ref ht, .ref hn, .long up, .long lo])), (hp, .inl (g.2.1 1, 3, .inl pr)), (hg, .inl (g.2.1 1, 12, .inl we)), (ho, .inl (g.2.1 2, 108, .inr (.inl po)))] := by
  refine pz_iload_n 1 F rfl dX1_addKind_0 rfl ?_
  refine pz_iconst (v := 1) F dX1_addKind_1 rfl ?_
  refine pz_icmp_lt (tgt := 19) F dX1_addKind_2 (by decide) (fun q_1 => ?_) (fun q_1 => ?_)
  · replace vc := vc.1 q_1
    refine pz_iconst (v := (-1)) F dX1_addKind_19 rfl ?_
    exact pz_ireturn (w1 := [(h0, .inr (1, [.ref hw, .int gc, .int kc, .ref hp, .ref hg, .ref ho, .ref hd, .long ao, .ref hf, .ref ht, .ref hn, .long up, .long lo])), (hp, .inl (g.2.1 1, 3, .inl pr)), (hg, .inl (g.2.1 1, 12, .inl we)), (ho, .inl (g.2.1 2, 108, .inr (.inl po)))]) F Rt (by decide) (by decide) dX1_addKind_20 [0, 1, 2, 3] rfl rfl rfl vc
  · replace vc := vc.2 q_1
    refine pz_iload_n 1 F rfl dX1_addKind_5 rfl ?_
    refine pz_bipush (v := 99) F dX1_addKind_6 rfl ?_
    refine pz_icmp_gt (tgt := 19) F dX1_addKind_8 (by decide) (fun q_2 => ?_) (fun q_2 => ?_)
    · replace vc := vc.1 q_2
      refine pz_iconst (v := (-1)) F dX1_addKind_19 rfl ?_
      exact pz_ireturn (w1 := [(h0, .inr (1, [.ref hw, .int gc, .int kc, .ref hp, .ref hg, .ref ho, .ref hd, .long ao, .ref hf, .ref ht, .ref hn, .long up, .long lo])), (hp, .inl (g.2.1 1, 3, .inl pr)), (hg, .inl (g.2.1 1, 12, .inl we)), (ho, .inl (g.2.1 2, 108, .inr (.inl po)))]) F Rt (by decide) (by decide) dX1_addKind_20 [0, 1, 2, 3] rfl rfl rfl vc
    · replace vc := vc.2 q_2
      refine pz_aload_n 0 F rfl dX1_addKind_11 rfl ?_
      refine pz_get (ci := 1) (C := RX1) (T := TX1) (N := 13) (v := .int kc) 0 F rfl rfl pz_inX1 2 (by decide) pw_115 rfl dX1_addKind_12 ?_
      refine pz_iconst (v := 3) F dX1_addKind_15 rfl ?_
      refine pz_icmp_lt (tgt := 21) F dX1_addKind_16 (by decide) (fun q_3 => ?_) (fun q_3 => ?_)
      · replace vc := vc.1 q_3
        refine pz_aload_n 0 F rfl dX1_addKind_21 rfl ?_
        refine pz_iconst (v := 0) F dX1_addKind_22 rfl ?_
        refine pz_iload_n 2 F rfl dX1_addKind_23 rfl ?_
        refine pz_callV (nA := 2) (ci := 1) (C := RX1) (T := TX1) (N := 13) (As := [.int 0, .int w0]) (rest := []) (wr := [(hp, .inl (g.2.1 1, 3, .inl pr)), (hg, .inl (g.2.1 1, 12, .inl we)), (ho, .inl (g.2.1 2, 108, .inr (.inl po)))]) F (ctX1_canWeigh _ g h0 0 w0 hw gc kc hp hg ho hd ao hf ht hn up lo) 0 rfl rfl pw_404 pw_406 pv_10 pw_5 pw_407 (by decide +kernel) (by decide) (by decide) rfl rfl (Nat.le_of_ble_eq_true rfl) [0] [1, 2, 3] rfl rfl rfl rfl (by decide) dX1_addKind_24 (fun r0 w0 hp0 => ?_)
        obtain ⟨r_4, _, rfl, rfl, hq_5⟩ := hp0
        replace vc := vc r_4  hq_5
        refine pz_eq (st' := [.int r_4]) (ws' := [(hp, .inl (g.2.1 1, 3, .inl pr)), (hg, .inl (g.2.1 1, 12, .inl we)), (ho, .inl (g.2.1 2, 108, .inr (.inl po))), (h0, .inr (1, [.ref hw, .int gc, .int kc, .ref hp, .ref hg, .ref ho, .ref hd, .long ao, .ref hf, .ref ht, .ref hn, .long up, .long lo]))]) rfl rfl ?_
        refine pz_if_eq (tgt := 59) F dX1_addKind_27 (by decide) (fun q_6 => ?_) (fun q_6 => ?_)
        · replace vc := vc.1 q_6
          refine pz_iconst (v := (-1)) F dX1_addKind_59 rfl ?_
          exact pz_ireturn (w1 := [(h0, .inr (1, [.ref hw, .int gc, .int kc, .ref hp, .ref hg, .ref ho, .ref hd, .long ao, .ref hf, .ref ht, .ref hn, .long up, .long lo])), (hp, .inl (g.2.1 1, 3, .inl pr)), (hg, .inl (g.2.1 1, 12, .inl we)), (ho, .inl (g.2.1 2, 108, .inr (.inl po)))]) F Rt (by decide) (by decide) dX1_addKind_60 [3, 0, 1, 2] rfl rfl rfl vc
        · replace vc := vc.2 q_6
          refine pz_aload_n 0 F rfl dX1_addKind_30 rfl ?_
          refine pz_iconst (v := 1) F dX1_addKind_31 rfl ?_
          refine pz_iload_n 3 F rfl dX1_addKind_32 rfl ?_
          refine pz_callV (nA := 2) (ci := 1) (C := RX1) (T := TX1) (N := 13) (As := [.int 1, .int w1]) (rest := []) (wr := [(hp, .inl (g.2.1 1, 3, .inl pr)), (hg, .inl (g.2.1 1, 12, .inl we)), (ho, .inl (g.2.1 2, 108, .inr (.inl po)))]) F (ctX1_canWeigh _ g h0 1 w1 hw gc kc hp hg ho hd ao hf ht hn up lo) 3 rfl rfl pw_404 pw_406 pv_10 pw_5 pw_407 (by decide +kernel) (by decide) (by decide) rfl rfl (Nat.le_of_ble_eq_true rfl) [3] [0, 1, 2] rfl rfl rfl rfl (by decide) dX1_addKind_33 (fun r0 w0 hp0 => ?_)
          obtain ⟨r_7, _, rfl, rfl, hq_8⟩ := hp0
          replace vc := vc r_7  hq_8
          refine pz_eq (st' := [.int r_7]) (ws' := [(hp, .inl (g.2.1 1, 3, .inl pr)), (hg, .inl (g.2.1 1, 12, .inl we)), (ho, .inl (g.2.1 2, 108, .inr (.inl po))), (h0, .inr (1, [.ref hw, .int gc, .int kc, .ref hp, .ref hg, .ref ho, .ref hd, .long ao, .ref hf, .ref ht, .ref hn, .long up, .long lo]))]) rfl rfl ?_
          refine pz_if_eq (tgt := 59) F dX1_addKind_36 (by decide) (fun q_9 => ?_) (fun q_9 => ?_)
          · replace vc := vc.1 q_9
            refine pz_iconst (v := (-1)) F dX1_addKind_59 rfl ?_
            exact pz_ireturn (w1 := [(h0, .inr (1, [.ref hw, .int gc, .int kc, .ref hp, .ref hg, .ref ho, .ref hd, .long ao, .ref hf, .ref ht, .ref hn, .long up, .long lo])), (hp, .inl (g.2.1 1, 3, .inl pr)), (hg, .inl (g.2.1 1, 12, .inl we)), (ho, .inl (g.2.1 2, 108, .inr (.inl po)))]) F Rt (by decide) (by decide) dX1_addKind_60 [3, 0, 1, 2] rfl rfl rfl vc
          · replace vc := vc.2 q_9
            refine pz_aload_n 0 F rfl dX1_addKind_39 rfl ?_
            refine pz_iconst (v := 2) F dX1_addKind_40 rfl ?_
            refine pz_iload 4 F rfl dX1_addKind_41 ?_
            refine pz_callV (nA := 2) (ci := 1) (C := RX1) (T := TX1) (N := 13) (As := [.int 2, .int w2]) (rest := []) (wr := [(hp, .inl (g.2.1 1, 3, .inl pr)), (hg, .inl (g.2.1 1, 12, .inl we)), (ho, .inl (g.2.1 2, 108, .inr (.inl po)))]) F (ctX1_canWeigh _ g h0 2 w2 hw gc kc hp hg ho hd ao hf ht hn up lo) 3 rfl rfl pw_404 pw_406 pv_10 pw_5 pw_407 (by decide +kernel) (by decide) (by decide) rfl rfl (Nat.le_of_ble_eq_true rfl) [3] [0, 1, 2] rfl rfl rfl rfl (by decide) dX1_addKind_43 (fun r0 w0 hp0 => ?_)
            obtain ⟨r_10, _, rfl, rfl, hq_11⟩ := hp0
            replace vc := vc r_10  hq_11
            refine pz_eq (st' := [.int r_10]) (ws' := [(hp, .inl (g.2.1 1, 3, .inl pr)), (hg, .inl (g.2.1 1, 12, .inl we)), (ho, .inl (g.2.1 2, 108, .inr (.inl po))), (h0, .inr (1, [.ref hw, .int gc, .int kc, .ref hp, .ref hg, .ref ho, .ref hd, .long ao, .ref hf, .ref ht, .ref hn, .long up, .long lo]))]) rfl rfl ?_
            refine pz_if_eq (tgt := 59) F dX1_addKind_46 (by decide) (fun q_12 => ?_) (fun q_12 => ?_)
            · replace vc := vc.1 q_12
              refine pz_iconst (v := (-1)) F dX1_addKind_59 rfl ?_
              exact pz_ireturn (w1 := [(h0, .inr (1, [.ref hw, .int gc, .int kc, .ref hp, .ref hg, .ref ho, .ref hd, .long ao, .ref hf, .ref ht, .ref hn, .long up, .long lo])), (hp, .inl (g.2.1 1, 3, .inl pr)), (hg, .inl (g.2.1 1, 12, .inl we)), (ho, .inl (g.2.1 2, 108, .inr (.inl po)))]) F Rt (by decide) (by decide) dX1_addKind_60 [3, 0, 1, 2] rfl rfl rfl vc
            · replace vc := vc.2 q_12
              refine pz_aload_n 0 F rfl dX1_addKind_49 rfl ?_
              refine pz_iconst (v := 3) F dX1_addKind_50 rfl ?_
              refine pz_iload 5 F rfl dX1_addKind_51 ?_
              refine pz_callV (nA := 2) (ci := 1) (C := RX1) (T := TX1) (N := 13) (As := [.int 3, .int w3]) (rest := []) (wr := [(hp, .inl (g.2.1 1, 3, .inl pr)), (hg, .inl (g.2.1 1, 12, .inl we)), (ho, .inl (g.2.1 2, 108, .inr (.inl po)))]) F (ctX1_canWeigh _ g h0 3 w3 hw gc kc hp hg ho hd ao hf ht hn up lo) 3 rfl rfl pw_404 pw_406 pv_10 pw_5 pw_407 (by decide +kernel) (by decide) (by decide) rfl rfl (Nat.le_of_ble_eq_true rfl) [3] [0, 1, 2] rfl rfl rfl rfl (by decide) dX1_addKind_53 (fun r0 w0 hp0 => ?_)
              obtain ⟨r_13, _, rfl, rfl, hq_14⟩ := hp0
              replace vc := vc r_13  hq_14
              refine pz_eq (st' := [.int r_13]) (ws' := [(hp, .inl (g.2.1 1, 3, .inl pr)), (hg, .inl (g.2.1 1, 12, .inl we)), (ho, .inl (g.2.1 2, 108, .inr (.inl po))), (h0, .inr (1, [.ref hw, .int gc, .int kc, .ref hp, .ref hg, .ref ho, .ref hd, .long ao, .ref hf, .ref ht, .ref hn, .long up, .long lo]))]) rfl rfl ?_
              refine pz_if_ne (tgt := 61) F dX1_addKind_56 (by decide) (fun q_15 => ?_) (fun q_15 => ?_)
              · replace vc := vc.1 q_15
                refine pz_iload_n 2 F rfl dX1_addKind_61 rfl ?_
                refine pz_iload_n 3 F rfl dX1_addKind_62 rfl ?_
                refine pz_iadd F dX1_addKind_63 ?_
                refine pz_iload 4 F rfl dX1_addKind_64 ?_
                refine pz_iadd F dX1_addKind_66 ?_
                refine pz_iload 5 F rfl dX1_addKind_67 ?_
                refine pz_iadd F dX1_addKind_69 ?_
                refine pz_bipush (v := 16) F dX1_addKind_70 rfl ?_
                refine pz_icmp_eq (tgt := 77) F dX1_addKind_72 (by decide) (fun q_16 => ?_) (fun q_16 => ?_)
                · replace vc := vc.1 q_16
                  refine pz_aload_n 0 F rfl dX1_addKind_77 rfl ?_
                  refine pz_get (ci := 1) (C := RX1) (T := TX1) (N := 13) (v := .ref hp) 3 F rfl rfl pz_inX1 3 (by decide) pw_117 rfl dX1_addKind_78 ?_
                  refine pz_aload_n 0 F rfl dX1_addKind_81 rfl ?_
                  refine pz_get (ci := 1) (C := RX1) (T := TX1) (N := 13) (v := .int kc) 3 F rfl rfl pz_inX1 2 (by decide) pw_115 rfl dX1_addKind_82 ?_
                  refine pz_iload_n 1 F rfl dX1_addKind_85 rfl ?_
                  obtain ⟨h_17, vc⟩ := vc
                  obtain ⟨f_18, ef_18⟩ : ∃ z : Nat → Int32, z = upd pr kc.toNatClampNeg p := ⟨_, rfl⟩
                  replace vc := vc f_18 ef_18
                  refine pz_iastore (ws' := [(hp, .inl (g.2.1 1, 3, .inl f_18)), (hg, .inl (g.2.1 1, 12, .inl we)), (ho, .inl (g.2.1 2, 108, .inr (.inl po))), (h0, .inr (1, [.ref hw, .int gc, .int kc, .ref hp, .ref hg, .ref ho, .ref hd, .long ao, .ref hf, .ref ht, .ref hn, .long up, .long lo]))]) F 0 rfl h_17 dX1_addKind_86 (by rw [ef_18]; rfl) ?_
                  refine pz_aload_n 0 F rfl dX1_addKind_87 rfl ?_
                  refine pz_iconst (v := 0) F dX1_addKind_88 rfl ?_
                  refine pz_iload_n 2 F rfl dX1_addKind_89 rfl ?_
                  obtain ⟨h_19, vc⟩ := vc
                  refine pz_callV (nA := 2) (ci := 1) (C := RX1) (T := TX1) (N := 13) (As := [.int 0, .int w0]) (rest := []) (wr := [(hp, .inl (g.2.1 1, 3, .inl f_18))]) F (ctX1_keepWeight _ g 0 w0 h0 hw gc kc hp hg ho hd ao hf ht hn up lo we po k 0 h_19) 3 rfl rfl pw_408 pw_410 pv_11 pw_5 pw_411 (by decide +kernel) (by decide) (by decide) rfl rfl (Nat.le_of_ble_eq_true rfl) [3, 1, 2] [0] rfl rfl rfl rfl (by decide) dX1_addKind_90 (fun r0 w0 hp0 => ?_)
                  obtain ⟨⟨we2_20, po2_21⟩, rfl, rfl, hq_22⟩ := hp0
                  replace vc := vc we2_20 po2_21 hq_22
                  refine pz_eq (st' := []) (ws' := [(hp, .inl (g.2.1 1, 3, .inl f_18)), (h0, .inr (1, [.ref hw, .int gc, .int kc, .ref hp, .ref hg, .ref ho, .ref hd, .long ao, .ref hf, .ref ht, .ref hn, .long up, .long lo])), (hg, .inl (g.2.1 1, 12, .inl we2_20)), (ho, .inl (g.2.1 2, 108, .inr (.inl po2_21)))]) rfl rfl ?_
                  refine pz_aload_n 0 F rfl dX1_addKind_93 rfl ?_
                  refine pz_iconst (v := 1) F dX1_addKind_94 rfl ?_
                  refine pz_iload_n 3 F rfl dX1_addKind_95 rfl ?_
                  obtain ⟨q_23, vc⟩ := vc
                  obtain ⟨h_24, vc⟩ := vc
                  refine pz_callV (nA := 2) (ci := 1) (C := RX1) (T := TX1) (N := 13) (As := [.int 1, .int w1]) (rest := []) (wr := [(hp, .inl (g.2.1 1, 3, .inl f_18))]) F (ctX1_keepWeight _ g 1 w1 h0 hw gc kc hp hg ho hd ao hf ht hn up lo we2_20 po2_21 k q_23 h_24) 1 rfl rfl pw_408 pw_410 pv_11 pw_5 pw_411 (by decide +kernel) (by decide) (by decide) rfl rfl (Nat.le_of_ble_eq_true rfl) [1, 2, 3] [0] rfl rfl rfl rfl (by decide) dX1_addKind_96 (fun r0 w0 hp0 => ?_)
                  obtain ⟨⟨we2_25, po2_26⟩, rfl, rfl, hq_27⟩ := hp0
                  replace vc := vc we2_25 po2_26 hq_27
                  refine pz_eq (st' := []) (ws' := [(hp, .inl (g.2.1 1, 3, .inl f_18)), (h0, .inr (1, [.ref hw, .int gc, .int kc, .ref hp, .ref hg, .ref ho, .ref hd, .long ao, .ref hf, .ref ht, .ref hn, .long up, .long lo])), (hg, .inl (g.2.1 1, 12, .inl we2_25)), (ho, .inl (g.2.1 2, 108, .inr (.inl po2_26)))]) rfl rfl ?_
                  refine pz_aload_n 0 F rfl dX1_addKind_99 rfl ?_
                  refine pz_iconst (v := 2) F dX1_addKind_100 rfl ?_
                  refine pz_iload 4 F rfl dX1_addKind_101 ?_
                  obtain ⟨q_28, vc⟩ := vc
                  obtain ⟨h_29, vc⟩ := vc
                  refine pz_callV (nA := 2) (ci := 1) (C := RX1) (T := TX1) (N := 13) (As := [.int 2, .int w2]) (rest := []) (wr := [(hp, .inl (g.2.1 1, 3, .inl f_18))]) F (ctX1_keepWeight _ g 2 w2 h0 hw gc kc hp hg ho hd ao hf ht hn up lo we2_25 po2_26 k q_28 h_29) 1 rfl rfl pw_408 pw_410 pv_11 pw_5 pw_411 (by decide +kernel) (by decide) (by decide) rfl rfl (Nat.le_of_ble_eq_true rfl) [1, 2, 3] [0] rfl rfl rfl rfl (by decide) dX1_addKind_103 (fun r0 w0 hp0 => ?_)
                  obtain ⟨⟨we2_30, po2_31⟩, rfl, rfl, hq_32⟩ := hp0
                  replace vc := vc we2_30 po2_31 hq_32
                  refine pz_eq (st' := []) (ws' := [(hp, .inl (g.2.1 1, 3, .inl f_18)), (h0, .inr (1, [.ref hw, .int gc, .int kc, .ref hp, .ref hg, .ref ho, .ref hd, .long ao, .ref hf, .ref ht, .ref hn, .long up, .long lo])), (hg, .inl (g.2.1 1, 12, .inl we2_30)), (ho, .inl (g.2.1 2, 108, .inr (.inl po2_31)))]) rfl rfl ?_
                  refine pz_aload_n 0 F rfl dX1_addKind_106 rfl ?_
                  refine pz_iconst (v := 3) F dX1_addKind_107 rfl ?_
                  refine pz_iload 5 F rfl dX1_addKind_108 ?_
                  obtain ⟨q_33, vc⟩ := vc
                  obtain ⟨h_34, vc⟩ := vc
                  refine pz_callV (nA := 2) (ci := 1) (C := RX1) (T := TX1) (N := 13) (As := [.int 3, .int w3]) (rest := []) (wr := [(hp, .inl (g.2.1 1, 3, .inl f_18))]) F (ctX1_keepWeight _ g 3 w3 h0 hw gc kc hp hg ho hd ao hf ht hn up lo we2_30 po2_31 k q_33 h_34) 1 rfl rfl pw_408 pw_410 pv_11 pw_5 pw_411 (by decide +kernel) (by decide) (by decide) rfl rfl (Nat.le_of_ble_eq_true rfl) [1, 2, 3] [0] rfl rfl rfl rfl (by decide) dX1_addKind_110 (fun r0 w0 hp0 => ?_)
                  obtain ⟨⟨we2_35, po2_36⟩, rfl, rfl, hq_37⟩ := hp0
                  replace vc := vc we2_35 po2_36 hq_37
                  refine pz_eq (st' := []) (ws' := [(hp, .inl (g.2.1 1, 3, .inl f_18)), (h0, .inr (1, [.ref hw, .int gc, .int kc, .ref hp, .ref hg, .ref ho, .ref hd, .long ao, .ref hf, .ref ht, .ref hn, .long up, .long lo])), (hg, .inl (g.2.1 1, 12, .inl we2_35)), (ho, .inl (g.2.1 2, 108, .inr (.inl po2_36)))]) rfl rfl ?_
                  refine pz_aload_n 0 F rfl dX1_addKind_113 rfl ?_
                  refine pz_dup F dX1_addKind_114 rfl ?_
                  refine pz_get (ci := 1) (C := RX1) (T := TX1) (N := 13) (v := .int kc) 1 F rfl rfl pz_inX1 2 (by decide) pw_115 rfl dX1_addKind_115 ?_
                  refine pz_iconst (v := 1) F dX1_addKind_118 rfl ?_
                  refine pz_iadd F dX1_addKind_119 ?_
                  refine pz_topi (fun x_38 ex_38 => ?_)
                  replace vc := vc x_38 ex_38
                  refine pz_put (ws' := [(hp, .inl (g.2.1 1, 3, .inl f_18)), (h0, .inr (1, [.ref hw, .int gc, .int x_38, .ref hp, .ref hg, .ref ho, .ref hd, .long ao, .ref hf, .ref ht, .ref hn, .long up, .long lo])), (hg, .inl (g.2.1 1, 12, .inl we2_35)), (ho, .inl (g.2.1 2, 108, .inr (.inl po2_36)))]) (ci := 1) (C := RX1) (T := TX1) (N := 13) (v := .int x_38) (ty := .int) 1 F rfl rfl pz_inX1 2 (by decide) pw_115 tyX1_ok nmX1 rfl rfl rfl rfl (Nat.le_of_ble_eq_true rfl) dX1_addKind_120 rfl ?_
                  refine pz_aload_n 0 F rfl dX1_addKind_123 rfl ?_
                  refine pz_get (ci := 1) (C := RX1) (T := TX1) (N := 13) (v := .int x_38) 1 F rfl rfl pz_inX1 2 (by decide) pw_115 rfl dX1_addKind_124 ?_
                  refine pz_iconst (v := 1) F dX1_addKind_127 rfl ?_
                  refine pz_isub F dX1_addKind_128 ?_
                  refine pz_topi (fun x_39 ex_39 => ?_)
                  replace vc := vc x_39 ex_39
                  exact pz_ireturn (w1 := [(h0, .inr (1, [.ref hw, .int gc, .int x_38, .ref hp, .ref hg, .ref ho, .ref hd, .long ao, .ref hf, .ref ht, .ref hn, .long up, .long lo])), (hp, .inl (g.2.1 1, 3, .inl f_18)), (hg, .inl (g.2.1 1, 12, .inl we2_35)), (ho, .inl (g.2.1 2, 108, .inr (.inl po2_36)))]) F Rt (by decide) (by decide) dX1_addKind_129 [1, 0, 2, 3] rfl rfl rfl vc
                · replace vc := vc.2 q_16
                  refine pz_iconst (v := (-1)) F dX1_addKind_75 rfl ?_
                  exact pz_ireturn (w1 := [(h0, .inr (1, [.ref hw, .int gc, .int kc, .ref hp, .ref hg, .ref ho, .ref hd, .long ao, .ref hf, .ref ht, .ref hn, .long up, .long lo])), (hp, .inl (g.2.1 1, 3, .inl pr)), (hg, .inl (g.2.1 1, 12, .inl we)), (ho, .inl (g.2.1 2, 108, .inr (.inl po)))]) F Rt (by decide) (by decide) dX1_addKind_76 [3, 0, 1, 2] rfl rfl rfl vc
              · replace vc := vc.2 q_15
                refine pz_iconst (v := (-1)) F dX1_addKind_59 rfl ?_
                exact pz_ireturn (w1 := [(h0, .inr (1, [.ref hw, .int gc, .int kc, .ref hp, .ref hg, .ref ho, .ref hd, .long ao, .ref hf, .ref ht, .ref hn, .long up, .long lo])), (hp, .inl (g.2.1 1, 3, .inl pr)), (hg, .inl (g.2.1 1, 12, .inl we)), (ho, .inl (g.2.1 2, 108, .inr (.inl po)))]) F Rt (by decide) (by decide) dX1_addKind_60 [3, 0, 1, 2] rfl rfl rfl vc
      · replace vc := vc.2 q_3
        refine pz_iconst (v := (-1)) F dX1_addKind_19 rfl ?_
        exact pz_ireturn (w1 := [(h0, .inr (1, [.ref hw, .int gc, .int kc, .ref hp, .ref hg, .ref ho, .ref hd, .long ao, .ref hf, .ref ht, .ref hn, .long up, .long lo])), (hp, .inl (g.2.1 1, 3, .inl pr)), (hg, .inl (g.2.1 1, 12, .inl we)), (ho, .inl (g.2.1 2, 108, .inr (.inl po)))]) F Rt (by decide) (by decide) dX1_addKind_20 [0, 1, 2, 3] rfl rfl rfl vc
set_option maxHeartbeats 4000000 in
set_option maxRecDepth 100000 in
theorem ctX1_addKind (l : Launch) (g : pz_G) (p : Int32) (w0 : Int32) (w1 : Int32) (w2 : Int32) (w3 : Int32) (h0 : Nat) (hw : Nat) (gc : Int32) (kc : Int32) (hp : Nat) (hg : Nat) (ho : Nat) (hd : Nat) (ao : Int64) (hf : Nat) (ht : Nat) (hn : Nat) (up : Int64) (lo : Int64) (pr : Nat → Int32) (we : Nat → Int32) (po : Nat → Int64) (k : Nat) (hpre : k ≤ 3 ∧ kc = nI k) : pz_Ct l g yX1_addKind cX1_addKind 6 (some .int) rmX1_addKind [.ref h0, .int p, .int w0, .int w1, .int w2, .int w3] [(h0, .inr (1, [.ref hw, .int gc, .int kc, .ref hp, .ref hg, .ref ho, .ref hd, .long ao, .ref hf, .ref ht, .ref hn, .long up, .long lo])), (hp, .inl (g.2.1 1, 3, .inl pr)), (hg, .inl (g.2.1 1, 12, .inl we)), (ho, .inl (g.2.1 2, 108, .inr (.inl po)))] (pz_pi (fun (r : Int32) (u : Int32 × (Nat → Int32) × (Nat → Int32) × (Nat → Int64)) => (pu_kok gc p w0 w1 w2 w3 ∧ k < 3 ∧ r = nI k ∧ u.1 = nI (k + 1) ∧ u.2.1 = upd pr k p ∧ (∀ a, a < 12 → u.2.2.1 a = if 4 * k ≤ a ∧ a < 4 * k + 4 then pu_w4 w0 w1 w2 w3 (a - 4 * k) else we a) ∧ (∀ a, a < 108 → u.2.2.2 a = if 36 * k ≤ a ∧ a < 36 * k + 36 then pu_pw (pu_w4 w0 w1 w2 w3 ((a - 36 * k) / 9)) ((a - 36 * k) % 9) else po a)) ∨ (¬ (pu_kok gc p w0 w1 w2 w3 ∧ k < 3) ∧ r = -1 ∧ u.1 = nI k ∧ u.2.1 = pr ∧ u.2.2.1 = we ∧ u.2.2.2 = po)) (fun (u : Int32 × (Nat → Int32) × (Nat → Int32) × (Nat → Int64)) => [(h0, .inr (1, [.ref hw, .int gc, .int u.1, .ref hp, .ref hg, .ref ho, .ref hd, .long ao, .ref hf, .ref ht, .ref hn, .long up, .long lo])), (hp, .inl (g.2.1 1, 3, .inl u.2.1)), (hg, .inl (g.2.1 1, 12, .inl u.2.2.1)), (ho, .inl (g.2.1 2, 108, .inr (.inl u.2.2.2)))])) := by
  refine pz_ofAt (by decide +kernel) (Nat.le_of_ble_eq_true rfl) (fun B F Rt hme => ?_)
  obtain ⟨hk, h1⟩ := hpre
  subst h1
  refine sgX1_addKind_0 F Rt p w0 w1 w2 w3 h0 hw gc (nI k) hp hg ho hd ao hf ht hn up lo pr we po k ?_
  refine ⟨fun q => ⟨_, (_, _, _, _), rfl, rfl, Or.inr ⟨fun h => h.1.1 q, rfl, rfl, rfl, rfl, rfl⟩⟩, fun q1 => ⟨fun q => ⟨_, (_, _, _, _), rfl, rfl, Or.inr ⟨fun h => h.1.2.1 q, rfl, rfl, rfl, rfl, rfl⟩⟩, fun q2 => ⟨fun q3 => ?_, fun q3 => ⟨_, (_, _, _, _), rfl, rfl, Or.inr ⟨fun h => q3 (nI_lt (b := 3) h.2 (by omega)), rfl, rfl, rfl, rfl, rfl⟩⟩⟩⟩⟩
  have hk3 : k < 3 := (nI_ltI (a := k) (b := 3) (by omega) (by omega)).mp q3
  rintro r1 rfl
  refine ⟨fun q => ⟨_, (_, _, _, _), rfl, rfl, Or.inr ⟨fun h => h.1.2.2.1 q, rfl, rfl, rfl, rfl, rfl⟩⟩, fun q4 => ?_⟩
  rintro r2 rfl
  refine ⟨fun q => ⟨_, (_, _, _, _), rfl, rfl, Or.inr ⟨fun h => h.1.2.2.2.1 q, rfl, rfl, rfl, rfl, rfl⟩⟩, fun q5 => ?_⟩
  rintro r3 rfl
  refine ⟨fun q => ⟨_, (_, _, _, _), rfl, rfl, Or.inr ⟨fun h => h.1.2.2.2.2.1 q, rfl, rfl, rfl, rfl, rfl⟩⟩, fun q6 => ?_⟩
  rintro r4 rfl
  refine ⟨fun q7 => ⟨fun q8 => ?_, fun q => ⟨_, (_, _, _, _), rfl, rfl, Or.inr ⟨fun h => q h.1.2.2.2.2.2.2, rfl, rfl, rfl, rfl, rfl⟩⟩⟩, fun q => ⟨_, (_, _, _, _), rfl, rfl, Or.inr ⟨fun h => h.1.2.2.2.2.2.1 q, rfl, rfl, rfl, rfl, rfl⟩⟩⟩
  refine ⟨vp_in_nI hk3 (by omega), ?_⟩
  rintro f rfl
  refine ⟨⟨hk3, by omega, rfl, rfl⟩, fun wa pa ha => ⟨1, ⟨hk3, by omega, rfl, rfl⟩, fun wb pb hb => ⟨2, ⟨hk3, by omega, rfl, rfl⟩, fun wc_ pc_ hc => ⟨3, ⟨hk3, by omega, rfl, rfl⟩, fun wd pd hd2 => ?_⟩⟩⟩⟩
  rintro x rfl y rfl
  rw [nI_clamp (by omega)]
  refine ⟨_, (_, _, _, _), rfl, rfl, Or.inl ⟨⟨q1, q2, q4, q5, q6, q7, q8⟩, hk3, by rw [nI_1]; exact nI_pred k, nI_1 k, rfl, fun a h => ?_, fun a h => ?_⟩⟩
  · show wd a = _
    rw [hd2.1, hc.1, hb.1, ha.1]
    by_cases e : 4 * k ≤ a ∧ a < 4 * k + 4
    · rw [if_pos e]
      rcases (show a = 4 * k + 0 ∨ a = 4 * k + 1 ∨ a = 4 * k + 2 ∨ a = 4 * k + 3 by omega) with rfl | rfl | rfl | rfl
      · rw [pk_un (by omega), pk_un (by omega), pk_un (by omega), pk_us, show 4 * k + 0 - 4 * k = 0 by omega]; rfl
      · rw [pk_un (by omega), pk_un (by omega), pk_us, show 4 * k + 1 - 4 * k = 1 by omega]; rfl
      · rw [pk_un (by omega), pk_us, show 4 * k + 2 - 4 * k = 2 by omega]; rfl
      · rw [pk_us, show 4 * k + 3 - 4 * k = 3 by omega]; rfl
    · rw [if_neg e, pk_un (by omega), pk_un (by omega), pk_un (by omega), pk_un (by omega)]
  · show pd a = _
    rw [hd2.2 a h]
    by_cases e3 : (4 * k + 3) * 9 ≤ a ∧ a < (4 * k + 3) * 9 + 9
    · rw [if_pos e3, if_pos (by omega), show (a - 36 * k) / 9 = 3 by omega, show (a - 36 * k) % 9 = a - (4 * k + 3) * 9 by omega]; rfl
    · rw [if_neg e3, hc.2 a h]
      by_cases e2 : (4 * k + 2) * 9 ≤ a ∧ a < (4 * k + 2) * 9 + 9
      · rw [if_pos e2, if_pos (by omega), show (a - 36 * k) / 9 = 2 by omega, show (a - 36 * k) % 9 = a - (4 * k + 2) * 9 by omega]; rfl
      · rw [if_neg e2, hb.2 a h]
        by_cases e1 : (4 * k + 1) * 9 ≤ a ∧ a < (4 * k + 1) * 9 + 9
        · rw [if_pos e1, if_pos (by omega), show (a - 36 * k) / 9 = 1 by omega, show (a - 36 * k) % 9 = a - (4 * k + 1) * 9 by omega]; rfl
        · rw [if_neg e1, ha.2 a h]
          by_cases e0 : (4 * k + 0) * 9 ≤ a ∧ a < (4 * k + 0) * 9 + 9
          · rw [if_pos e0, if_pos (by omega), show (a - 36 * k) / 9 = 0 by omega, show (a - 36 * k) % 9 = a - (4 * k + 0) * 9 by omega]; rfl
          · rw [if_neg e0, if_neg (by omega)]
