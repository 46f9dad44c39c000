
abbrev rmX1_expectRest : Room := { frames := 2, cells := 0, slots := 0, locals := 56 }
abbrev paX1_expectRest_5 (B : pz_B) (g : pz_G) (lf : Int32) (h0 : Nat) (hw : Nat) (gc : Int32) (kc : Int32) (hp : Nat) (hg : Nat) (ho : Nat) (hd : Nat) (ao : Int64) (hf : Nat) (ht : Nat) (hn : Nat) (up : Int64) (lo : Int64) (wo : Nat → Int32) (we : Nat → Int32) (od : Nat → Int64) (k : Nat) (n : Nat) (s : Int64) (ki : Int32) : Prop := pz_At B 0 0 5 [(0, .ref h0), (1, .int lf), (2, .long s), (4, .int ki)] [] [(h0, .inr (1, [.ref hw, .int gc, .int kc, .ref hp, .ref hg, .ref ho, .ref hd, .long ao, .ref hf, .ref ht, .ref hn, .long up, .long lo])), (hw, .inl (g.2.1 1, 4, .inl wo)), (hg, .inl (g.2.1 1, 12, .inl we)), (hd, .inl (g.2.1 2, 3, .inr (.inl od)))]
abbrev paX1_expectRest_17 (B : pz_B) (g : pz_G) (lf : Int32) (h0 : Nat) (hw : Nat) (gc : Int32) (kc : Int32) (hp : Nat) (hg : Nat) (ho : Nat) (hd : Nat) (ao : Int64) (hf : Nat) (ht : Nat) (hn : Nat) (up : Int64) (lo : Int64) (wo : Nat → Int32) (we : Nat → Int32) (od : Nat → Int64) (k : Nat) (n : Nat) (s : Int64) (ki : Int32) (qi : Int32) : Prop := pz_At B 0 0 17 [(0, .ref h0), (1, .int lf), (2, .long s), (4, .int ki), (5, .int qi)] [] [(h0, .inr (1, [.ref hw, .int gc, .int kc, .ref hp, .ref hg, .ref ho, .ref hd, .long ao, .ref hf, .ref ht, .ref hn, .long up, .long lo])), (hw, .inl (g.2.1 1, 4, .inl wo)), (hg, .inl (g.2.1 1, 12, .inl we)), (hd, .inl (g.2.1 2, 3, .inr (.inl od)))]
set_option maxHeartbeats 4000000 in
set_option maxRecDepth 100000 in
theorem sgX1_expectRest_0 {B : pz_B} {g : pz_G} {wc : va_W} {Post : Option Value → va_W → Prop} (F : pz_F B cX1_expectRest 6 none yX1_expectRest.cls g rmX1_expectRest) (Rt : pz_Rt B g wc Post rmX1_expectRest) (lf : Int32) (h0 : Nat) (hw : Nat) (gc : Int32) (kc : Int32) (hp : Nat) (hg : Nat) (ho : Nat) (hd : Nat) (ao : Int64) (hf : Nat) (ht : Nat) (hn : Nat) (up : Int64) (lo : Int64) (wo : Nat → Int32) (we : Nat → Int32) (od : Nat → Int64) (k : Nat) (n : Nat) (T5 : Int64 → Int32 → Prop) (hT5 : ∀ (s : Int64) (ki : Int32), T5 s ki → paX1_expectRest_5 B g lf h0 hw gc kc hp hg ho hd ao hf ht hn up lo wo we od k n s ki)  (vc : T5 0 0) : pz_At B 0 0 0 [(0, .ref h0), (1, .int lf)] [] [(h0, .inr (1, [.ref hw, .int gc, .int kc, .ref hp, .ref hg, .ref ho, .ref hd, .long ao, .ref hf, .ref ht, .ref hn, .long up, .long lo])), (hw, .inl (g.2.1 1, 4, .inl wo)), (hg, .inl (g.2.1 1, 12, .inl we)), (hd, .inl (g.2.1 2, 3, .inr (.inl od)))] := by
  refine pz_lconst (v := 0) F dX1_expectRest_0 rfl ?_
  refine pz_lstore_n (lv' := [(2, .long 0), (0, .ref h0), (1, .int lf)]) F dX1_expectRest_1 rfl (by decide) rfl ?_
  refine pz_iconst (v := 0) F dX1_expectRest_2 rfl ?_
  refine pz_istore (lv' := [(4, .int 0), (2, .long 0), (0, .ref h0), (1, .int lf)]) F dX1_expectRest_3 (by decide) rfl ?_
  exact pz_sub [2, 3, 1, 0] [0, 1, 2, 3] rfl rfl rfl (hT5 0 0 vc)
set_option maxHeartbeats 4000000 in
set_option maxRecDepth 100000 in
theorem sgX1_expectRest_5 {B : pz_B} {g : pz_G} {wc : va_W} {Post : Option Value → va_W → Prop} (F : pz_F B cX1_expectRest 6 none yX1_expectRest.cls g rmX1_expectRest) (Rt : pz_Rt B g wc Post rmX1_expectRest) (lf : Int32) (h0 : Nat) (hw : Nat) (gc : Int32) (kc : Int32) (hp : Nat) (hg : Nat) (ho : Nat) (hd : Nat) (ao : Int64) (hf : Nat) (ht : Nat) (hn : Nat) (up : Int64) (lo : Int64) (wo : Nat → Int32) (we : Nat → Int32) (od : Nat → Int64) (k : Nat) (n : Nat) (T17 : Int64 → Int32 → Int32 → Prop) (hT17 : ∀ (s : Int64) (ki : Int32) (qi : Int32), T17 s ki qi → paX1_expectRest_17 B g lf h0 hw gc kc hp hg ho hd ao hf ht hn up lo wo we od k n s ki qi) (s : Int64) (ki : Int32) (vc : ((kc ≤ ki → ∀ up2_2 : Int64, ∀ lo2_3 : Int64, ∀ _ : (if pu_cd 100 (s * lf.toInt64) (ao * 16) ≤ 0 then up2_2 = up ∧ lo2_3 = lo else up2_2 = (s * lf.toInt64) / pu_cd 100 (s * lf.toInt64) (ao * 16) ∧ lo2_3 = (ao * 16) / pu_cd 100 (s * lf.toInt64) (ao * 16)), Post none [(h0, .inr (1, [.ref hw, .int gc, .int kc, .ref hp, .ref hg, .ref ho, .ref hd, .long ao, .ref hf, .ref ht, .ref hn, .long up2_2, .long lo2_3])), (hw, .inl (g.2.1 1, 4, .inl wo)), (hg, .inl (g.2.1 1, 12, .inl we)), (hd, .inl (g.2.1 2, 3, .inr (.inl od)))]) ∧ (¬ kc ≤ ki → T17 s ki 0))) : pz_At B 0 0 5 [(0, .ref h0), (1, .int lf), (2, .long s), (4, .int ki)] [] [(h0, .inr (1, [.ref hw, .int gc, .int kc, .ref hp, .ref hg, .ref ho, .ref hd, .long ao, .ref hf, .ref ht, .ref hn, .long up, .long lo])), (hw, .inl (g.2.1 1, 4, .inl wo)), (hg, .inl (g.2.1 1, 12, .inl we)), (hd, .inl (g.2.1 2, 3, .inr (.inl od)))] := by
  refine pz_iload 3 F rfl dX1_expectRest_5 ?_
  refine pz_aload_n 0 F rfl dX1_expectRest_7 rfl ?_
  refine pz_get (ci := 1) (C := RX1) (T := TX1) (N := 13) (v := .int kc) 0 F rfl rfl pz_inX1 2 (by decide) pw_115 rfl dX1_expectRest_8 ?_
  refine pz_icmp_ge (tgt := 71) F dX1_expectRest_11 (by decide) (fun q_1 => ?_) (fun q_1 => ?_)
  · replace vc := vc.1 q_1
    refine pz_aload_n 0 F rfl dX1_expectRest_71 rfl ?_
    refine pz_lload_n 2 F rfl dX1_expectRest_72 rfl ?_
    refine pz_iload_n 1 F rfl dX1_expectRest_73 rfl ?_
    refine pz_i2l F dX1_expectRest_74 ?_
    refine pz_lmul F dX1_expectRest_75 ?_
    refine pz_aload_n 0 F rfl dX1_expectRest_76 rfl ?_
    refine pz_get (ci := 1) (C := RX1) (T := TX1) (N := 13) (v := .long ao) 0 F rfl rfl pz_inX1 7 (by decide) pw_121 rfl dX1_expectRest_77 ?_
    refine pz_ldc2 (v := 16) F pw_644 dX1_expectRest_80 ?_
    refine pz_lmul F dX1_expectRest_83 ?_
    refine pz_callV (nA := 2) (ci := 1) (C := RX1) (T := TX1) (N := 13) (As := [.long (s * lf.toInt64), .long (ao * 16)]) (rest := []) (wr := [(hw, .inl (g.2.1 1, 4, .inl wo)), (hg, .inl (g.2.1 1, 12, .inl we)), (hd, .inl (g.2.1 2, 3, .inr (.inl od)))]) F (ctX1_keepFraction _ g h0 (s * lf.toInt64) (ao * 16) hw gc kc hp hg ho hd ao hf ht hn up lo) 0 rfl rfl pw_645 pw_647 pv_21 pw_5 pw_648 (by decide +kernel) (by decide) (by decide) rfl rfl (Nat.le_of_ble_eq_true rfl) [0] [1, 2, 3] rfl rfl rfl rfl (by decide) dX1_expectRest_84 (fun r0 w0 hp0 => ?_)
    obtain ⟨⟨up2_2, lo2_3⟩, rfl, rfl, hq_4⟩ := hp0
    replace vc := vc up2_2 lo2_3 hq_4
    refine pz_eq (st' := []) (ws' := [(hw, .inl (g.2.1 1, 4, .inl wo)), (hg, .inl (g.2.1 1, 12, .inl we)), (hd, .inl (g.2.1 2, 3, .inr (.inl od))), (h0, .inr (1, [.ref hw, .int gc, .int kc, .ref hp, .ref hg, .ref ho, .ref hd, .long ao, .ref hf, .ref ht, .ref hn, .long up2_2, .long lo2_3]))]) rfl rfl ?_
    exact pz_return (w1 := [(h0, .inr (1, [.ref hw, .int gc, .int kc, .ref hp, .ref hg, .ref ho, .ref hd, .long ao, .ref hf, .ref ht, .ref hn, .long up2_2, .long lo2_3])), (hw, .inl (g.2.1 1, 4, .inl wo)), (hg, .inl (g.2.1 1, 12, .inl we)), (hd, .inl (g.2.1 2, 3, .inr (.inl od)))]) F Rt (by decide) (by decide) dX1_expectRest_87 [3, 0, 1, 2] rfl rfl vc
  · replace vc := vc.2 q_1
    refine pz_iconst (v := 0) F dX1_expectRest_14 rfl ?_
    refine pz_istore (lv' := [(5, .int 0), (0, .ref h0), (1, .int lf), (2, .long s), (4, .int ki)]) F dX1_expectRest_15 (by decide) rfl ?_
    exact pz_sub [1, 2, 3, 4, 0] [0, 1, 2, 3] rfl rfl rfl (hT17 s ki 0 vc)
set_option maxHeartbeats 4000000 in
set_option maxRecDepth 100000 in
theorem sgX1_expectRest_17 {B : pz_B} {g : pz_G} {wc : va_W} {Post : Option Value → va_W → Prop} (F : pz_F B cX1_expectRest 6 none yX1_expectRest.cls g rmX1_expectRest) (Rt : pz_Rt B g wc Post rmX1_expectRest) (lf : Int32) (h0 : Nat) (hw : Nat) (gc : Int32) (kc : Int32) (hp : Nat) (hg : Nat) (ho : Nat) (hd : Nat) (ao : Int64) (hf : Nat) (ht : Nat) (hn : Nat) (up : Int64) (lo : Int64) (wo : Nat → Int32) (we : Nat → Int32) (od : Nat → Int64) (k : Nat) (n : Nat) (T5 : Int64 → Int32 → Prop) (hT5 : ∀ (s : Int64) (ki : Int32), T5 s ki → paX1_expectRest_5 B g lf h0 hw gc kc hp hg ho hd ao hf ht hn up lo wo we od k n s ki) (T17 : Int64 → Int32 → Int32 → Prop) (hT17 : ∀ (s : Int64) (ki : Int32) (qi : Int32), T17 s ki qi → paX1_expectRest_17 B g lf h0 hw gc kc hp hg ho hd ao hf ht hn up lo wo we od k n s ki qi) (s : Int64) (ki : Int32) (qi : Int32) (vc : ((gc ≤ qi → ∀ x_2 : Int32, x_2 = ki + 1 → T5 s x_2) ∧ (¬ gc ≤ qi → vp_in ki 3 ∧ vp_in ((ki * 4) + qi) 12 ∧ vp_in qi 4 ∧ ∀ x_6 : Int64, x_6 = (s + (((od ki.toNatClampNeg) * ((we ((ki * 4) + qi).toNatClampNeg).toInt64)) * ((wo qi.toNatClampNeg).toInt64))) → ∀ x_7 : Int32, x_7 = qi + 1 → T17 x_6 ki x_7))) : pz_At B 0 0 17 [(0, .ref h0), (1, .int lf), (2, .long s), (4, .int ki), (5, .int qi)] [] [(h0, .inr (1, [.ref hw, .int gc, .int kc, .ref hp, .ref hg, .ref ho, .ref hd, .long ao, .ref hf, .ref ht, .ref hn, .long up, .long lo])), (hw, .inl (g.2.1 1, 4, .inl wo)), (hg, .inl (g.2.1 1, 12, .inl we)), (hd, .inl (g.2.1 2, 3, .inr (.inl od)))] := by
  refine pz_iload 4 F rfl dX1_expectRest_17 ?_
  refine pz_aload_n 0 F rfl dX1_expectRest_19 rfl ?_
  refine pz_get (ci := 1) (C := RX1) (T := TX1) (N := 13) (v := .int gc) 0 F rfl rfl pz_inX1 1 (by decide) pw_113 rfl dX1_expectRest_20 ?_
  refine pz_icmp_ge (tgt := 65) F dX1_expectRest_23 (by decide) (fun q_1 => ?_) (fun q_1 => ?_)
  · replace vc := vc.1 q_1
    obtain ⟨x_2, ex_2⟩ : ∃ z : Int32, z = ki + 1 := ⟨_, rfl⟩
    replace vc := vc x_2 ex_2
    refine pz_iinc (v := x_2) (lv' := [(4, .int x_2), (0, .ref h0), (1, .int lf), (2, .long s), (5, .int qi)]) 3 F rfl dX1_expectRest_65 (by rw [ex_2]; rfl) (by decide) rfl ?_
    refine pz_goto (tgt := 5) F dX1_expectRest_68 (by decide) ?_
    exact pz_sub [1, 2, 3, 0] [0, 1, 2, 3] rfl rfl rfl (hT5 s x_2 vc)
  · replace vc := vc.2 q_1
    refine pz_lload_n 2 F rfl dX1_expectRest_26 rfl ?_
    refine pz_aload_n 0 F rfl dX1_expectRest_27 rfl ?_
    refine pz_get (ci := 1) (C := RX1) (T := TX1) (N := 13) (v := .ref hd) 0 F rfl rfl pz_inX1 6 (by decide) pw_120 rfl dX1_expectRest_28 ?_
    refine pz_iload 3 F rfl dX1_expectRest_31 ?_
    obtain ⟨h_3, vc⟩ := vc
    refine pz_laload 3 F rfl h_3 dX1_expectRest_33 ?_
    refine pz_aload_n 0 F rfl dX1_expectRest_34 rfl ?_
    refine pz_get (ci := 1) (C := RX1) (T := TX1) (N := 13) (v := .ref hg) 0 F rfl rfl pz_inX1 4 (by decide) pw_118 rfl dX1_expectRest_35 ?_
    refine pz_iload 3 F rfl dX1_expectRest_38 ?_
    refine pz_iconst (v := 4) F dX1_expectRest_40 rfl ?_
    refine pz_imul F dX1_expectRest_41 ?_
    refine pz_iload 4 F rfl dX1_expectRest_42 ?_
    refine pz_iadd F dX1_expectRest_44 ?_
    obtain ⟨h_4, vc⟩ := vc
    refine pz_iaload 2 F rfl h_4 dX1_expectRest_45 ?_
    refine pz_i2l F dX1_expectRest_46 ?_
    refine pz_lmul F dX1_expectRest_47 ?_
    refine pz_aload_n 0 F rfl dX1_expectRest_48 rfl ?_
    refine pz_get (ci := 1) (C := RX1) (T := TX1) (N := 13) (v := .ref hw) 0 F rfl rfl pz_inX1 0 (by decide) pw_111 rfl dX1_expectRest_49 ?_
    refine pz_iload 4 F rfl dX1_expectRest_52 ?_
    obtain ⟨h_5, vc⟩ := vc
    refine pz_iaload 1 F rfl h_5 dX1_expectRest_54 ?_
    refine pz_i2l F dX1_expectRest_55 ?_
    refine pz_lmul F dX1_expectRest_56 ?_
    refine pz_ladd F dX1_expectRest_57 ?_
    refine pz_topl (fun x_6 ex_6 => ?_)
    replace vc := vc x_6 ex_6
    refine pz_lstore_n (lv' := [(2, .long x_6), (0, .ref h0), (1, .int lf), (4, .int ki), (5, .int qi)]) F dX1_expectRest_58 rfl (by decide) rfl ?_
    obtain ⟨x_7, ex_7⟩ : ∃ z : Int32, z = qi + 1 := ⟨_, rfl⟩
    replace vc := vc x_7 ex_7
    refine pz_iinc (v := x_7) (lv' := [(5, .int x_7), (2, .long x_6), (0, .ref h0), (1, .int lf), (4, .int ki)]) 4 F rfl dX1_expectRest_59 (by rw [ex_7]; rfl) (by decide) rfl ?_
    refine pz_goto (tgt := 17) F dX1_expectRest_62 (by decide) ?_
    exact pz_sub [2, 3, 1, 4, 0] [0, 1, 2, 3] rfl rfl rfl (hT17 x_6 ki x_7 vc)
theorem lpX1_expectRest_17 {B : pz_B} {g : pz_G} {wc : va_W} {Post : Option Value → va_W → Prop} (F : pz_F B cX1_expectRest 6 none yX1_expectRest.cls g rmX1_expectRest) (Rt : pz_Rt B g wc Post rmX1_expectRest) (lf : Int32) (h0 : Nat) (hw : Nat) (gc : Int32) (kc : Int32) (hp : Nat) (hg : Nat) (ho : Nat) (hd : Nat) (ao : Int64) (hf : Nat) (ht : Nat) (hn : Nat) (up : Int64) (lo : Int64) (wo : Nat → Int32) (we : Nat → Int32) (od : Nat → Int64) (k : Nat) (n : Nat) (T5 : Int64 → Int32 → Prop) (hT5 : ∀ (s : Int64) (ki : Int32), T5 s ki → paX1_expectRest_5 B g lf h0 hw gc kc hp hg ho hd ao hf ht hn up lo wo we od k n s ki) (Inv : Nat → Int64 → Int32 → Int32 → Prop) (step : ∀ (mz : Nat) (s : Int64) (ki : Int32) (qi : Int32), Inv mz s ki qi → ∀ TT : Int64 → Int32 → Int32 → Prop, TT = (fun s ki qi => ∃ mz', mz' < mz ∧ Inv mz' s ki qi) → ((gc ≤ qi → ∀ x_2 : Int32, x_2 = ki + 1 → T5 s x_2) ∧ (¬ gc ≤ qi → vp_in ki 3 ∧ vp_in ((ki * 4) + qi) 12 ∧ vp_in qi 4 ∧ ∀ x_6 : Int64, x_6 = (s + (((od ki.toNatClampNeg) * ((we ((ki * 4) + qi).toNatClampNeg).toInt64)) * ((wo qi.toNatClampNeg).toInt64))) → ∀ x_7 : Int32, x_7 = qi + 1 → TT x_6 ki x_7))) : ∀ (mz : Nat) (s : Int64) (ki : Int32) (qi : Int32), Inv mz s ki qi → paX1_expectRest_17 B g lf h0 hw gc kc hp hg ho hd ao hf ht hn up lo wo we od k n s ki qi := by
  intro mz
  induction mz using Nat.strongRecOn with
  | _ mz ih =>
    intro s ki qi hI
    exact sgX1_expectRest_17 F Rt lf h0 hw gc kc hp hg ho hd ao hf ht hn up lo wo we od k n T5 hT5 (fun s ki qi => ∃ mz', mz' < mz ∧ Inv mz' s ki qi) (fun s ki qi ⟨mz', h1, h2⟩ => ih mz' h1 s ki qi h2) s ki qi (step mz s ki qi hI _ rfl)
set_option maxHeartbeats 4000000 in
set_option maxRecDepth 100000 in
theorem ctX1_expectRest (l : Launch) (g : pz_G) (lf : Int32) (h0 : Nat) (hw : Nat) (gc : Int32) (kc : Int32) (hp : Nat) (hg : Nat) (ho : Nat) (hd : Nat) (ao : Int64) (hf : Nat) (ht : Nat) (hn : Nat) (up : Int64) (lo : Int64) (wo : Nat → Int32) (we : Nat → Int32) (od : Nat → Int64) (k : Nat) (n : Nat) (hpre : k ≤ 3 ∧ n ≤ 4 ∧ kc = nI k ∧ gc = nI n) : pz_Ct l g yX1_expectRest cX1_expectRest 6 none rmX1_expectRest [.ref h0, .int lf] [(h0, .inr (1, [.ref hw, .int gc, .int kc, .ref hp, .ref hg, .ref ho, .ref hd, .long ao, .ref hf, .ref ht, .ref hn, .long up, .long lo])), (hw, .inl (g.2.1 1, 4, .inl wo)), (hg, .inl (g.2.1 1, 12, .inl we)), (hd, .inl (g.2.1 2, 3, .inr (.inl od)))] (pz_pv (fun (u : Int64 × Int64) => if pu_cd 100 (pu_rs od wo we n k * lf.toInt64) (ao * 16) ≤ 0 then u.1 = up ∧ u.2 = lo else u.1 = (pu_rs od wo we n k * lf.toInt64) / pu_cd 100 (pu_rs od wo we n k * lf.toInt64) (ao * 16) ∧ u.2 = (ao * 16) / pu_cd 100 (pu_rs od wo we n k * lf.toInt64) (ao * 16)) (fun (u : Int64 × Int64) => [(h0, .inr (1, [.ref hw, .int gc, .int kc, .ref hp, .ref hg, .ref ho, .ref hd, .long ao, .ref hf, .ref ht, .ref hn, .long u.1, .long u.2])), (hw, .inl (g.2.1 1, 4, .inl wo)), (hg, .inl (g.2.1 1, 12, .inl we)), (hd, .inl (g.2.1 2, 3, .inr (.inl od)))])) := by
  refine pz_ofAt (by decide +kernel) (Nat.le_of_ble_eq_true rfl) (fun B F Rt hme => ?_)
  obtain ⟨hk, hG, h1, h2⟩ := hpre
  subst h1; subst h2
  have key : ∀ (m : Nat) (s : Int64) (ki : Int32), (∃ j, j + m = k ∧ ki = nI j ∧ s = pu_rs od wo we n j) → paX1_expectRest_5 B g lf h0 hw (nI n) (nI k) hp hg ho hd ao hf ht hn up lo wo we od k n s ki := by
    intro m
    induction m using Nat.strongRecOn with
    | _ m ih =>
      rintro s ki ⟨j, hj, rfl, rfl⟩
      refine sgX1_expectRest_5 F Rt lf h0 hw (nI n) (nI k) hp hg ho hd ao hf ht hn up lo wo we od k n (fun s ki qi => j < k ∧ ki = nI j ∧ ∃ q, q ≤ n ∧ qi = nI q ∧ s = pu_rg (pu_rs od wo we n j) (od j) wo we j q) ?_ _ (nI j) ?_
      · rintro s ki qi ⟨hjk, rfl, q, hq, rfl, rfl⟩
        refine lpX1_expectRest_17 F Rt lf h0 hw (nI n) (nI k) hp hg ho hd ao hf ht hn up lo wo we od k n (fun s ki => ∃ m', m' < m ∧ ∃ j, j + m' = k ∧ ki = nI j ∧ s = pu_rs od wo we n j) (fun s ki ⟨m', h1, h2⟩ => ih m' h1 s ki h2) (fun z s ki qi => ki = nI j ∧ ∃ q, q + z = n ∧ qi = nI q ∧ s = pu_rg (pu_rs od wo we n j) (od j) wo we j q) ?_ (n - q) _ _ _ ⟨rfl, q, by omega, rfl, rfl⟩
        rintro z s ki qi ⟨rfl, q, hq, rfl, rfl⟩ TT rfl
        refine ⟨fun q2 => ?_, fun q2 => ?_⟩
        · have h1 := pu_ge (by omega) q2
          rintro x rfl
          exact ⟨m - 1, by omega, j + 1, by omega, nI_1 j, by rw [show q = n by omega]; rfl⟩
        · have h1 := pu_lt (by omega) (by omega) q2
          have e4 : nI j * 4 + nI q = nI (4 * j + q) := by rw [show (4 : Int32) = nI 4 from rfl, pk_mul, nI_add, Nat.mul_comm]
          rw [e4, nI_clamp (n := j) (by omega), nI_clamp (n := 4 * j + q) (by omega), nI_clamp (n := q) (by omega)]
          refine ⟨vp_in_nI (by omega) (by omega), vp_in_nI (by omega) (by omega), vp_in_nI (by omega) (by omega), ?_⟩
          rintro x rfl y rfl
          exact ⟨z - 1, by omega, rfl, q + 1, by omega, nI_1 q, rfl⟩
      · refine ⟨fun q => ?_, fun q => ?_⟩
        · have h1 := pu_ge (by omega) q
          have e : j = k := by omega
          subst e
          exact fun up2 lo2 h => ⟨(_, _), rfl, rfl, h⟩
        · have h1 := pu_lt (by omega) (by omega) q
          exact ⟨h1, rfl, 0, by omega, nI_0.symm, rfl⟩
  exact sgX1_expectRest_0 F Rt lf h0 hw (nI n) (nI k) hp hg ho hd ao hf ht hn up lo wo we od k n _ (fun s ki => key k s ki) ⟨0, by omega, nI_0.symm, rfl⟩
abbrev rmX1_valueOfNextCut : Room := { frames := 1, cells := 0, slots := 0, locals := 28 }
abbrev paX1_valueOfNextCut_15 (B : pz_B) (g : pz_G) (pl : Int32) (bh : Int32) (h0 : Nat) (hw : Nat) (gc : Int32) (kc : Int32) (hp : Nat) (hg : Nat) (ho : Nat) (hd : Nat) (ao : Int64) (hf : Nat) (ht : Nat) (hn : Nat) (up : Int64) (lo : Int64) (wo : Nat → Int32) (we : Nat → Int32) (oth : Nat → Int64) (onw : Nat → Int64) (h3 : Nat) (h3_reader : Nat) (hi : Nat) (h3_draft : Nat) (h3_told : Nat) (h3_faultFound : Int32) (h3_faultPlace : Int32) (inf : Nat → Int32) (k : Nat) (n : Nat) (p : Nat) (b : Nat) (co : Int32) (s : Int64) (qi : Int32) : Prop := pz_At B 0 0 15 [(0, .ref h0), (1, .int pl), (2, .int bh), (3, .ref h3), (4, .int co), (5, .long s), (7, .int qi)] [] [(h0, .inr (1, [.ref hw, .int gc, .int kc, .ref hp, .ref hg, .ref ho, .ref hd, .long ao, .ref hf, .ref ht, .ref hn, .long up, .long lo])), (hw, .inl (g.2.1 1, 4, .inl wo)), (hg, .inl (g.2.1 1, 12, .inl we)), (ht, .inl (g.2.1 2, 3, .inr (.inl oth))), (hn, .inl (g.2.1 2, 729, .inr (.inl onw))), (h3, .inr (2, [.ref h3_reader, .ref hi, .ref h3_draft, .ref h3_told, .int h3_faultFound, .int h3_faultPlace])), (hi, .inl (g.2.1 1, 12, .inl inf))]
set_option maxHeartbeats 4000000 in
set_option maxRecDepth 100000 in
theorem sgX1_valueOfNextCut_0 {B : pz_B} {g : pz_G} {wc : va_W} {Post : Option Value → va_W → Prop} (F : pz_F B cX1_valueOfNextCut 14 (some .long) yX1_valueOfNextCut.cls g rmX1_valueOfNextCut) (Rt : pz_Rt B g wc Post rmX1_valueOfNextCut) (pl : Int32) (bh : Int32) (h0 : Nat) (hw : Nat) (gc : Int32) (kc : Int32) (hp : Nat) (hg : Nat) (ho : Nat) (hd : Nat) (ao : Int64) (hf : Nat) (ht : Nat) (hn : Nat) (up : Int64) (lo : Int64) (wo : Nat → Int32) (we : Nat → Int32) (oth : Nat → Int64) (onw : Nat → Int64) (h3 : Nat) (h3_reader : Nat) (hi : Nat) (h3_draft : Nat) (h3_told : Nat) (h3_faultFound : Int32) (h3_faultPlace : Int32) (inf : Nat → Int32) (k : Nat) (n : Nat) (p : Nat) (b : Nat) (T15 : Int32 → Int64 → Int32 → Prop) (hT15 : ∀ (co : Int32) (s : Int64) (qi : Int32), T15 co s qi → paX1_valueOfNextCut_15 B g pl bh h0 hw gc kc hp hg ho hd ao hf ht hn up lo wo we oth onw h3 h3_reader hi h3_draft h3_told h3_faultFound h3_faultPlace inf k n p b co s qi)  (vc : (6 < 9) ∧ ∀ r_2 : Int32, ∀ _ : (r_2 = inf 6), T15 r_2 0 0) : pz_At B 0 0 0 [(0, .ref h0), (1, .int pl), (2, .int bh), (3, .ref h3)] [] [(h0, .inr (1, [.ref hw, .int gc, .int kc, .ref hp, .ref hg, .ref ho, .ref hd, .long ao, .ref hf, .ref ht, .ref hn, .long up, .long lo])), (hw, .inl (g.2.1 1, 4, .inl wo)), (hg, .inl (g.2.1 1, 12, .inl we)), (ht, .inl (g.2.1 2, 3, .inr (.inl oth))), (hn, .inl (g.2.1 2, 729, .inr (.inl onw))), (h3, .inr (2, [.ref h3_reader, .ref hi, .ref h3_draft, .ref h3_told, .int h3_faultFound, .int h3_faultPlace])), (hi, .inl (g.2.1 1, 12, .inl inf))] := by
  refine pz_aload_n 3 F rfl dX1_valueOfNextCut_0 rfl ?_
  refine pz_gets F (pz_line F (i := 6) (by decide)) pw_684 dX1_valueOfNextCut_1 ?_
  obtain ⟨h_1, vc⟩ := vc
  refine pz_callV (nA := 1) (ci := 2) (C := RX2) (T := TX2) (N := 6) (As := [.ref (g.2.2 6)]) (rest := []) (wr := [(h0, .inr (1, [.ref hw, .int gc, .int kc, .ref hp, .ref hg, .ref ho, .ref hd, .long ao, .ref hf, .ref ht, .ref hn, .long up, .long lo])), (hw, .inl (g.2.1 1, 4, .inl wo)), (hg, .inl (g.2.1 1, 12, .inl we)), (ht, .inl (g.2.1 2, 3, .inr (.inl oth))), (hn, .inl (g.2.1 2, 729, .inr (.inl onw)))]) F (ctX2_coins _ g h3 6 h3_reader hi h3_draft h3_told h3_faultFound h3_faultPlace inf h_1) 5 rfl rfl pw_685 pw_513 pw_514 pw_3 pw_515 (by decide +kernel) (by decide) (by decide) rfl rfl (Nat.le_of_ble_eq_true rfl) [5, 6] [0, 1, 2, 3, 4] rfl rfl rfl rfl (by decide) dX1_valueOfNextCut_4 (fun r0 w0 hp0 => ?_)
  obtain ⟨r_2, _, rfl, rfl, hq_3⟩ := hp0
  replace vc := vc r_2  hq_3
  refine pz_eq (st' := [.int r_2]) (ws' := [(h0, .inr (1, [.ref hw, .int gc, .int kc, .ref hp, .ref hg, .ref ho, .ref hd, .long ao, .ref hf, .ref ht, .ref hn, .long up, .long lo])), (hw, .inl (g.2.1 1, 4, .inl wo)), (hg, .inl (g.2.1 1, 12, .inl we)), (ht, .inl (g.2.1 2, 3, .inr (.inl oth))), (hn, .inl (g.2.1 2, 729, .inr (.inl onw))), (h3, .inr (2, [.ref h3_reader, .ref hi, .ref h3_draft, .ref h3_told, .int h3_faultFound, .int h3_faultPlace])), (hi, .inl (g.2.1 1, 12, .inl inf))]) rfl rfl ?_
  refine pz_istore (lv' := [(4, .int r_2), (0, .ref h0), (1, .int pl), (2, .int bh), (3, .ref h3)]) F dX1_valueOfNextCut_7 (by decide) rfl ?_
  refine pz_lconst (v := 0) F dX1_valueOfNextCut_9 rfl ?_
  refine pz_lstore (lv' := [(5, .long 0), (4, .int r_2), (0, .ref h0), (1, .int pl), (2, .int bh), (3, .ref h3)]) F dX1_valueOfNextCut_10 (by decide) rfl ?_
  refine pz_iconst (v := 0) F dX1_valueOfNextCut_12 rfl ?_
  refine pz_istore (lv' := [(7, .int 0), (5, .long 0), (4, .int r_2), (0, .ref h0), (1, .int pl), (2, .int bh), (3, .ref h3)]) F dX1_valueOfNextCut_13 (by decide) rfl ?_
  exact pz_sub [3, 4, 5, 6, 2, 1, 0] [0, 1, 2, 3, 4, 5, 6] rfl rfl rfl (hT15 r_2 0 0 vc)
set_option maxHeartbeats 4000000 in
set_option maxRecDepth 100000 in
theorem sgX1_valueOfNextCut_15 {B : pz_B} {g : pz_G} {wc : va_W} {Post : Option Value → va_W → Prop} (F : pz_F B cX1_valueOfNextCut 14 (some .long) yX1_valueOfNextCut.cls g rmX1_valueOfNextCut) (Rt : pz_Rt B g wc Post rmX1_valueOfNextCut) (pl : Int32) (bh : Int32) (h0 : Nat) (hw : Nat) (gc : Int32) (kc : Int32) (hp : Nat) (hg : Nat) (ho : Nat) (hd : Nat) (ao : Int64) (hf : Nat) (ht : Nat) (hn : Nat) (up : Int64) (lo : Int64) (wo : Nat → Int32) (we : Nat → Int32) (oth : Nat → Int64) (onw : Nat → Int64) (h3 : Nat) (h3_reader : Nat) (hi : Nat) (h3_draft : Nat) (h3_told : Nat) (h3_faultFound : Int32) (h3_faultPlace : Int32) (inf : Nat → Int32) (k : Nat) (n : Nat) (p : Nat) (b : Nat) (T15 : Int32 → Int64 → Int32 → Prop) (hT15 : ∀ (co : Int32) (s : Int64) (qi : Int32), T15 co s qi → paX1_valueOfNextCut_15 B g pl bh h0 hw gc kc hp hg ho hd ao hf ht hn up lo wo we oth onw h3 h3_reader hi h3_draft h3_told h3_faultFound h3_faultPlace inf k n p b co s qi) (co : Int32) (s : Int64) (qi : Int32) (vc : ((gc ≤ qi → Post (some (.long s)) [(h0, .inr (1, [.ref hw, .int gc, .int kc, .ref hp, .ref hg, .ref ho, .ref hd, .long ao, .ref hf, .ref ht, .ref hn, .long up, .long lo])), (hw, .inl (g.2.1 1, 4, .inl wo)), (hg, .inl (g.2.1 1, 12, .inl we)), (ht, .inl (g.2.1 2, 3, .inr (.inl oth))), (hn, .inl (g.2.1 2, 729, .inr (.inl onw))), (h3, .inr (2, [.ref h3_reader, .ref hi, .ref h3_draft, .ref h3_told, .int h3_faultFound, .int h3_faultPlace])), (hi, .inl (g.2.1 1, 12, .inl inf))]) ∧ (¬ gc ≤ qi → ∃ q_2 : Nat, (k ≤ 3 ∧ q_2 < 4 ∧ kc = nI k ∧ qi = nI q_2) ∧ ∀ r_4 : Int64, ∀ _ : (r_4 = pu_on oth we q_2 k), ∀ r_6 : Int64, ∀ _ : (r_6 = (1 : Int64) <<< ((4 * bh).toInt64 &&& 63)), ∀ x_8 : Int64, x_8 = (r_4 * r_6) → (((lg_cmp x_8 0) ≤ 0 → ∀ x_10 : Int32, x_10 = qi + 1 → T15 co s x_10) ∧ (¬ (lg_cmp x_8 0) ≤ 0 → (qi < 4) ∧ ∀ r_12 : Int32, ∀ _ : (r_12 = if qi < 0 then inf 7 else inf (8 + qi.toNatClampNeg)), ∀ x_14 : Int64, x_14 = ((x_8 * bh.toInt64) * r_12.toInt64) → vp_in qi 4 ∧ vp_in (pl + (pz_stp.getD qi.toNatClampNeg 0)) 729 ∧ ∀ x_17 : Int64, x_17 = (onw (pl + (pz_stp.getD qi.toNatClampNeg 0)).toNatClampNeg) → vp_in qi 4 ∧ ∀ x_19 : Int64, x_19 = (s + ((x_8 * (((wo qi.toNatClampNeg) - co).toInt64)) + (if x_17 < x_14 then x_14 else x_17))) → ∀ x_20 : Int32, x_20 = qi + 1 → T15 co x_19 x_20))))) : pz_At B 0 0 15 [(0, .ref h0), (1, .int pl), (2, .int bh), (3, .ref h3), (4, .int co), (5, .long s), (7, .int qi)] [] [(h0, .inr (1, [.ref hw, .int gc, .int kc, .ref hp, .ref hg, .ref ho, .ref hd, .long ao, .ref hf, .ref ht, .ref hn, .long up, .long lo])), (hw, .inl (g.2.1 1, 4, .inl wo)), (hg, .inl (g.2.1 1, 12, .inl we)), (ht, .inl (g.2.1 2, 3, .inr (.inl oth))), (hn, .inl (g.2.1 2, 729, .inr (.inl onw))), (h3, .inr (2, [.ref h3_reader, .ref hi, .ref h3_draft, .ref h3_told, .int h3_faultFound, .int h3_faultPlace])), (hi, .inl (g.2.1 1, 12, .inl inf))] := by
  refine pz_iload 6 F rfl dX1_valueOfNextCut_15 ?_
  refine pz_aload_n 0 F rfl dX1_valueOfNextCut_17 rfl ?_
  refine pz_get (ci := 1) (C := RX1) (T := TX1) (N := 13) (v := .int gc) 0 F rfl rfl pz_inX1 1 (by decide) pw_113 rfl dX1_valueOfNextCut_18 ?_
  refine pz_icmp_ge (tgt := 107) F dX1_valueOfNextCut_21 (by decide) (fun q_1 => ?_) (fun q_1 => ?_)
  · replace vc := vc.1 q_1
    refine pz_lload 5 F rfl dX1_valueOfNextCut_107 ?_
    exact pz_lreturn (w1 := [(h0, .inr (1, [.ref hw, .int gc, .int kc, .ref hp, .ref hg, .ref ho, .ref hd, .long ao, .ref hf, .ref ht, .ref hn, .long up, .long lo])), (hw, .inl (g.2.1 1, 4, .inl wo)), (hg, .inl (g.2.1 1, 12, .inl we)), (ht, .inl (g.2.1 2, 3, .inr (.inl oth))), (hn, .inl (g.2.1 2, 729, .inr (.inl onw))), (h3, .inr (2, [.ref h3_reader, .ref hi, .ref h3_draft, .ref h3_told, .int h3_faultFound, .int h3_faultPlace])), (hi, .inl (g.2.1 1, 12, .inl inf))]) F Rt (by decide) (by decide) dX1_valueOfNextCut_109 [0, 1, 2, 3, 4, 5, 6] rfl rfl vc
  · replace vc := vc.2 q_1
    refine pz_aload_n 0 F rfl dX1_valueOfNextCut_24 rfl ?_
    refine pz_iload 6 F rfl dX1_valueOfNextCut_25 ?_
    obtain ⟨q_2, vc⟩ := vc
    obtain ⟨h_3, vc⟩ := vc
    refine pz_callV (nA := 1) (ci := 1) (C := RX1) (T := TX1) (N := 13) (As := [.int qi]) (rest := []) (wr := [(hw, .inl (g.2.1 1, 4, .inl wo)), (hn, .inl (g.2.1 2, 729, .inr (.inl onw))), (h3, .inr (2, [.ref h3_reader, .ref hi, .ref h3_draft, .ref h3_told, .int h3_faultFound, .int h3_faultPlace])), (hi, .inl (g.2.1 1, 12, .inl inf))]) F (ctX1_oddsOfNext _ g qi h0 hw gc kc hp hg ho hd ao hf ht hn up lo oth we k q_2 h_3) 0 rfl rfl pw_686 pw_688 pv_25 pw_5 pw_689 (by decide +kernel) (by decide) (by decide) rfl rfl (Nat.le_of_ble_eq_true rfl) [0, 3, 2] [1, 4, 5, 6] rfl rfl rfl rfl (by decide) dX1_valueOfNextCut_27 (fun r0 w0 hp0 => ?_)
    obtain ⟨r_4, _, rfl, rfl, hq_5⟩ := hp0
    replace vc := vc r_4  hq_5
    refine pz_eq (st' := [.long r_4]) (ws' := [(hw, .inl (g.2.1 1, 4, .inl wo)), (hn, .inl (g.2.1 2, 729, .inr (.inl onw))), (h3, .inr (2, [.ref h3_reader, .ref hi, .ref h3_draft, .ref h3_told, .int h3_faultFound, .int h3_faultPlace])), (hi, .inl (g.2.1 1, 12, .inl inf)), (h0, .inr (1, [.ref hw, .int gc, .int kc, .ref hp, .ref hg, .ref ho, .ref hd, .long ao, .ref hf, .ref ht, .ref hn, .long up, .long lo])), (ht, .inl (g.2.1 2, 3, .inr (.inl oth))), (hg, .inl (g.2.1 1, 12, .inl we))]) rfl rfl ?_
    refine pz_iload_n 2 F rfl dX1_valueOfNextCut_30 rfl ?_
    refine pz_callS (nA := 1) (As := [.int bh]) (rest := [.long r_4]) (wr := [(hw, .inl (g.2.1 1, 4, .inl wo)), (hn, .inl (g.2.1 2, 729, .inr (.inl onw))), (h3, .inr (2, [.ref h3_reader, .ref hi, .ref h3_draft, .ref h3_told, .int h3_faultFound, .int h3_faultPlace])), (hi, .inl (g.2.1 1, 12, .inl inf)), (h0, .inr (1, [.ref hw, .int gc, .int kc, .ref hp, .ref hg, .ref ho, .ref hd, .long ao, .ref hf, .ref ht, .ref hn, .long up, .long lo])), (ht, .inl (g.2.1 2, 3, .inr (.inl oth))), (hg, .inl (g.2.1 1, 12, .inl we))]) F (ctX1_sixteenToThe _ g bh) pw_662 pw_663 pw_5 pw_664 (by decide +kernel) (by decide) (by decide) rfl rfl (Nat.le_of_ble_eq_true rfl) [] [0, 1, 2, 3, 4, 5, 6] rfl rfl rfl rfl (by decide) dX1_valueOfNextCut_31 (fun r0 w0 hp0 => ?_)
    obtain ⟨r_6, _, rfl, rfl, hq_7⟩ := hp0
    replace vc := vc r_6  hq_7
    refine pz_eq (st' := [.long r_6, .long r_4]) (ws' := [(hw, .inl (g.2.1 1, 4, .inl wo)), (hn, .inl (g.2.1 2, 729, .inr (.inl onw))), (h3, .inr (2, [.ref h3_reader, .ref hi, .ref h3_draft, .ref h3_told, .int h3_faultFound, .int h3_faultPlace])), (hi, .inl (g.2.1 1, 12, .inl inf)), (h0, .inr (1, [.ref hw, .int gc, .int kc, .ref hp, .ref hg, .ref ho, .ref hd, .long ao, .ref hf, .ref ht, .ref hn, .long up, .long lo])), (ht, .inl (g.2.1 2, 3, .inr (.inl oth))), (hg, .inl (g.2.1 1, 12, .inl we))]) rfl rfl ?_
    refine pz_lmul F dX1_valueOfNextCut_34 ?_
    refine pz_topl (fun x_8 ex_8 => ?_)
    replace vc := vc x_8 ex_8
    refine pz_lstore (lv' := [(8, .long x_8), (0, .ref h0), (1, .int pl), (2, .int bh), (3, .ref h3), (4, .int co), (5, .long s), (7, .int qi)]) F dX1_valueOfNextCut_35 (by decide) rfl ?_
    refine pz_lload 0 F rfl dX1_valueOfNextCut_37 ?_
    refine pz_lconst (v := 0) F dX1_valueOfNextCut_39 rfl ?_
    refine pz_lcmp F dX1_valueOfNextCut_40 ?_
    refine pz_if_le (tgt := 101) F dX1_valueOfNextCut_41 (by decide) (fun q_9 => ?_) (fun q_9 => ?_)
    · replace vc := vc.1 q_9
      obtain ⟨x_10, ex_10⟩ : ∃ z : Int32, z = qi + 1 := ⟨_, rfl⟩
      replace vc := vc x_10 ex_10
      refine pz_iinc (v := x_10) (lv' := [(7, .int x_10), (8, .long x_8), (0, .ref h0), (1, .int pl), (2, .int bh), (3, .ref h3), (4, .int co), (5, .long s)]) 7 F rfl dX1_valueOfNextCut_101 (by rw [ex_10]; rfl) (by decide) rfl ?_
      refine pz_goto (tgt := 15) F dX1_valueOfNextCut_104 (by decide) ?_
      exact pz_sub [2, 3, 4, 5, 6, 7, 0] [4, 0, 6, 5, 1, 2, 3] rfl rfl rfl (hT15 co s x_10 vc)
    · replace vc := vc.2 q_9
      refine pz_lload 0 F rfl dX1_valueOfNextCut_44 ?_
      refine pz_iload_n 3 F rfl dX1_valueOfNextCut_46 rfl ?_
      refine pz_i2l F dX1_valueOfNextCut_47 ?_
      refine pz_lmul F dX1_valueOfNextCut_48 ?_
      refine pz_aload_n 4 F rfl dX1_valueOfNextCut_49 rfl ?_
      refine pz_iload 7 F rfl dX1_valueOfNextCut_50 ?_
      obtain ⟨h_11, vc⟩ := vc
      refine pz_callV (nA := 1) (ci := 2) (C := RX2) (T := TX2) (N := 6) (As := [.int qi]) (rest := [.long (x_8 * bh.toInt64)]) (wr := [(hw, .inl (g.2.1 1, 4, .inl wo)), (hn, .inl (g.2.1 2, 729, .inr (.inl onw))), (h0, .inr (1, [.ref hw, .int gc, .int kc, .ref hp, .ref hg, .ref ho, .ref hd, .long ao, .ref hf, .ref ht, .ref hn, .long up, .long lo])), (ht, .inl (g.2.1 2, 3, .inr (.inl oth))), (hg, .inl (g.2.1 1, 12, .inl we))]) F (ctX2_offerBehind _ g h3 qi h3_reader hi h3_draft h3_told h3_faultFound h3_faultPlace inf h_11) 2 rfl rfl pw_666 pw_617 pw_618 pw_3 pw_619 (by decide +kernel) (by decide) (by decide) rfl rfl (Nat.le_of_ble_eq_true rfl) [2, 3] [0, 1, 4, 5, 6] rfl rfl rfl rfl (by decide) dX1_valueOfNextCut_52 (fun r0 w0 hp0 => ?_)
      obtain ⟨r_12, _, rfl, rfl, hq_13⟩ := hp0
      replace vc := vc r_12  hq_13
      refine pz_eq (st' := [.int r_12, .long (x_8 * bh.toInt64)]) (ws' := [(hw, .inl (g.2.1 1, 4, .inl wo)), (hn, .inl (g.2.1 2, 729, .inr (.inl onw))), (h0, .inr (1, [.ref hw, .int gc, .int kc, .ref hp, .ref hg, .ref ho, .ref hd, .long ao, .ref hf, .ref ht, .ref hn, .long up, .long lo])), (ht, .inl (g.2.1 2, 3, .inr (.inl oth))), (hg, .inl (g.2.1 1, 12, .inl we)), (h3, .inr (2, [.ref h3_reader, .ref hi, .ref h3_draft, .ref h3_told, .int h3_faultFound, .int h3_faultPlace])), (hi, .inl (g.2.1 1, 12, .inl inf))]) rfl rfl ?_
      refine pz_i2l F dX1_valueOfNextCut_55 ?_
      refine pz_lmul F dX1_valueOfNextCut_56 ?_
      refine pz_topl (fun x_14 ex_14 => ?_)
      replace vc := vc x_14 ex_14
      refine pz_lstore (lv' := [(10, .long x_14), (8, .long x_8), (0, .ref h0), (1, .int pl), (2, .int bh), (3, .ref h3), (4, .int co), (5, .long s), (7, .int qi)]) F dX1_valueOfNextCut_57 (by decide) rfl ?_
      refine pz_aload_n 2 F rfl dX1_valueOfNextCut_59 rfl ?_
      refine pz_get (ci := 1) (C := RX1) (T := TX1) (N := 13) (v := .ref hn) 2 F rfl rfl pz_inX1 10 (by decide) pw_124 rfl dX1_valueOfNextCut_60 ?_
      refine pz_iload_n 3 F rfl dX1_valueOfNextCut_63 rfl ?_
      refine pz_gets F (pz_STEPS F) pw_678 dX1_valueOfNextCut_64 ?_
      refine pz_iload 8 F rfl dX1_valueOfNextCut_67 ?_
      obtain ⟨h_15, vc⟩ := vc
      refine pz_ti F (pz_STEPSt F) h_15 rfl dX1_valueOfNextCut_69 ?_
      show pz_At B 0 0 70 [(10, .long x_14), (8, .long x_8), (0, .ref h0), (1, .int pl), (2, .int bh), (3, .ref h3), (4, .int co), (5, .long s), (7, .int qi)] [.int (pz_stp.getD qi.toNatClampNeg 0), .int pl, .ref hn] [(hw, .inl (g.2.1 1, 4, .inl wo)), (hn, .inl (g.2.1 2, 729, .inr (.inl onw))), (h0, .inr (1, [.ref hw, .int gc, .int kc, .ref hp, .ref hg, .ref ho, .ref hd, .long ao, .ref hf, .ref ht, .ref hn, .long up, .long lo])), (ht, .inl (g.2.1 2, 3, .inr (.inl oth))), (hg, .inl (g.2.1 1, 12, .inl we)), (h3, .inr (2, [.ref h3_reader, .ref hi, .ref h3_draft, .ref h3_told, .int h3_faultFound, .int h3_faultPlace])), (hi, .inl (g.2.1 1, 12, .inl inf))]
      refine pz_iadd F dX1_valueOfNextCut_70 ?_
      obtain ⟨h_16, vc⟩ := vc
      refine pz_laload 1 F rfl h_16 dX1_valueOfNextCut_71 ?_
      refine pz_topl (fun x_17 ex_17 => ?_)
      replace vc := vc x_17 ex_17
      refine pz_lstore (lv' := [(12, .long x_17), (10, .long x_14), (8, .long x_8), (0, .ref h0), (1, .int pl), (2, .int bh), (3, .ref h3), (4, .int co), (5, .long s), (7, .int qi)]) F dX1_valueOfNextCut_72 (by decide) rfl ?_
      refine pz_lload 8 F rfl dX1_valueOfNextCut_74 ?_
      refine pz_lload 2 F rfl dX1_valueOfNextCut_76 ?_
      refine pz_aload_n 3 F rfl dX1_valueOfNextCut_78 rfl ?_
      refine pz_get (ci := 1) (C := RX1) (T := TX1) (N := 13) (v := .ref hw) 2 F rfl rfl pz_inX1 0 (by decide) pw_111 rfl dX1_valueOfNextCut_79 ?_
      refine pz_iload 9 F rfl dX1_valueOfNextCut_82 ?_
      obtain ⟨h_18, vc⟩ := vc
      refine pz_iaload 0 F rfl h_18 dX1_valueOfNextCut_84 ?_
      refine pz_iload 7 F rfl dX1_valueOfNextCut_85 ?_
      refine pz_isub F dX1_valueOfNextCut_87 ?_
      refine pz_i2l F dX1_valueOfNextCut_88 ?_
      refine pz_lmul F dX1_valueOfNextCut_89 ?_
      refine pz_lload 1 F rfl dX1_valueOfNextCut_90 ?_
      refine pz_lload 0 F rfl dX1_valueOfNextCut_92 ?_
      refine pz_mmaxL F pw_690 pw_691 pw_9 pw_692 ⟨Nat.le_of_ble_eq_true rfl, Nat.le_of_ble_eq_true rfl⟩ (by decide) dX1_valueOfNextCut_94 ?_
      refine pz_ladd F dX1_valueOfNextCut_97 ?_
      refine pz_ladd F dX1_valueOfNextCut_98 ?_
      refine pz_topl (fun x_19 ex_19 => ?_)
      replace vc := vc x_19 ex_19
      refine pz_lstore (lv' := [(5, .long x_19), (12, .long x_17), (10, .long x_14), (8, .long x_8), (0, .ref h0), (1, .int pl), (2, .int bh), (3, .ref h3), (4, .int co), (7, .int qi)]) F dX1_valueOfNextCut_99 (by decide) rfl ?_
      obtain ⟨x_20, ex_20⟩ : ∃ z : Int32, z = qi + 1 := ⟨_, rfl⟩
      replace vc := vc x_20 ex_20
      refine pz_iinc (v := x_20) (lv' := [(7, .int x_20), (5, .long x_19), (12, .long x_17), (10, .long x_14), (8, .long x_8), (0, .ref h0), (1, .int pl), (2, .int bh), (3, .ref h3), (4, .int co)]) 9 F rfl dX1_valueOfNextCut_101 (by rw [ex_20]; rfl) (by decide) rfl ?_
      refine pz_goto (tgt := 15) F dX1_valueOfNextCut_104 (by decide) ?_
      exact pz_sub [5, 6, 7, 8, 9, 1, 0] [2, 0, 4, 3, 1, 5, 6] rfl rfl rfl (hT15 co x_19 x_20 vc)
theorem lpX1_valueOfNextCut_15 {B : pz_B} {g : pz_G} {wc : va_W} {Post : Option Value → va_W → Prop} (F : pz_F B cX1_valueOfNextCut 14 (some .long) yX1_valueOfNextCut.cls g rmX1_valueOfNextCut) (Rt : pz_Rt B g wc Post rmX1_valueOfNextCut) (pl : Int32) (bh : Int32) (h0 : Nat) (hw : Nat) (gc : Int32) (kc : Int32) (hp : Nat) (hg : Nat) (ho : Nat) (hd : Nat) (ao : Int64) (hf : Nat) (ht : Nat) (hn : Nat) (up : Int64) (lo : Int64) (wo : Nat → Int32) (we : Nat → Int32) (oth : Nat → Int64) (onw : Nat → Int64) (h3 : Nat) (h3_reader : Nat) (hi : Nat) (h3_draft : Nat) (h3_told : Nat) (h3_faultFound : Int32) (h3_faultPlace : Int32) (inf : Nat → Int32) (k : Nat) (n : Nat) (p : Nat) (b : Nat) (Inv : Nat → Int32 → Int64 → Int32 → Prop) (step : ∀ (mz : Nat) (co : Int32) (s : Int64) (qi : Int32), Inv mz co s qi → ∀ TT : Int32 → Int64 → Int32 → Prop, TT = (fun co s qi => ∃ mz', mz' < mz ∧ Inv mz' co s qi) → ((gc ≤ qi → Post (some (.long s)) [(h0, .inr (1, [.ref hw, .int gc, .int kc, .ref hp, .ref hg, .ref ho, .ref hd, .long ao, .ref hf, .ref ht, .ref hn, .long up, .long lo])), (hw, .inl (g.2.1 1, 4, .inl wo)), (hg, .inl (g.2.1 1, 12, .inl we)), (ht, .inl (g.2.1 2, 3, .inr (.inl oth))), (hn, .inl (g.2.1 2, 729, .inr (.inl onw))), (h3, .inr (2, [.ref h3_reader, .ref hi, .ref h3_draft, .ref h3_told, .int h3_faultFound, .int h3_faultPlace])), (hi, .inl (g.2.1 1, 12, .inl inf))]) ∧ (¬ gc ≤ qi → ∃ q_2 : Nat, (k ≤ 3 ∧ q_2 < 4 ∧ kc = nI k ∧ qi = nI q_2) ∧ ∀ r_4 : Int64, ∀ _ : (r_4 = pu_on oth we q_2 k), ∀ r_6 : Int64, ∀ _ : (r_6 = (1 : Int64) <<< ((4 * bh).toInt64 &&& 63)), ∀ x_8 : Int64, x_8 = (r_4 * r_6) → (((lg_cmp x_8 0) ≤ 0 → ∀ x_10 : Int32, x_10 = qi + 1 → TT co s x_10) ∧ (¬ (lg_cmp x_8 0) ≤ 0 → (qi < 4) ∧ ∀ r_12 : Int32, ∀ _ : (r_12 = if qi < 0 then inf 7 else inf (8 + qi.toNatClampNeg)), ∀ x_14 : Int64, x_14 = ((x_8 * bh.toInt64) * r_12.toInt64) → vp_in qi 4 ∧ vp_in (pl + (pz_stp.getD qi.toNatClampNeg 0)) 729 ∧ ∀ x_17 : Int64, x_17 = (onw (pl + (pz_stp.getD qi.toNatClampNeg 0)).toNatClampNeg) → vp_in qi 4 ∧ ∀ x_19 : Int64, x_19 = (s + ((x_8 * (((wo qi.toNatClampNeg) - co).toInt64)) + (if x_17 < x_14 then x_14 else x_17))) → ∀ x_20 : Int32, x_20 = qi + 1 → TT co x_19 x_20))))) : ∀ (mz : Nat) (co : Int32) (s : Int64) (qi : Int32), Inv mz co s qi → paX1_valueOfNextCut_15 B g pl bh h0 hw gc kc hp hg ho hd ao hf ht hn up lo wo we oth onw h3 h3_reader hi h3_draft h3_told h3_faultFound h3_faultPlace inf k n p b co s qi := by
  intro mz
  induction mz using Nat.strongRecOn with
  | _ mz ih =>
    intro co s qi hI
    exact sgX1_valueOfNextCut_15 F Rt pl bh h0 hw gc kc hp hg ho hd ao hf ht hn up lo wo we oth onw h3 h3_reader hi h3_draft h3_told h3_faultFound h3_faultPlace inf k n p b (fun co s qi => ∃ mz', mz' < mz ∧ Inv mz' co s qi) (fun co s qi ⟨mz', h1, h2⟩ => ih mz' h1 co s qi h2) co s qi (step mz co s qi hI _ rfl)
set_option maxHeartbeats 4000000 in
set_option maxRecDepth 100000 in
theorem ctX1_valueOfNextCut (l : Launch) (g : pz_G) (pl : Int32) (bh : Int32) (h0 : Nat) (hw : Nat) (gc : Int32) (kc : Int32) (hp : Nat) (hg : Nat) (ho : Nat) (hd : Nat) (ao : Int64) (hf : Nat) (ht : Nat) (hn : Nat) (up : Int64) (lo : Int64) (wo : Nat → Int32) (we : Nat → Int32) (oth : Nat → Int64) (onw : Nat → Int64) (h3 : Nat) (h3_reader : Nat) (hi : Nat) (h3_draft : Nat) (h3_told : Nat) (h3_faultFound : Int32) (h3_faultPlace : Int32) (inf : Nat → Int32) (k : Nat) (n : Nat) (p : Nat) (b : Nat) (hpre : k ≤ 3 ∧ n ≤ 4 ∧ p + 81 < 729 ∧ b < 9 ∧ kc = nI k ∧ gc = nI n ∧ pl = nI p ∧ bh = nI b) : pz_Ct l g yX1_valueOfNextCut cX1_valueOfNextCut 14 (some .long) rmX1_valueOfNextCut [.ref h0, .int pl, .int bh, .ref h3] [(h0, .inr (1, [.ref hw, .int gc, .int kc, .ref hp, .ref hg, .ref ho, .ref hd, .long ao, .ref hf, .ref ht, .ref hn, .long up, .long lo])), (hw, .inl (g.2.1 1, 4, .inl wo)), (hg, .inl (g.2.1 1, 12, .inl we)), (ht, .inl (g.2.1 2, 3, .inr (.inl oth))), (hn, .inl (g.2.1 2, 729, .inr (.inl onw))), (h3, .inr (2, [.ref h3_reader, .ref hi, .ref h3_draft, .ref h3_told, .int h3_faultFound, .int h3_faultPlace])), (hi, .inl (g.2.1 1, 12, .inl inf))] (pz_pl (fun (r : Int64) (u : Unit) => r = pu_vc (inf 6) wo inf (fun q => pu_on oth we q k) (fun q => onw (p + pu_step q)) bh n) (fun (u : Unit) => [(h0, .inr (1, [.ref hw, .int gc, .int kc, .ref hp, .ref hg, .ref ho, .ref hd, .long ao, .ref hf, .ref ht, .ref hn, .long up, .long lo])), (hw, .inl (g.2.1 1, 4, .inl wo)), (hg, .inl (g.2.1 1, 12, .inl we)), (ht, .inl (g.2.1 2, 3, .inr (.inl oth))), (hn, .inl (g.2.1 2, 729, .inr (.inl onw))), (h3, .inr (2, [.ref h3_reader, .ref hi, .ref h3_draft, .ref h3_told, .int h3_faultFound, .int h3_faultPlace])), (hi, .inl (g.2.1 1, 12, .inl inf))])) := by
  refine pz_ofAt (by decide +kernel) (Nat.le_of_ble_eq_true rfl) (fun B F Rt hme => ?_)
  obtain ⟨hk, hG, hp8, hb8, h1, h2, h3, h4⟩ := hpre
  subst h1; subst h2; subst h3; subst h4
  refine sgX1_valueOfNextCut_0 F Rt (nI p) (nI b) h0 hw (nI n) (nI k) hp hg ho hd ao hf ht hn up lo wo we oth onw h3 h3_reader hi h3_draft h3_told h3_faultFound h3_faultPlace inf k n p b _ (fun co s qi h => lpX1_valueOfNextCut_15 F Rt (nI p) (nI b) h0 hw (nI n) (nI k) hp hg ho hd ao hf ht hn up lo wo we oth onw h3 h3_reader hi h3_draft h3_told h3_faultFound h3_faultPlace inf k n p b (fun z co s qi => co = inf 6 ∧ ∃ q, q + z = n ∧ qi = nI q ∧ s = pu_vc (inf 6) wo inf (fun q => pu_on oth we q k) (fun q => onw (p + pu_step q)) (nI b) q) ?_ n co s qi h) ⟨by omega, fun r hr => ⟨hr, 0, by omega, nI_0.symm, rfl⟩⟩
  rintro z co s qi ⟨rfl, q, hq, rfl, rfl⟩ TT rfl
  refine ⟨fun q2 => ?_, fun q2 => ?_⟩
  · have h1 := pu_ge (by omega) q2
    exact ⟨_, (), rfl, rfl, by rw [show q = n by omega]⟩
  · have h1 := pu_lt (by omega) (by omega) q2
    refine ⟨q, ⟨hk, by omega, rfl, rfl⟩, ?_⟩
    rintro r rfl r2 hr2
    have e16 : r2 = pu_s16 (nI b) := hr2
    rw [e16]
    rintro sc rfl
    rw [lg_cmp_le]
    refine ⟨fun q3 => ?_, fun q3 => ?_⟩
    · rintro x rfl
      exact ⟨z - 1, by omega, rfl, q + 1, by omega, nI_1 q, by rw [pu_vc, if_pos q3]⟩
    · refine ⟨nI_lt (b := 4) (by omega) (by omega), ?_⟩
      rintro r3 hr3
      rw [if_neg (nI_pos (by omega)), nI_clamp (by omega)] at hr3
      rw [hr3]
      rintro se rfl
      refine ⟨vp_in_nI (by omega) (by omega), ?_⟩
      have hst := pu_step_le q
      rw [nI_clamp (n := q) (by omega), pu_stepN (by omega), nI_add]
      refine ⟨vp_in_nI (by omega) (by omega), ?_⟩
      rw [nI_clamp (n := p + pu_step q) (by omega)]
      rintro cu rfl
      refine ⟨vp_in_nI (by omega) (by omega), ?_⟩
      rintro x rfl y rfl
      exact ⟨z - 1, by omega, rfl, q + 1, by omega, nI_1 q, by rw [pu_vc, if_neg q3]⟩
abbrev rmX1_valueOfCutting : Room := { frames := 2, cells := 0, slots := 0, locals := 61 }
abbrev paX1_valueOfCutting_12 (B : pz_B) (g : pz_G) (lf : Int32) (h0 : Nat) (hw : Nat) (gc : Int32) (kc : Int32) (hp : Nat) (hg : Nat) (ho : Nat) (hd : Nat) (ao : Int64) (hf : Nat) (ht : Nat) (hn : Nat) (up : Int64) (lo : Int64) (wo : Nat → Int32) (we : Nat → Int32) (po : Nat → Int64) (od : Nat → Int64) (fu : Nat → Int32) (oth : Nat → Int64) (onw : Nat → Int64) (h3 : Nat) (h3_reader : Nat) (hi : Nat) (h3_draft : Nat) (h3_told : Nat) (h3_faultFound : Int32) (h3_faultPlace : Int32) (inf : Nat → Int32) (k : Nat) (n : Nat) (lft : Nat) (mo : Int32) (f3 : Nat → Int32) (o2 : Nat → Int64) (o3 : Nat → Int64) : Prop := pz_At B 0 0 12 [(0, .ref h0), (1, .int lf), (2, .ref h3), (3, .int mo)] [] [(h0, .inr (1, [.ref hw, .int gc, .int kc, .ref hp, .ref hg, .ref ho, .ref hd, .long ao, .ref hf, .ref ht, .ref hn, .long up, .long lo])), (hw, .inl (g.2.1 1, 4, .inl wo)), (hg, .inl (g.2.1 1, 12, .inl we)), (ho, .inl (g.2.1 2, 108, .inr (.inl po))), (hd, .inl (g.2.1 2, 3, .inr (.inl od))), (hf, .inl (g.2.1 1, 4, .inl f3)), (ht, .inl (g.2.1 2, 3, .inr (.inl o2))), (hn, .inl (g.2.1 2, 729, .inr (.inl o3))), (h3, .inr (2, [.ref h3_reader, .ref hi, .ref h3_draft, .ref h3_told, .int h3_faultFound, .int h3_faultPlace])), (hi, .inl (g.2.1 1, 12, .inl inf))]
abbrev paX1_valueOfCutting_26 (B : pz_B) (g : pz_G) (lf : Int32) (h0 : Nat) (hw : Nat) (gc : Int32) (kc : Int32) (hp : Nat) (hg : Nat) (ho : Nat) (hd : Nat) (ao : Int64) (hf : Nat) (ht : Nat) (hn : Nat) (up : Int64) (lo : Int64) (wo : Nat → Int32) (we : Nat → Int32) (po : Nat → Int64) (od : Nat → Int64) (fu : Nat → Int32) (oth : Nat → Int64) (onw : Nat → Int64) (h3 : Nat) (h3_reader : Nat) (hi : Nat) (h3_draft : Nat) (h3_told : Nat) (h3_faultFound : Int32) (h3_faultPlace : Int32) (inf : Nat → Int32) (k : Nat) (n : Nat) (lft : Nat) (mo : Int32) (b1 : Int32) (a1 : Int32) (f3 : Nat → Int32) (o2 : Nat → Int64) (o3 : Nat → Int64) : Prop := pz_At B 0 0 26 [(0, .ref h0), (1, .int lf), (2, .ref h3), (3, .int mo), (4, .int b1), (5, .int a1)] [] [(h0, .inr (1, [.ref hw, .int gc, .int kc, .ref hp, .ref hg, .ref ho, .ref hd, .long ao, .ref hf, .ref ht, .ref hn, .long up, .long lo])), (hw, .inl (g.2.1 1, 4, .inl wo)), (hg, .inl (g.2.1 1, 12, .inl we)), (ho, .inl (g.2.1 2, 108, .inr (.inl po))), (hd, .inl (g.2.1 2, 3, .inr (.inl od))), (hf, .inl (g.2.1 1, 4, .inl f3)), (ht, .inl (g.2.1 2, 3, .inr (.inl o2))), (hn, .inl (g.2.1 2, 729, .inr (.inl o3))), (h3, .inr (2, [.ref h3_reader, .ref hi, .ref h3_draft, .ref h3_told, .int h3_faultFound, .int h3_faultPlace])), (hi, .inl (g.2.1 1, 12, .inl inf))]
abbrev paX1_valueOfCutting_35 (B : pz_B) (g : pz_G) (lf : Int32) (h0 : Nat) (hw : Nat) (gc : Int32) (kc : Int32) (hp : Nat) (hg : Nat) (ho : Nat) (hd : Nat) (ao : Int64) (hf : Nat) (ht : Nat) (hn : Nat) (up : Int64) (lo : Int64) (wo : Nat → Int32) (we : Nat → Int32) (po : Nat → Int64) (od : Nat → Int64) (fu : Nat → Int32) (oth : Nat → Int64) (onw : Nat → Int64) (h3 : Nat) (h3_reader : Nat) (hi : Nat) (h3_draft : Nat) (h3_told : Nat) (h3_faultFound : Int32) (h3_faultPlace : Int32) (inf : Nat → Int32) (k : Nat) (n : Nat) (lft : Nat) (mo : Int32) (b1 : Int32) (a1 : Int32) (a2 : Int32) (f3 : Nat → Int32) (o2 : Nat → Int64) (o3 : Nat → Int64) : Prop := pz_At B 0 0 35 [(0, .ref h0), (1, .int lf), (2, .ref h3), (3, .int mo), (4, .int b1), (5, .int a1), (6, .int a2)] [] [(h0, .inr (1, [.ref hw, .int gc, .int kc, .ref hp, .ref hg, .ref ho, .ref hd, .long ao, .ref hf, .ref ht, .ref hn, .long up, .long lo])), (hw, .inl (g.2.1 1, 4, .inl wo)), (hg, .inl (g.2.1 1, 12, .inl we)), (ho, .inl (g.2.1 2, 108, .inr (.inl po))), (hd, .inl (g.2.1 2, 3, .inr (.inl od))), (hf, .inl (g.2.1 1, 4, .inl f3)), (ht, .inl (g.2.1 2, 3, .inr (.inl o2))), (hn, .inl (g.2.1 2, 729, .inr (.inl o3))), (h3, .inr (2, [.ref h3_reader, .ref hi, .ref h3_draft, .ref h3_told, .int h3_faultFound, .int h3_faultPlace])), (hi, .inl (g.2.1 1, 12, .inl inf))]
abbrev paX1_valueOfCutting_47 (B : pz_B) (g : pz_G) (lf : Int32) (h0 : Nat) (hw : Nat) (gc : Int32) (kc : Int32) (hp : Nat) (hg : Nat) (ho : Nat) (hd : Nat) (ao : Int64) (hf : Nat) (ht : Nat) (hn : Nat) (up : Int64) (lo : Int64) (wo : Nat → Int32) (we : Nat → Int32) (po : Nat → Int64) (od : Nat → Int64) (fu : Nat → Int32) (oth : Nat → Int64) (onw : Nat → Int64) (h3 : Nat) (h3_reader : Nat) (hi : Nat) (h3_draft : Nat) (h3_told : Nat) (h3_faultFound : Int32) (h3_faultPlace : Int32) (inf : Nat → Int32) (k : Nat) (n : Nat) (lft : Nat) (mo : Int32) (b1 : Int32) (a1 : Int32) (a2 : Int32) (a3 : Int32) (f3 : Nat → Int32) (o2 : Nat → Int64) (o3 : Nat → Int64) : Prop := pz_At B 0 0 47 [(0, .ref h0), (1, .int lf), (2, .ref h3), (3, .int mo), (4, .int b1), (5, .int a1), (6, .int a2), (7, .int a3)] [] [(h0, .inr (1, [.ref hw, .int gc, .int kc, .ref hp, .ref hg, .ref ho, .ref hd, .long ao, .ref hf, .ref ht, .ref hn, .long up, .long lo])), (hw, .inl (g.2.1 1, 4, .inl wo)), (hg, .inl (g.2.1 1, 12, .inl we)), (ho, .inl (g.2.1 2, 108, .inr (.inl po))), (hd, .inl (g.2.1 2, 3, .inr (.inl od))), (hf, .inl (g.2.1 1, 4, .inl f3)), (ht, .inl (g.2.1 2, 3, .inr (.inl o2))), (hn, .inl (g.2.1 2, 729, .inr (.inl o3))), (h3, .inr (2, [.ref h3_reader, .ref hi, .ref h3_draft, .ref h3_told, .int h3_faultFound, .int h3_faultPlace])), (hi, .inl (g.2.1 1, 12, .inl inf))]
set_option maxHeartbeats 4000000 in
set_option maxRecDepth 100000 in
theorem sgX1_valueOfCutting_0 {B : pz_B} {g : pz_G} {wc : va_W} {Post : Option Value → va_W → Prop} (F : pz_F B cX1_valueOfCutting 9 (some .long) yX1_valueOfCutting.cls g rmX1_valueOfCutting) (Rt : pz_Rt B g wc Post rmX1_valueOfCutting) (lf : Int32) (h0 : Nat) (hw : Nat) (gc : Int32) (kc : Int32) (hp : Nat) (hg : Nat) (ho : Nat) (hd : Nat) (ao : Int64) (hf : Nat) (ht : Nat) (hn : Nat) (up : Int64) (lo : Int64) (wo : Nat → Int32) (we : Nat → Int32) (po : Nat → Int64) (od : Nat → Int64) (fu : Nat → Int32) (oth : Nat → Int64) (onw : Nat → Int64) (h3 : Nat) (h3_reader : Nat) (hi : Nat) (h3_draft : Nat) (h3_told : Nat) (h3_faultFound : Int32) (h3_faultPlace : Int32) (inf : Nat → Int32) (k : Nat) (n : Nat) (lft : Nat) (T12 : Int32 → (Nat → Int32) → (Nat → Int64) → (Nat → Int64) → Prop) (hT12 : ∀ (mo : Int32) (f3 : Nat → Int32) (o2 : Nat → Int64) (o3 : Nat → Int64), T12 mo f3 o2 o3 → paX1_valueOfCutting_12 B g lf h0 hw gc kc hp hg ho hd ao hf ht hn up lo wo we po od fu oth onw h3 h3_reader hi h3_draft h3_told h3_faultFound h3_faultPlace inf k n lft mo f3 o2 o3)  (vc : (729 < 2 ^ 31) ∧ ∀ f2_2 : Nat → Int64, ∀ _ : (∀ a, a < 729 → f2_2 a = 0), ∀ x_4 : Int32, x_4 = (lf - 1) → T12 x_4 fu oth f2_2) : pz_At B 0 0 0 [(0, .ref h0), (1, .int lf), (2, .ref h3)] [] [(h0, .inr (1, [.ref hw, .int gc, .int kc, .ref hp, .ref hg, .ref ho, .ref hd, .long ao, .ref hf, .ref ht, .ref hn, .long up, .long lo])), (hw, .inl (g.2.1 1, 4, .inl wo)), (hg, .inl (g.2.1 1, 12, .inl we)), (ho, .inl (g.2.1 2, 108, .inr (.inl po))), (hd, .inl (g.2.1 2, 3, .inr (.inl od))), (hf, .inl (g.2.1 1, 4, .inl fu)), (ht, .inl (g.2.1 2, 3, .inr (.inl oth))), (hn, .inl (g.2.1 2, 729, .inr (.inl onw))), (h3, .inr (2, [.ref h3_reader, .ref hi, .ref h3_draft, .ref h3_told, .int h3_faultFound, .int h3_faultPlace])), (hi, .inl (g.2.1 1, 12, .inl inf))] := by
  refine pz_aload_n 0 F rfl dX1_valueOfCutting_0 rfl ?_
  refine pz_get (ci := 1) (C := RX1) (T := TX1) (N := 13) (v := .ref hn) 0 F rfl rfl pz_inX1 10 (by decide) pw_124 rfl dX1_valueOfCutting_1 ?_
  refine pz_lconst (v := 0) F dX1_valueOfCutting_4 rfl ?_
  obtain ⟨h_1, vc⟩ := vc
  refine pz_callS (nA := 2) (As := [.ref hn, .long 0]) (rest := []) (wr := [(h0, .inr (1, [.ref hw, .int gc, .int kc, .ref hp, .ref hg, .ref ho, .ref hd, .long ao, .ref hf, .ref ht, .ref hn, .long up, .long lo])), (hw, .inl (g.2.1 1, 4, .inl wo)), (hg, .inl (g.2.1 1, 12, .inl we)), (ho, .inl (g.2.1 2, 108, .inr (.inl po))), (hd, .inl (g.2.1 2, 3, .inr (.inl od))), (hf, .inl (g.2.1 1, 4, .inl fu)), (ht, .inl (g.2.1 2, 3, .inr (.inl oth))), (h3, .inr (2, [.ref h3_reader, .ref hi, .ref h3_draft, .ref h3_told, .int h3_faultFound, .int h3_faultPlace])), (hi, .inl (g.2.1 1, 12, .inl inf))]) F (ctJ7_fill_d0a16 _ g hn 0 729 onw h_1) pw_671 pw_672 pw_18 pw_673 (by decide +kernel) (by decide) (by decide) rfl rfl (Nat.le_of_ble_eq_true rfl) [7] [0, 1, 2, 3, 4, 5, 6, 8, 9] rfl rfl rfl rfl (by decide) dX1_valueOfCutting_5 (fun r0 w0 hp0 => ?_)
  obtain ⟨f2_2, rfl, rfl, hq_3⟩ := hp0
  replace vc := vc f2_2 hq_3
  refine pz_eq (st' := []) (ws' := [(h0, .inr (1, [.ref hw, .int gc, .int kc, .ref hp, .ref hg, .ref ho, .ref hd, .long ao, .ref hf, .ref ht, .ref hn, .long up, .long lo])), (hw, .inl (g.2.1 1, 4, .inl wo)), (hg, .inl (g.2.1 1, 12, .inl we)), (ho, .inl (g.2.1 2, 108, .inr (.inl po))), (hd, .inl (g.2.1 2, 3, .inr (.inl od))), (hf, .inl (g.2.1 1, 4, .inl fu)), (ht, .inl (g.2.1 2, 3, .inr (.inl oth))), (h3, .inr (2, [.ref h3_reader, .ref hi, .ref h3_draft, .ref h3_told, .int h3_faultFound, .int h3_faultPlace])), (hi, .inl (g.2.1 1, 12, .inl inf)), (hn, .inl (g.2.1 2, 729, .inr (.inl f2_2)))]) rfl rfl ?_
  refine pz_iload_n 1 F rfl dX1_valueOfCutting_8 rfl ?_
  refine pz_iconst (v := 1) F dX1_valueOfCutting_9 rfl ?_
  refine pz_isub F dX1_valueOfCutting_10 ?_
  refine pz_topi (fun x_4 ex_4 => ?_)
  replace vc := vc x_4 ex_4
  refine pz_istore_n (lv' := [(3, .int x_4), (0, .ref h0), (1, .int lf), (2, .ref h3)]) F dX1_valueOfCutting_11 rfl (by decide) rfl ?_
  exact pz_sub [1, 2, 3, 0] [0, 1, 2, 3, 4, 5, 6, 9, 7, 8] rfl rfl rfl (hT12 x_4 fu oth f2_2 vc)
set_option maxHeartbeats 4000000 in
set_option maxRecDepth 100000 in
theorem sgX1_valueOfCutting_12 {B : pz_B} {g : pz_G} {wc : va_W} {Post : Option Value → va_W → Prop} (F : pz_F B cX1_valueOfCutting 9 (some .long) yX1_valueOfCutting.cls g rmX1_valueOfCutting) (Rt : pz_Rt B g wc Post rmX1_valueOfCutting) (lf : Int32) (h0 : Nat) (hw : Nat) (gc : Int32) (kc : Int32) (hp : Nat) (hg : Nat) (ho : Nat) (hd : Nat) (ao : Int64) (hf : Nat) (ht : Nat) (hn : Nat) (up : Int64) (lo : Int64) (wo : Nat → Int32) (we : Nat → Int32) (po : Nat → Int64) (od : Nat → Int64) (fu : Nat → Int32) (oth : Nat → Int64) (onw : Nat → Int64) (h3 : Nat) (h3_reader : Nat) (hi : Nat) (h3_draft : Nat) (h3_told : Nat) (h3_faultFound : Int32) (h3_faultPlace : Int32) (inf : Nat → Int32) (k : Nat) (n : Nat) (lft : Nat) (T26 : Int32 → Int32 → Int32 → (Nat → Int32) → (Nat → Int64) → (Nat → Int64) → Prop) (hT26 : ∀ (mo : Int32) (b1 : Int32) (a1 : Int32) (f3 : Nat → Int32) (o2 : Nat → Int64) (o3 : Nat → Int64), T26 mo b1 a1 f3 o2 o3 → paX1_valueOfCutting_26 B g lf h0 hw gc kc hp hg ho hd ao hf ht hn up lo wo we po od fu oth onw h3 h3_reader hi h3_draft h3_told h3_faultFound h3_faultPlace inf k n lft mo b1 a1 f3 o2 o3) (mo : Int32) (f3 : Nat → Int32) (o2 : Nat → Int64) (o3 : Nat → Int64) (vc : ((mo < 0 → vp_in 0 729 ∧ ∀ x_3 : Int64, x_3 = (o3 (0 : Int32).toNatClampNeg) → Post (some (.long x_3)) [(h0, .inr (1, [.ref hw, .int gc, .int kc, .ref hp, .ref hg, .ref ho, .ref hd, .long ao, .ref hf, .ref ht, .ref hn, .long up, .long lo])), (hw, .inl (g.2.1 1, 4, .inl wo)), (hg, .inl (g.2.1 1, 12, .inl we)), (ho, .inl (g.2.1 2, 108, .inr (.inl po))), (hd, .inl (g.2.1 2, 3, .inr (.inl od))), (hf, .inl (g.2.1 1, 4, .inl f3)), (ht, .inl (g.2.1 2, 3, .inr (.inl o2))), (hn, .inl (g.2.1 2, 729, .inr (.inl o3))), (h3, .inr (2, [.ref h3_reader, .ref hi, .ref h3_draft, .ref h3_told, .int h3_faultFound, .int h3_faultPlace])), (hi, .inl (g.2.1 1, 12, .inl inf))]) ∧ (¬ mo < 0 → ∀ x_4 : Int32, x_4 = ((lf - mo) - 1) → T26 mo x_4 0 f3 o2 o3))) : pz_At B 0 0 12 [(0, .ref h0), (1, .int lf), (2, .ref h3), (3, .int mo)] [] [(h0, .inr (1, [.ref hw, .int gc, .int kc, .ref hp, .ref hg, .ref ho, .ref hd, .long ao, .ref hf, .ref ht, .ref hn, .long up, .long lo])), (hw, .inl (g.2.1 1, 4, .inl wo)), (hg, .inl (g.2.1 1, 12, .inl we)), (ho, .inl (g.2.1 2, 108, .inr (.inl po))), (hd, .inl (g.2.1 2, 3, .inr (.inl od))), (hf, .inl (g.2.1 1, 4, .inl f3)), (ht, .inl (g.2.1 2, 3, .inr (.inl o2))), (hn, .inl (g.2.1 2, 729, .inr (.inl o3))), (h3, .inr (2, [.ref h3_reader, .ref hi, .ref h3_draft, .ref h3_told, .int h3_faultFound, .int h3_faultPlace])), (hi, .inl (g.2.1 1, 12, .inl inf))] := by
  refine pz_iload_n 3 F rfl dX1_valueOfCutting_12 rfl ?_
  refine pz_if_lt (tgt := 147) F dX1_valueOfCutting_13 (by decide) (fun q_1 => ?_) (fun q_1 => ?_)
  · replace vc := vc.1 q_1
    refine pz_aload_n 0 F rfl dX1_valueOfCutting_147 rfl ?_
    refine pz_get (ci := 1) (C := RX1) (T := TX1) (N := 13) (v := .ref hn) 0 F rfl rfl pz_inX1 10 (by decide) pw_124 rfl dX1_valueOfCutting_148 ?_
    refine pz_iconst (v := 0) F dX1_valueOfCutting_151 rfl ?_
    obtain ⟨h_2, vc⟩ := vc
    refine pz_laload 7 F rfl h_2 dX1_valueOfCutting_152 ?_
    refine pz_topl (fun x_3 ex_3 => ?_)
    replace vc := vc x_3 ex_3
    exact pz_lreturn (w1 := [(h0, .inr (1, [.ref hw, .int gc, .int kc, .ref hp, .ref hg, .ref ho, .ref hd, .long ao, .ref hf, .ref ht, .ref hn, .long up, .long lo])), (hw, .inl (g.2.1 1, 4, .inl wo)), (hg, .inl (g.2.1 1, 12, .inl we)), (ho, .inl (g.2.1 2, 108, .inr (.inl po))), (hd, .inl (g.2.1 2, 3, .inr (.inl od))), (hf, .inl (g.2.1 1, 4, .inl f3)), (ht, .inl (g.2.1 2, 3, .inr (.inl o2))), (hn, .inl (g.2.1 2, 729, .inr (.inl o3))), (h3, .inr (2, [.ref h3_reader, .ref hi, .ref h3_draft, .ref h3_told, .int h3_faultFound, .int h3_faultPlace])), (hi, .inl (g.2.1 1, 12, .inl inf))]) F Rt (by decide) (by decide) dX1_valueOfCutting_153 [0, 1, 2, 3, 4, 5, 6, 7, 8, 9] rfl rfl vc
  · replace vc := vc.2 q_1
    refine pz_iload_n 1 F rfl dX1_valueOfCutting_16 rfl ?_
    refine pz_iload_n 3 F rfl dX1_valueOfCutting_17 rfl ?_
    refine pz_isub F dX1_valueOfCutting_18 ?_
    refine pz_iconst (v := 1) F dX1_valueOfCutting_19 rfl ?_
    refine pz_isub F dX1_valueOfCutting_20 ?_
    refine pz_topi (fun x_4 ex_4 => ?_)
    replace vc := vc x_4 ex_4
    refine pz_istore (lv' := [(4, .int x_4), (0, .ref h0), (1, .int lf), (2, .ref h3), (3, .int mo)]) F dX1_valueOfCutting_21 (by decide) rfl ?_
    refine pz_iconst (v := 0) F dX1_valueOfCutting_23 rfl ?_
    refine pz_istore (lv' := [(5, .int 0), (4, .int x_4), (0, .ref h0), (1, .int lf), (2, .ref h3), (3, .int mo)]) F dX1_valueOfCutting_24 (by decide) rfl ?_
    exact pz_sub [2, 3, 4, 5, 1, 0] [0, 1, 2, 3, 4, 5, 6, 7, 8, 9] rfl rfl rfl (hT26 mo x_4 0 f3 o2 o3 vc)
set_option maxHeartbeats 4000000 in
set_option maxRecDepth 100000 in
theorem sgX1_valueOfCutting_26 {B : pz_B} {g : pz_G} {wc : va_W} {Post : Option Value → va_W → Prop} (F : pz_F B cX1_valueOfCutting 9 (some .long) yX1_valueOfCutting.cls g rmX1_valueOfCutting) (Rt : pz_Rt B g wc Post rmX1_valueOfCutting) (lf : Int32) (h0 : Nat) (hw : Nat) (gc : Int32) (kc : Int32) (hp : Nat) (hg : Nat) (ho : Nat) (hd : Nat) (ao : Int64) (hf : Nat) (ht : Nat) (hn : Nat) (up : Int64) (lo : Int64) (wo : Nat → Int32) (we : Nat → Int32) (po : Nat → Int64) (od : Nat → Int64) (fu : Nat → Int32) (oth : Nat → Int64) (onw : Nat → Int64) (h3 : Nat) (h3_reader : Nat) (hi : Nat) (h3_draft : Nat) (h3_told : Nat) (h3_faultFound : Int32) (h3_faultPlace : Int32) (inf : Nat → Int32) (k : Nat) (n : Nat) (lft : Nat) (T12 : Int32 → (Nat → Int32) → (Nat → Int64) → (Nat → Int64) → Prop) (hT12 : ∀ (mo : Int32) (f3 : Nat → Int32) (o2 : Nat → Int64) (o3 : Nat → Int64), T12 mo f3 o2 o3 → paX1_valueOfCutting_12 B g lf h0 hw gc kc hp hg ho hd ao hf ht hn up lo wo we po od fu oth onw h3 h3_reader hi h3_draft h3_told h3_faultFound h3_faultPlace inf k n lft mo f3 o2 o3) (T35 : Int32 → Int32 → Int32 → Int32 → (Nat → Int32) → (Nat → Int64) → (Nat → Int64) → Prop) (hT35 : ∀ (mo : Int32) (b1 : Int32) (a1 : Int32) (a2 : Int32) (f3 : Nat → Int32) (o2 : Nat → Int64) (o3 : Nat → Int64), T35 mo b1 a1 a2 f3 o2 o3 → paX1_valueOfCutting_35 B g lf h0 hw gc kc hp hg ho hd ao hf ht hn up lo wo we po od fu oth onw h3 h3_reader hi h3_draft h3_told h3_faultFound h3_faultPlace inf k n lft mo b1 a1 a2 f3 o2 o3) (mo : Int32) (b1 : Int32) (a1 : Int32) (f3 : Nat → Int32) (o2 : Nat → Int64) (o3 : Nat → Int64) (vc : ((mo < a1 → ∀ x_2 : Int32, x_2 = mo + (-1) → T12 x_2 f3 o2 o3) ∧ (¬ mo < a1 → T35 mo b1 a1 0 f3 o2 o3))) : pz_At B 0 0 26 [(0, .ref h0), (1, .int lf), (2, .ref h3), (3, .int mo), (4, .int b1), (5, .int a1)] [] [(h0, .inr (1, [.ref hw, .int gc, .int kc, .ref hp, .ref hg, .ref ho, .ref hd, .long ao, .ref hf, .ref ht, .ref hn, .long up, .long lo])), (hw, .inl (g.2.1 1, 4, .inl wo)), (hg, .inl (g.2.1 1, 12, .inl we)), (ho, .inl (g.2.1 2, 108, .inr (.inl po))), (hd, .inl (g.2.1 2, 3, .inr (.inl od))), (hf, .inl (g.2.1 1, 4, .inl f3)), (ht, .inl (g.2.1 2, 3, .inr (.inl o2))), (hn, .inl (g.2.1 2, 729, .inr (.inl o3))), (h3, .inr (2, [.ref h3_reader, .ref hi, .ref h3_draft, .ref h3_told, .int h3_faultFound, .int h3_faultPlace])), (hi, .inl (g.2.1 1, 12, .inl inf))] := by
  refine pz_iload 5 F rfl dX1_valueOfCutting_26 ?_
  refine pz_iload_n 3 F rfl dX1_valueOfCutting_28 rfl ?_
  refine pz_icmp_gt (tgt := 141) F dX1_valueOfCutting_29 (by decide) (fun q_1 => ?_) (fun q_1 => ?_)
  · replace vc := vc.1 q_1
    obtain ⟨x_2, ex_2⟩ : ∃ z : Int32, z = mo + (-1) := ⟨_, rfl⟩
    replace vc := vc x_2 ex_2
    refine pz_iinc (v := x_2) (lv' := [(3, .int x_2), (0, .ref h0), (1, .int lf), (2, .ref h3), (4, .int b1), (5, .int a1)]) 3 F rfl dX1_valueOfCutting_141 (by rw [ex_2]; rfl) (by decide) rfl ?_
    refine pz_goto (tgt := 12) F dX1_valueOfCutting_144 (by decide) ?_
    exact pz_sub [1, 2, 3, 0] [0, 1, 2, 3, 4, 5, 6, 7, 8, 9] rfl rfl rfl (hT12 x_2 f3 o2 o3 vc)
  · replace vc := vc.2 q_1
    refine pz_iconst (v := 0) F dX1_valueOfCutting_32 rfl ?_
    refine pz_istore (lv' := [(6, .int 0), (0, .ref h0), (1, .int lf), (2, .ref h3), (3, .int mo), (4, .int b1), (5, .int a1)]) F dX1_valueOfCutting_33 (by decide) rfl ?_
    exact pz_sub [1, 2, 3, 4, 5, 6, 0] [0, 1, 2, 3, 4, 5, 6, 7, 8, 9] rfl rfl rfl (hT35 mo b1 a1 0 f3 o2 o3 vc)
set_option maxHeartbeats 4000000 in
set_option maxRecDepth 100000 in
theorem sgX1_valueOfCutting_35 {B : pz_B} {g : pz_G} {wc : va_W} {Post : Option Value → va_W → Prop} (F : pz_F B cX1_valueOfCutting 9 (some .long) yX1_valueOfCutting.cls g rmX1_valueOfCutting) (Rt : pz_Rt B g wc Post rmX1_valueOfCutting) (lf : Int32) (h0 : Nat) (hw : Nat) (gc : Int32) (kc : Int32) (hp : Nat) (hg : Nat) (ho : Nat) (hd : Nat) (ao : Int64) (hf : Nat) (ht : Nat) (hn : Nat) (up : Int64) (lo : Int64) (wo : Nat → Int32) (we : Nat → Int32) (po : Nat → Int64) (od : Nat → Int64) (fu : Nat → Int32) (oth : Nat → Int64) (onw : Nat → Int64) (h3 : Nat) (h3_reader : Nat) (hi : Nat) (h3_draft : Nat) (h3_told : Nat) (h3_faultFound : Int32) (h3_faultPlace : Int32) (inf : Nat → Int32) (k : Nat) (n : Nat) (lft : Nat) (T26 : Int32 → Int32 → Int32 → (Nat → Int32) → (Nat → Int64) → (Nat → Int64) → Prop) (hT26 : ∀ (mo : Int32) (b1 : Int32) (a1 : Int32) (f3 : Nat → Int32) (o2 : Nat → Int64) (o3 : Nat → Int64), T26 mo b1 a1 f3 o2 o3 → paX1_valueOfCutting_26 B g lf h0 hw gc kc hp hg ho hd ao hf ht hn up lo wo we po od fu oth onw h3 h3_reader hi h3_draft h3_told h3_faultFound h3_faultPlace inf k n lft mo b1 a1 f3 o2 o3) (T47 : Int32 → Int32 → Int32 → Int32 → Int32 → (Nat → Int32) → (Nat → Int64) → (Nat → Int64) → Prop) (hT47 : ∀ (mo : Int32) (b1 : Int32) (a1 : Int32) (a2 : Int32) (a3 : Int32) (f3 : Nat → Int32) (o2 : Nat → Int64) (o3 : Nat → Int64), T47 mo b1 a1 a2 a3 f3 o2 o3 → paX1_valueOfCutting_47 B g lf h0 hw gc kc hp hg ho hd ao hf ht hn up lo wo we po od fu oth onw h3 h3_reader hi h3_draft h3_told h3_faultFound h3_faultPlace inf k n lft mo b1 a1 a2 a3 f3 o2 o3) (mo : Int32) (b1 : Int32) (a1 : Int32) (a2 : Int32) (f3 : Nat → Int32) (o2 : Nat → Int64) (o3 : Nat → Int64) (vc : (((mo - a1) < a2 → ∀ x_2 : Int32, x_2 = a1 + 1 → T26 mo b1 x_2 f3 o2 o3) ∧ (¬ (mo - a1) < a2 → T47 mo b1 a1 a2 0 f3 o2 o3))) : pz_At B 0 0 35 [(0, .ref h0), (1, .int lf), (2, .ref h3), (3, .int mo), (4, .int b1), (5, .int a1), (6, .int a2)] [] [(h0, .inr (1, [.ref hw, .int gc, .int kc, .ref hp, .ref hg, .ref ho, .ref hd, .long ao, .ref hf, .ref ht, .ref hn, .long up, .long lo])), (hw, .inl (g.2.1 1, 4, .inl wo)), (hg, .inl (g.2.1 1, 12, .inl we)), (ho, .inl (g.2.1 2, 108, .inr (.inl po))), (hd, .inl (g.2.1 2, 3, .inr (.inl od))), (hf, .inl (g.2.1 1, 4, .inl f3)), (ht, .inl (g.2.1 2, 3, .inr (.inl o2))), (hn, .inl (g.2.1 2, 729, .inr (.inl o3))), (h3, .inr (2, [.ref h3_reader, .ref hi, .ref h3_draft, .ref h3_told, .int h3_faultFound, .int h3_faultPlace])), (hi, .inl (g.2.1 1, 12, .inl inf))] := by
  refine pz_iload 6 F rfl dX1_valueOfCutting_35 ?_
  refine pz_iload_n 3 F rfl dX1_valueOfCutting_37 rfl ?_
  refine pz_iload 5 F rfl dX1_valueOfCutting_38 ?_
  refine pz_isub F dX1_valueOfCutting_40 ?_
  refine pz_icmp_gt (tgt := 135) F dX1_valueOfCutting_41 (by decide) (fun q_1 => ?_) (fun q_1 => ?_)
  · replace vc := vc.1 q_1
    obtain ⟨x_2, ex_2⟩ : ∃ z : Int32, z = a1 + 1 := ⟨_, rfl⟩
    replace vc := vc x_2 ex_2
    refine pz_iinc (v := x_2) (lv' := [(5, .int x_2), (0, .ref h0), (1, .int lf), (2, .ref h3), (3, .int mo), (4, .int b1), (6, .int a2)]) 5 F rfl dX1_valueOfCutting_135 (by rw [ex_2]; rfl) (by decide) rfl ?_
    refine pz_goto (tgt := 26) F dX1_valueOfCutting_138 (by decide) ?_
    exact pz_sub [1, 2, 3, 4, 5, 0] [0, 1, 2, 3, 4, 5, 6, 7, 8, 9] rfl rfl rfl (hT26 mo b1 x_2 f3 o2 o3 vc)
  · replace vc := vc.2 q_1
    refine pz_iconst (v := 0) F dX1_valueOfCutting_44 rfl ?_
    refine pz_istore (lv' := [(7, .int 0), (0, .ref h0), (1, .int lf), (2, .ref h3), (3, .int mo), (4, .int b1), (5, .int a1), (6, .int a2)]) F dX1_valueOfCutting_45 (by decide) rfl ?_
    exact pz_sub [1, 2, 3, 4, 5, 6, 7, 0] [0, 1, 2, 3, 4, 5, 6, 7, 8, 9] rfl rfl rfl (hT47 mo b1 a1 a2 0 f3 o2 o3 vc)
set_option maxHeartbeats 4000000 in
set_option maxRecDepth 100000 in
theorem sgX1_valueOfCutting_47 {B : pz_B} {g : pz_G} {wc : va_W} {Post : Option Value → va_W → Prop} (F : pz_F B cX1_valueOfCutting 9 (some .long) yX1_valueOfCutting.cls g rmX1_valueOfCutting) (Rt : pz_Rt B g wc Post rmX1_valueOfCutting) (lf : Int32) (h0 : Nat) (hw : Nat) (gc : Int32) (kc : Int32) (hp : Nat) (hg : Nat) (ho : Nat) (hd : Nat) (ao : Int64) (hf : Nat) (ht : Nat) (hn : Nat) (up : Int64) (lo : Int64) (wo : Nat → Int32) (we : Nat → Int32) (po : Nat → Int64) (od : Nat → Int64) (fu : Nat → Int32) (oth : Nat → Int64) (onw : Nat → Int64) (h3 : Nat) (h3_reader : Nat) (hi : Nat) (h3_draft : Nat) (h3_told : Nat) (h3_faultFound : Int32) (h3_faultPlace : Int32) (inf : Nat → Int32) (k : Nat) (n : Nat) (lft : Nat) (T35 : Int32 → Int32 → Int32 → Int32 → (Nat → Int32) → (Nat → Int64) → (Nat → Int64) → Prop) (hT35 : ∀ (mo : Int32) (b1 : Int32) (a1 : Int32) (a2 : Int32) (f3 : Nat → Int32) (o2 : Nat → Int64) (o3 : Nat → Int64), T35 mo b1 a1 a2 f3 o2 o3 → paX1_valueOfCutting_35 B g lf h0 hw gc kc hp hg ho hd ao hf ht hn up lo wo we po od fu oth onw h3 h3_reader hi h3_draft h3_told h3_faultFound h3_faultPlace inf k n lft mo b1 a1 a2 f3 o2 o3) (T47 : Int32 → Int32 → Int32 → Int32 → Int32 → (Nat → Int32) → (Nat → Int64) → (Nat → Int64) → Prop) (hT47 : ∀ (mo : Int32) (b1 : Int32) (a1 : Int32) (a2 : Int32) (a3 : Int32) (f3 : Nat → Int32) (o2 : Nat → Int64) (o3 : Nat → Int64), T47 mo b1 a1 a2 a3 f3 o2 o3 → paX1_valueOfCutting_47 B g lf h0 hw gc kc hp hg ho hd ao hf ht hn up lo wo we po od fu oth onw h3 h3_reader hi h3_draft h3_told h3_faultFound h3_faultPlace inf k n lft mo b1 a1 a2 a3 f3 o2 o3) (mo : Int32) (b1 : Int32) (a1 : Int32) (a2 : Int32) (a3 : Int32) (f3 : Nat → Int32) (o2 : Nat → Int64) (o3 : Nat → Int64) (vc : ((((mo - a1) - a2) < a3 → ∀ x_2 : Int32, x_2 = a2 + 1 → T35 mo b1 a1 x_2 f3 o2 o3) ∧ (¬ ((mo - a1) - a2) < a3 → ∃ c0_3 : Nat, ∃ c1_4 : Nat, ∃ c2_5 : Nat, ∃ c3_6 : Nat, (k ≤ 3 ∧ c0_3 ≤ 8 ∧ c1_4 ≤ 8 ∧ c2_5 ≤ 8 ∧ c3_6 ≤ 8 ∧ kc = nI k ∧ (((mo - a1) - a2) - a3) = nI c0_3 ∧ a1 = nI c1_4 ∧ a2 = nI c2_5 ∧ a3 = nI c3_6) ∧ ∀ fu2_8 : Nat → Int32, ∀ oth2_9 : Nat → Int64, ∀ _ : (fu2_8 0 = (((mo - a1) - a2) - a3) ∧ fu2_8 1 = a1 ∧ fu2_8 2 = a2 ∧ fu2_8 3 = a3 ∧ ∀ a, a < k → oth2_9 a = pu_of (od a) po fu2_8 a 4), vp_in 1 4 ∧ vp_in 2 4 ∧ vp_in 3 4 ∧ ∀ x_14 : Int32, x_14 = (((a1 * (pz_stp.getD (1 : Int32).toNatClampNeg 0)) + (a2 * (pz_stp.getD (2 : Int32).toNatClampNeg 0))) + (a3 * (pz_stp.getD (3 : Int32).toNatClampNeg 0))) → ∃ p_15 : Nat, ∃ b_16 : Nat, (k ≤ 3 ∧ n ≤ 4 ∧ p_15 + 81 < 729 ∧ b_16 < 9 ∧ kc = nI k ∧ gc = nI n ∧ x_14 = nI p_15 ∧ b1 = nI b_16) ∧ ∀ r_18 : Int64, ∀ _ : (r_18 = pu_vc (inf 6) wo inf (fun q => pu_on oth2_9 we q k) (fun q => o3 (p_15 + pu_step q)) b1 n), vp_in x_14 729 ∧ ∀ f_21 : Nat → Int64, f_21 = vp_updL o3 x_14.toNatClampNeg r_18 → ∀ x_22 : Int32, x_22 = a3 + 1 → T47 mo b1 a1 a2 x_22 fu2_8 oth2_9 f_21))) : pz_At B 0 0 47 [(0, .ref h0), (1, .int lf), (2, .ref h3), (3, .int mo), (4, .int b1), (5, .int a1), (6, .int a2), (7, .int a3)] [] [(h0, .inr (1, [.ref hw, .int gc, .int kc, .ref hp, .ref hg, .ref ho, .ref hd, .long ao, .ref hf, .ref ht, .ref hn, .long up, .long lo])), (hw, .inl (g.2.1 1, 4, .inl wo)), (hg, .inl (g.2.1 1, 12, .inl we)), (ho, .inl (g.2.1 2, 108, .inr (.inl po))), (hd, .inl (g.2.1 2, 3, .inr (.inl od))), (hf, .inl (g.2.1 1, 4, .inl f3)), (ht, .inl (g.2.1 2, 3, .inr (.inl o2))), (hn, .inl (g.2.1 2, 729, .inr (.inl o3))), (h3, .inr (2, [.ref h3_reader, .ref hi, .ref h3_draft, .ref h3_told, .int h3_faultFound, .int h3_faultPlace])), (hi, .inl (g.2.1 1, 12, .inl inf))] := by
  refine pz_iload 7 F rfl dX1_valueOfCutting_47 ?_
  refine pz_iload_n 3 F rfl dX1_valueOfCutting_49 rfl ?_
  refine pz_iload 5 F rfl dX1_valueOfCutting_50 ?_
  refine pz_isub F dX1_valueOfCutting_52 ?_
  refine pz_iload 6 F rfl dX1_valueOfCutting_53 ?_
  refine pz_isub F dX1_valueOfCutting_55 ?_
  refine pz_icmp_gt (tgt := 129) F dX1_valueOfCutting_56 (by decide) (fun q_1 => ?_) (fun q_1 => ?_)
  · replace vc := vc.1 q_1
    obtain ⟨x_2, ex_2⟩ : ∃ z : Int32, z = a2 + 1 := ⟨_, rfl⟩
    replace vc := vc x_2 ex_2
    refine pz_iinc (v := x_2) (lv' := [(6, .int x_2), (0, .ref h0), (1, .int lf), (2, .ref h3), (3, .int mo), (4, .int b1), (5, .int a1), (7, .int a3)]) 6 F rfl dX1_valueOfCutting_129 (by rw [ex_2]; rfl) (by decide) rfl ?_
    refine pz_goto (tgt := 35) F dX1_valueOfCutting_132 (by decide) ?_
    exact pz_sub [1, 2, 3, 4, 5, 6, 0] [0, 1, 2, 3, 4, 5, 6, 7, 8, 9] rfl rfl rfl (hT35 mo b1 a1 x_2 f3 o2 o3 vc)
  · replace vc := vc.2 q_1
    refine pz_aload_n 0 F rfl dX1_valueOfCutting_59 rfl ?_
    refine pz_iload_n 3 F rfl dX1_valueOfCutting_60 rfl ?_
    refine pz_iload 5 F rfl dX1_valueOfCutting_61 ?_
    refine pz_isub F dX1_valueOfCutting_63 ?_
    refine pz_iload 6 F rfl dX1_valueOfCutting_64 ?_
    refine pz_isub F dX1_valueOfCutting_66 ?_
    refine pz_iload 7 F rfl dX1_valueOfCutting_67 ?_
    refine pz_isub F dX1_valueOfCutting_69 ?_
    refine pz_iload 5 F rfl dX1_valueOfCutting_70 ?_
    refine pz_iload 6 F rfl dX1_valueOfCutting_72 ?_
    refine pz_iload 7 F rfl dX1_valueOfCutting_74 ?_
    obtain ⟨c0_3, vc⟩ := vc
    obtain ⟨c1_4, vc⟩ := vc
    obtain ⟨c2_5, vc⟩ := vc
    obtain ⟨c3_6, vc⟩ := vc
    obtain ⟨h_7, vc⟩ := vc
    refine pz_callV (nA := 4) (ci := 1) (C := RX1) (T := TX1) (N := 13) (As := [.int (((mo - a1) - a2) - a3), .int a1, .int a2, .int a3]) (rest := []) (wr := [(hw, .inl (g.2.1 1, 4, .inl wo)), (hg, .inl (g.2.1 1, 12, .inl we)), (hn, .inl (g.2.1 2, 729, .inr (.inl o3))), (h3, .inr (2, [.ref h3_reader, .ref hi, .ref h3_draft, .ref h3_told, .int h3_faultFound, .int h3_faultPlace])), (hi, .inl (g.2.1 1, 12, .inl inf))]) F (ctX1_goFurther _ g (((mo - a1) - a2) - a3) a1 a2 a3 h0 hw gc kc hp hg ho hd ao hf ht hn up lo f3 od po o2 k c0_3 c1_4 c2_5 c3_6 h_7) 0 rfl rfl pw_674 pw_676 pv_23 pw_5 pw_677 (by decide +kernel) (by decide) (by decide) rfl rfl (Nat.le_of_ble_eq_true rfl) [0, 5, 4, 3, 6] [1, 2, 7, 8, 9] rfl rfl rfl rfl (by decide) dX1_valueOfCutting_76 (fun r0 w0 hp0 => ?_)
    obtain ⟨⟨fu2_8, oth2_9⟩, rfl, rfl, hq_10⟩ := hp0
    replace vc := vc fu2_8 oth2_9 hq_10
    refine pz_eq (st' := []) (ws' := [(hw, .inl (g.2.1 1, 4, .inl wo)), (hg, .inl (g.2.1 1, 12, .inl we)), (hn, .inl (g.2.1 2, 729, .inr (.inl o3))), (h3, .inr (2, [.ref h3_reader, .ref hi, .ref h3_draft, .ref h3_told, .int h3_faultFound, .int h3_faultPlace])), (hi, .inl (g.2.1 1, 12, .inl inf)), (h0, .inr (1, [.ref hw, .int gc, .int kc, .ref hp, .ref hg, .ref ho, .ref hd, .long ao, .ref hf, .ref ht, .ref hn, .long up, .long lo])), (hf, .inl (g.2.1 1, 4, .inl fu2_8)), (hd, .inl (g.2.1 2, 3, .inr (.inl od))), (ho, .inl (g.2.1 2, 108, .inr (.inl po))), (ht, .inl (g.2.1 2, 3, .inr (.inl oth2_9)))]) rfl rfl ?_
    refine pz_iload 5 F rfl dX1_valueOfCutting_79 ?_
    refine pz_gets F (pz_STEPS F) pw_678 dX1_valueOfCutting_81 ?_
    refine pz_iconst (v := 1) F dX1_valueOfCutting_84 rfl ?_
    obtain ⟨h_11, vc⟩ := vc
    refine pz_ti F (pz_STEPSt F) h_11 rfl dX1_valueOfCutting_85 ?_
    show pz_At B 0 0 86 [(0, .ref h0), (1, .int lf), (2, .ref h3), (3, .int mo), (4, .int b1), (5, .int a1), (6, .int a2), (7, .int a3)] [.int (pz_stp.getD (1 : Int32).toNatClampNeg 0), .int a1] [(hw, .inl (g.2.1 1, 4, .inl wo)), (hg, .inl (g.2.1 1, 12, .inl we)), (hn, .inl (g.2.1 2, 729, .inr (.inl o3))), (h3, .inr (2, [.ref h3_reader, .ref hi, .ref h3_draft, .ref h3_told, .int h3_faultFound, .int h3_faultPlace])), (hi, .inl (g.2.1 1, 12, .inl inf)), (h0, .inr (1, [.ref hw, .int gc, .int kc, .ref hp, .ref hg, .ref ho, .ref hd, .long ao, .ref hf, .ref ht, .ref hn, .long up, .long lo])), (hf, .inl (g.2.1 1, 4, .inl fu2_8)), (hd, .inl (g.2.1 2, 3, .inr (.inl od))), (ho, .inl (g.2.1 2, 108, .inr (.inl po))), (ht, .inl (g.2.1 2, 3, .inr (.inl oth2_9)))]
    refine pz_imul F dX1_valueOfCutting_86 ?_
    refine pz_iload 6 F rfl dX1_valueOfCutting_87 ?_
    refine pz_gets F (pz_STEPS F) pw_678 dX1_valueOfCutting_89 ?_
    refine pz_iconst (v := 2) F dX1_valueOfCutting_92 rfl ?_
    obtain ⟨h_12, vc⟩ := vc
    refine pz_ti F (pz_STEPSt F) h_12 rfl dX1_valueOfCutting_93 ?_
    show pz_At B 0 0 94 [(0, .ref h0), (1, .int lf), (2, .ref h3), (3, .int mo), (4, .int b1), (5, .int a1), (6, .int a2), (7, .int a3)] [.int (pz_stp.getD (2 : Int32).toNatClampNeg 0), .int a2, .int (a1 * (pz_stp.getD (1 : Int32).toNatClampNeg 0))] [(hw, .inl (g.2.1 1, 4, .inl wo)), (hg, .inl (g.2.1 1, 12, .inl we)), (hn, .inl (g.2.1 2, 729, .inr (.inl o3))), (h3, .inr (2, [.ref h3_reader, .ref hi, .ref h3_draft, .ref h3_told, .int h3_faultFound, .int h3_faultPlace])), (hi, .inl (g.2.1 1, 12, .inl inf)), (h0, .inr (1, [.ref hw, .int gc, .int kc, .ref hp, .ref hg, .ref ho, .ref hd, .long ao, .ref hf, .ref ht, .ref hn, .long up, .long lo])), (hf, .inl (g.2.1 1, 4, .inl fu2_8)), (hd, .inl (g.2.1 2, 3, .inr (.inl od))), (ho, .inl (g.2.1 2, 108, .inr (.inl po))), (ht, .inl (g.2.1 2, 3, .inr (.inl oth2_9)))]
    refine pz_imul F dX1_valueOfCutting_94 ?_
    refine pz_iadd F dX1_valueOfCutting_95 ?_
    refine pz_iload 7 F rfl dX1_valueOfCutting_96 ?_
    refine pz_gets F (pz_STEPS F) pw_678 dX1_valueOfCutting_98 ?_
    refine pz_iconst (v := 3) F dX1_valueOfCutting_101 rfl ?_
    obtain ⟨h_13, vc⟩ := vc
    refine pz_ti F (pz_STEPSt F) h_13 rfl dX1_valueOfCutting_102 ?_
    show pz_At B 0 0 103 [(0, .ref h0), (1, .int lf), (2, .ref h3), (3, .int mo), (4, .int b1), (5, .int a1), (6, .int a2), (7, .int a3)] [.int (pz_stp.getD (3 : Int32).toNatClampNeg 0), .int a3, .int ((a1 * (pz_stp.getD (1 : Int32).toNatClampNeg 0)) + (a2 * (pz_stp.getD (2 : Int32).toNatClampNeg 0)))] [(hw, .inl (g.2.1 1, 4, .inl wo)), (hg, .inl (g.2.1 1, 12, .inl we)), (hn, .inl (g.2.1 2, 729, .inr (.inl o3))), (h3, .inr (2, [.ref h3_reader, .ref hi, .ref h3_draft, .ref h3_told, .int h3_faultFound, .int h3_faultPlace])), (hi, .inl (g.2.1 1, 12, .inl inf)), (h0, .inr (1, [.ref hw, .int gc, .int kc, .ref hp, .ref hg, .ref ho, .ref hd, .long ao, .ref hf, .ref ht, .ref hn, .long up, .long lo])), (hf, .inl (g.2.1 1, 4, .inl fu2_8)), (hd, .inl (g.2.1 2, 3, .inr (.inl od))), (ho, .inl (g.2.1 2, 108, .inr (.inl po))), (ht, .inl (g.2.1 2, 3, .inr (.inl oth2_9)))]
    refine pz_imul F dX1_valueOfCutting_103 ?_
    refine pz_iadd F dX1_valueOfCutting_104 ?_
    refine pz_topi (fun x_14 ex_14 => ?_)
    replace vc := vc x_14 ex_14
    refine pz_istore (lv' := [(8, .int x_14), (0, .ref h0), (1, .int lf), (2, .ref h3), (3, .int mo), (4, .int b1), (5, .int a1), (6, .int a2), (7, .int a3)]) F dX1_valueOfCutting_105 (by decide) rfl ?_
    refine pz_aload_n 1 F rfl dX1_valueOfCutting_107 rfl ?_
    refine pz_get (ci := 1) (C := RX1) (T := TX1) (N := 13) (v := .ref hn) 5 F rfl rfl pz_inX1 10 (by decide) pw_124 rfl dX1_valueOfCutting_108 ?_
    refine pz_iload 0 F rfl dX1_valueOfCutting_111 ?_
    refine pz_aload_n 1 F rfl dX1_valueOfCutting_113 rfl ?_
    refine pz_iload 0 F rfl dX1_valueOfCutting_114 ?_
    refine pz_iload 5 F rfl dX1_valueOfCutting_116 ?_
    refine pz_aload_n 3 F rfl dX1_valueOfCutting_118 rfl ?_
    obtain ⟨p_15, vc⟩ := vc
    obtain ⟨b_16, vc⟩ := vc
    obtain ⟨h_17, vc⟩ := vc
    refine pz_callV (nA := 3) (ci := 1) (C := RX1) (T := TX1) (N := 13) (As := [.int x_14, .int b1, .ref h3]) (rest := [.int x_14, .ref hn]) (wr := [(hf, .inl (g.2.1 1, 4, .inl fu2_8)), (hd, .inl (g.2.1 2, 3, .inr (.inl od))), (ho, .inl (g.2.1 2, 108, .inr (.inl po)))]) F (ctX1_valueOfNextCut _ g x_14 b1 h0 hw gc kc hp hg ho hd ao hf ht hn up lo wo we oth2_9 o3 h3 h3_reader hi h3_draft h3_told h3_faultFound h3_faultPlace inf k n p_15 b_16 h_17) 5 rfl rfl pw_680 pw_682 pv_24 pw_5 pw_683 (by decide +kernel) (by decide) (by decide) rfl rfl (Nat.le_of_ble_eq_true rfl) [5, 0, 1, 9, 2, 3, 4] [6, 7, 8] rfl rfl rfl rfl (by decide) dX1_valueOfCutting_119 (fun r0 w0 hp0 => ?_)
    obtain ⟨r_18, _, rfl, rfl, hq_19⟩ := hp0
    replace vc := vc r_18  hq_19
    refine pz_eq (st' := [.long r_18, .int x_14, .ref hn]) (ws' := [(hf, .inl (g.2.1 1, 4, .inl fu2_8)), (hd, .inl (g.2.1 2, 3, .inr (.inl od))), (ho, .inl (g.2.1 2, 108, .inr (.inl po))), (h0, .inr (1, [.ref hw, .int gc, .int kc, .ref hp, .ref hg, .ref ho, .ref hd, .long ao, .ref hf, .ref ht, .ref hn, .long up, .long lo])), (hw, .inl (g.2.1 1, 4, .inl wo)), (hg, .inl (g.2.1 1, 12, .inl we)), (ht, .inl (g.2.1 2, 3, .inr (.inl oth2_9))), (hn, .inl (g.2.1 2, 729, .inr (.inl o3))), (h3, .inr (2, [.ref h3_reader, .ref hi, .ref h3_draft, .ref h3_told, .int h3_faultFound, .int h3_faultPlace])), (hi, .inl (g.2.1 1, 12, .inl inf))]) rfl rfl ?_
    obtain ⟨h_20, vc⟩ := vc
    obtain ⟨f_21, ef_21⟩ : ∃ z : Nat → Int64, z = vp_updL o3 x_14.toNatClampNeg r_18 := ⟨_, rfl⟩
    replace vc := vc f_21 ef_21
    refine pz_lastore (ws' := [(hf, .inl (g.2.1 1, 4, .inl fu2_8)), (hd, .inl (g.2.1 2, 3, .inr (.inl od))), (ho, .inl (g.2.1 2, 108, .inr (.inl po))), (h0, .inr (1, [.ref hw, .int gc, .int kc, .ref hp, .ref hg, .ref ho, .ref hd, .long ao, .ref hf, .ref ht, .ref hn, .long up, .long lo])), (hw, .inl (g.2.1 1, 4, .inl wo)), (hg, .inl (g.2.1 1, 12, .inl we)), (ht, .inl (g.2.1 2, 3, .inr (.inl oth2_9))), (hn, .inl (g.2.1 2, 729, .inr (.inl f_21))), (h3, .inr (2, [.ref h3_reader, .ref hi, .ref h3_draft, .ref h3_told, .int h3_faultFound, .int h3_faultPlace])), (hi, .inl (g.2.1 1, 12, .inl inf))]) F 7 rfl h_20 dX1_valueOfCutting_122 (by rw [ef_21]; rfl) ?_
    obtain ⟨x_22, ex_22⟩ : ∃ z : Int32, z = a3 + 1 := ⟨_, rfl⟩
    replace vc := vc x_22 ex_22
    refine pz_iinc (v := x_22) (lv' := [(7, .int x_22), (8, .int x_14), (0, .ref h0), (1, .int lf), (2, .ref h3), (3, .int mo), (4, .int b1), (5, .int a1), (6, .int a2)]) 8 F rfl dX1_valueOfCutting_123 (by rw [ex_22]; rfl) (by decide) rfl ?_
    refine pz_goto (tgt := 47) F dX1_valueOfCutting_126 (by decide) ?_
    exact pz_sub [2, 3, 4, 5, 6, 7, 8, 0] [3, 4, 5, 2, 1, 0, 6, 7, 8, 9] rfl rfl rfl (hT47 mo b1 a1 a2 x_22 fu2_8 oth2_9 f_21 vc)
theorem lpX1_valueOfCutting_47 {B : pz_B} {g : pz_G} {wc : va_W} {Post : Option Value → va_W → Prop} (F : pz_F B cX1_valueOfCutting 9 (some .long) yX1_valueOfCutting.cls g rmX1_valueOfCutting) (Rt : pz_Rt B g wc Post rmX1_valueOfCutting) (lf : Int32) (h0 : Nat) (hw : Nat) (gc : Int32) (kc : Int32) (hp : Nat) (hg : Nat) (ho : Nat) (hd : Nat) (ao : Int64) (hf : Nat) (ht : Nat) (hn : Nat) (up : Int64) (lo : Int64) (wo : Nat → Int32) (we : Nat → Int32) (po : Nat → Int64) (od : Nat → Int64) (fu : Nat → Int32) (oth : Nat → Int64) (onw : Nat → Int64) (h3 : Nat) (h3_reader : Nat) (hi : Nat) (h3_draft : Nat) (h3_told : Nat) (h3_faultFound : Int32) (h3_faultPlace : Int32) (inf : Nat → Int32) (k : Nat) (n : Nat) (lft : Nat) (T35 : Int32 → Int32 → Int32 → Int32 → (Nat → Int32) → (Nat → Int64) → (Nat → Int64) → Prop) (hT35 : ∀ (mo : Int32) (b1 : Int32) (a1 : Int32) (a2 : Int32) (f3 : Nat → Int32) (o2 : Nat → Int64) (o3 : Nat → Int64), T35 mo b1 a1 a2 f3 o2 o3 → paX1_valueOfCutting_35 B g lf h0 hw gc kc hp hg ho hd ao hf ht hn up lo wo we po od fu oth onw h3 h3_reader hi h3_draft h3_told h3_faultFound h3_faultPlace inf k n lft mo b1 a1 a2 f3 o2 o3) (Inv : Nat → Int32 → Int32 → Int32 → Int32 → Int32 → (Nat → Int32) → (Nat → Int64) → (Nat → Int64) → Prop) (step : ∀ (mz : Nat) (mo : Int32) (b1 : Int32) (a1 : Int32) (a2 : Int32) (a3 : Int32) (f3 : Nat → Int32) (o2 : Nat → Int64) (o3 : Nat → Int64), Inv mz mo b1 a1 a2 a3 f3 o2 o3 → ∀ TT : Int32 → Int32 → Int32 → Int32 → Int32 → (Nat → Int32) → (Nat → Int64) → (Nat → Int64) → Prop, TT = (fun mo b1 a1 a2 a3 f3 o2 o3 => ∃ mz', mz' < mz ∧ Inv mz' mo b1 a1 a2 a3 f3 o2 o3) → ((((mo - a1) - a2) < a3 → ∀ x_2 : Int32, x_2 = a2 + 1 → T35 mo b1 a1 x_2 f3 o2 o3) ∧ (¬ ((mo - a1) - a2) < a3 → ∃ c0_3 : Nat, ∃ c1_4 : Nat, ∃ c2_5 : Nat, ∃ c3_6 : Nat, (k ≤ 3 ∧ c0_3 ≤ 8 ∧ c1_4 ≤ 8 ∧ c2_5 ≤ 8 ∧ c3_6 ≤ 8 ∧ kc = nI k ∧ (((mo - a1) - a2) - a3) = nI c0_3 ∧ a1 = nI c1_4 ∧ a2 = nI c2_5 ∧ a3 = nI c3_6) ∧ ∀ fu2_8 : Nat → Int32, ∀ oth2_9 : Nat → Int64, ∀ _ : (fu2_8 0 = (((mo - a1) - a2) - a3) ∧ fu2_8 1 = a1 ∧ fu2_8 2 = a2 ∧ fu2_8 3 = a3 ∧ ∀ a, a < k → oth2_9 a = pu_of (od a) po fu2_8 a 4), vp_in 1 4 ∧ vp_in 2 4 ∧ vp_in 3 4 ∧ ∀ x_14 : Int32, x_14 = (((a1 * (pz_stp.getD (1 : Int32).toNatClampNeg 0)) + (a2 * (pz_stp.getD (2 : Int32).toNatClampNeg 0))) + (a3 * (pz_stp.getD (3 : Int32).toNatClampNeg 0))) → ∃ p_15 : Nat, ∃ b_16 : Nat, (k ≤ 3 ∧ n ≤ 4 ∧ p_15 + 81 < 729 ∧ b_16 < 9 ∧ kc = nI k ∧ gc = nI n ∧ x_14 = nI p_15 ∧ b1 = nI b_16) ∧ ∀ r_18 : Int64, ∀ _ : (r_18 = pu_vc (inf 6) wo inf (fun q => pu_on oth2_9 we q k) (fun q => o3 (p_15 + pu_step q)) b1 n), vp_in x_14 729 ∧ ∀ f_21 : Nat → Int64, f_21 = vp_updL o3 x_14.toNatClampNeg r_18 → ∀ x_22 : Int32, x_22 = a3 + 1 → TT mo b1 a1 a2 x_22 fu2_8 oth2_9 f_21))) : ∀ (mz : Nat) (mo : Int32) (b1 : Int32) (a1 : Int32) (a2 : Int32) (a3 : Int32) (f3 : Nat → Int32) (o2 : Nat → Int64) (o3 : Nat → Int64), Inv mz mo b1 a1 a2 a3 f3 o2 o3 → paX1_valueOfCutting_47 B g lf h0 hw gc kc hp hg ho hd ao hf ht hn up lo wo we po od fu oth onw h3 h3_reader hi h3_draft h3_told h3_faultFound h3_faultPlace inf k n lft mo b1 a1 a2 a3 f3 o2 o3 := by
  intro mz
  induction mz using Nat.strongRecOn with
  | _ mz ih =>
    intro mo b1 a1 a2 a3 f3 o2 o3 hI
    exact sgX1_valueOfCutting_47 F Rt lf h0 hw gc kc hp hg ho hd ao hf ht hn up lo wo we po od fu oth onw h3 h3_reader hi h3_draft h3_told h3_faultFound h3_faultPlace inf k n lft T35 hT35 (fun mo b1 a1 a2 a3 f3 o2 o3 => ∃ mz', mz' < mz ∧ Inv mz' mo b1 a1 a2 a3 f3 o2 o3) (fun mo b1 a1 a2 a3 f3 o2 o3 ⟨mz', h1, h2⟩ => ih mz' h1 mo b1 a1 a2 a3 f3 o2 o3 h2) mo b1 a1 a2 a3 f3 o2 o3 (step mz mo b1 a1 a2 a3 f3 o2 o3 hI _ rfl)
set_option maxHeartbeats 4000000 in
set_option maxRecDepth 100000 in
theorem ctX1_valueOfCutting (l : Launch) (g : pz_G) (lf : Int32) (h0 : Nat) (hw : Nat) (gc : Int32) (kc : Int32) (hp : Nat) (hg : Nat) (ho : Nat) (hd : Nat) (ao : Int64) (hf : Nat) (ht : Nat) (hn : Nat) (up : Int64) (lo : Int64) (wo : Nat → Int32) (we : Nat → Int32) (po : Nat → Int64) (od : Nat → Int64) (fu : Nat → Int32) (oth : Nat → Int64) (onw : Nat → Int64) (h3 : Nat) (h3_reader : Nat) (hi : Nat) (h3_draft : Nat) (h3_told : Nat) (h3_faultFound : Int32) (h3_faultPlace : Int32) (inf : Nat → Int32) (k : Nat) (n : Nat) (lft : Nat) (hpre : k ≤ 3 ∧ n ≤ 4 ∧ 1 ≤ lft ∧ lft ≤ 8 ∧ kc = nI k ∧ gc = nI n ∧ lf = nI lft) : pz_Ct l g yX1_valueOfCutting cX1_valueOfCutting 9 (some .long) rmX1_valueOfCutting [.ref h0, .int lf, .ref h3] [(h0, .inr (1, [.ref hw, .int gc, .int kc, .ref hp, .ref hg, .ref ho, .ref hd, .long ao, .ref hf, .ref ht, .ref hn, .long up, .long lo])), (hw, .inl (g.2.1 1, 4, .inl wo)), (hg, .inl (g.2.1 1, 12, .inl we)), (ho, .inl (g.2.1 2, 108, .inr (.inl po))), (hd, .inl (g.2.1 2, 3, .inr (.inl od))), (hf, .inl (g.2.1 1, 4, .inl fu)), (ht, .inl (g.2.1 2, 3, .inr (.inl oth))), (hn, .inl (g.2.1 2, 729, .inr (.inl onw))), (h3, .inr (2, [.ref h3_reader, .ref hi, .ref h3_draft, .ref h3_told, .int h3_faultFound, .int h3_faultPlace])), (hi, .inl (g.2.1 1, 12, .inl inf))] (pz_pl (fun (r : Int64) (u : (Nat → Int32) × (Nat → Int64) × (Nat → Int64)) => r = pu_V (inf 6) wo inf we od po k n lft lft 0 0 0) (fun (u : (Nat → Int32) × (Nat → Int64) × (Nat → Int64)) => [(h0, .inr (1, [.ref hw, .int gc, .int kc, .ref hp, .ref hg, .ref ho, .ref hd, .long ao, .ref hf, .ref ht, .ref hn, .long up, .long lo])), (hw, .inl (g.2.1 1, 4, .inl wo)), (hg, .inl (g.2.1 1, 12, .inl we)), (ho, .inl (g.2.1 2, 108, .inr (.inl po))), (hd, .inl (g.2.1 2, 3, .inr (.inl od))), (hf, .inl (g.2.1 1, 4, .inl u.1)), (ht, .inl (g.2.1 2, 3, .inr (.inl u.2.1))), (hn, .inl (g.2.1 2, 729, .inr (.inl u.2.2))), (h3, .inr (2, [.ref h3_reader, .ref hi, .ref h3_draft, .ref h3_told, .int h3_faultFound, .int h3_faultPlace])), (hi, .inl (g.2.1 1, 12, .inl inf))])) := by
  refine pz_ofAt (by decide +kernel) (Nat.le_of_ble_eq_true rfl) (fun B F Rt hme => ?_)
  obtain ⟨hk, hG, hl1, hl8, h1, h2, h3_⟩ := hpre
  subst h1; subst h2; subst h3_
  have m1 : ∀ a : Nat, nI (a + 1) + (-1) = nI a := pk_m1
  have key : ∀ m : Nat, (∀ mo f3 o2 o3, (fun (m : Nat) (mo : Int32) (f3 : Nat → Int32) (o2 o3 : Nat → Int64) => ∃ M, M ≤ lft ∧ m = M * 10000 ∧ mo = nI M + (-1) ∧ ∀ c1 c2 c3, c1 + c2 + c3 ≤ M → o3 (81 * c1 + 9 * c2 + c3) = pu_V (inf 6) wo inf we od po k n lft (lft - M) c1 c2 c3) m mo f3 o2 o3 → paX1_valueOfCutting_12 B g (nI lft) h0 hw (nI n) (nI k) hp hg ho hd ao hf ht hn up lo wo we po od fu oth onw h3 h3_reader hi h3_draft h3_told h3_faultFound h3_faultPlace inf k n lft mo f3 o2 o3) ∧ (∀ mo b1 a1 f3 o2 o3, (fun (m : Nat) (mo b1 a1 : Int32) (f3 : Nat → Int32) (o2 o3 : Nat → Int64) => ∃ M i1, 1 ≤ M ∧ M ≤ lft ∧ i1 ≤ M ∧ m = (M - 1) * 10000 + (9 - i1) * 1000 ∧ mo = nI (M - 1) ∧ b1 = nI (lft - M) ∧ a1 = nI i1 ∧ (∀ c1 c2 c3, c1 + c2 + c3 ≤ M → o3 (81 * c1 + 9 * c2 + c3) = if (c1 < i1 ∨ (c1 = i1 ∧ (c2 < 0 ∨ (c2 = 0 ∧ c3 < 0)))) ∧ c1 + c2 + c3 < M then pu_V (inf 6) wo inf we od po k n lft (lft - M + 1) c1 c2 c3 else pu_V (inf 6) wo inf we od po k n lft (lft - M) c1 c2 c3)) m mo b1 a1 f3 o2 o3 → paX1_valueOfCutting_26 B g (nI lft) h0 hw (nI n) (nI k) hp hg ho hd ao hf ht hn up lo wo we po od fu oth onw h3 h3_reader hi h3_draft h3_told h3_faultFound h3_faultPlace inf k n lft mo b1 a1 f3 o2 o3) ∧ (∀ mo b1 a1 a2 f3 o2 o3, (fun (m : Nat) (mo b1 a1 a2 : Int32) (f3 : Nat → Int32) (o2 o3 : Nat → Int64) => ∃ M i1 i2, 1 ≤ M ∧ M ≤ lft ∧ i1 + i2 ≤ M ∧ i1 < M ∧ m = (M - 1) * 10000 + (8 - i1) * 1000 + (9 - i2) * 100 ∧ mo = nI (M - 1) ∧ b1 = nI (lft - M) ∧ a1 = nI i1 ∧ a2 = nI i2 ∧ (∀ c1 c2 c3, c1 + c2 + c3 ≤ M → o3 (81 * c1 + 9 * c2 + c3) = if (c1 < i1 ∨ (c1 = i1 ∧ (c2 < i2 ∨ (c2 = i2 ∧ c3 < 0)))) ∧ c1 + c2 + c3 < M then pu_V (inf 6) wo inf we od po k n lft (lft - M + 1) c1 c2 c3 else pu_V (inf 6) wo inf we od po k n lft (lft - M) c1 c2 c3)) m mo b1 a1 a2 f3 o2 o3 → paX1_valueOfCutting_35 B g (nI lft) h0 hw (nI n) (nI k) hp hg ho hd ao hf ht hn up lo wo we po od fu oth onw h3 h3_reader hi h3_draft h3_told h3_faultFound h3_faultPlace inf k n lft mo b1 a1 a2 f3 o2 o3) ∧ (∀ mo b1 a1 a2 a3 f3 o2 o3, (fun (m : Nat) (mo b1 a1 a2 a3 : Int32) (f3 : Nat → Int32) (o2 o3 : Nat → Int64) => ∃ M i1 i2 i3, 1 ≤ M ∧ M ≤ lft ∧ i1 + i2 + i3 ≤ M ∧ i1 + i2 < M ∧ m = (M - 1) * 10000 + (8 - i1) * 1000 + (8 - i2) * 100 + (9 - i3) * 10 ∧ mo = nI (M - 1) ∧ b1 = nI (lft - M) ∧ a1 = nI i1 ∧ a2 = nI i2 ∧ a3 = nI i3 ∧ (∀ c1 c2 c3, c1 + c2 + c3 ≤ M → o3 (81 * c1 + 9 * c2 + c3) = if (c1 < i1 ∨ (c1 = i1 ∧ (c2 < i2 ∨ (c2 = i2 ∧ c3 < i3)))) ∧ c1 + c2 + c3 < M then pu_V (inf 6) wo inf we od po k n lft (lft - M + 1) c1 c2 c3 else pu_V (inf 6) wo inf we od po k n lft (lft - M) c1 c2 c3)) m mo b1 a1 a2 a3 f3 o2 o3 → paX1_valueOfCutting_47 B g (nI lft) h0 hw (nI n) (nI k) hp hg ho hd ao hf ht hn up lo wo we po od fu oth onw h3 h3_reader hi h3_draft h3_told h3_faultFound h3_faultPlace inf k n lft mo b1 a1 a2 a3 f3 o2 o3) := by
    intro m
    induction m using Nat.strongRecOn with
    | _ m ih =>
      refine ⟨?_, ?_, ?_, ?_⟩
      · rintro mo f3 o2 o3 ⟨M, hM, rfl, rfl, htab⟩
        refine sgX1_valueOfCutting_12 F Rt (nI lft) h0 hw (nI n) (nI k) hp hg ho hd ao hf ht hn up lo wo we po od fu oth onw h3 h3_reader hi h3_draft h3_told h3_faultFound h3_faultPlace inf k n lft (fun mo b1 a1 f3 o2 o3 => ∃ m', m' < M * 10000 ∧ (fun (m : Nat) (mo b1 a1 : Int32) (f3 : Nat → Int32) (o2 o3 : Nat → Int64) => ∃ M i1, 1 ≤ M ∧ M ≤ lft ∧ i1 ≤ M ∧ m = (M - 1) * 10000 + (9 - i1) * 1000 ∧ mo = nI (M - 1) ∧ b1 = nI (lft - M) ∧ a1 = nI i1 ∧ (∀ c1 c2 c3, c1 + c2 + c3 ≤ M → o3 (81 * c1 + 9 * c2 + c3) = if (c1 < i1 ∨ (c1 = i1 ∧ (c2 < 0 ∨ (c2 = 0 ∧ c3 < 0)))) ∧ c1 + c2 + c3 < M then pu_V (inf 6) wo inf we od po k n lft (lft - M + 1) c1 c2 c3 else pu_V (inf 6) wo inf we od po k n lft (lft - M) c1 c2 c3)) m' mo b1 a1 f3 o2 o3) (fun mo b1 a1 f3 o2 o3 ⟨m', h1, h2⟩ => (ih m' h1).2.1 mo b1 a1 f3 o2 o3 h2) _ f3 o2 o3 ?_
        rcases Nat.eq_zero_or_pos M with h0 | h0
        · subst h0
          refine ⟨fun q => ?_, fun q => absurd (by decide) q⟩
          refine ⟨vp_in_nI (n := 0) (by omega) (by omega), ?_⟩
          rintro x rfl
          exact ⟨_, (_, _, _), rfl, rfl, htab 0 0 0 (by omega)⟩
        · obtain ⟨M, rfl⟩ : ∃ M', M = M' + 1 := ⟨M - 1, by omega⟩
          rw [m1]
          refine ⟨fun q => absurd q (nI_pos (by omega)), fun q => ?_⟩
          rw [pk_sub (by omega)]
          rintro x rfl
          refine ⟨_, ?_, M + 1, 0, by omega, hM, by omega, rfl, by rw [Nat.add_sub_cancel], ?_, nI_0.symm, fun c1 c2 c3 hc => ?_⟩
          · omega
          · rw [show lft - M = (lft - (M + 1)) + 1 by omega]
            exact nI_pred _
          · rw [htab c1 c2 c3 hc, if_neg (by omega)]
      · rintro mo b1 a1 f3 o2 o3 ⟨M, i1, hM1, hM, hiM, rfl, rfl, rfl, rfl, htab⟩
        refine sgX1_valueOfCutting_26 F Rt (nI lft) h0 hw (nI n) (nI k) hp hg ho hd ao hf ht hn up lo wo we po od fu oth onw h3 h3_reader hi h3_draft h3_told h3_faultFound h3_faultPlace inf k n lft (fun mo f3 o2 o3 => ∃ m', m' < (M - 1) * 10000 + (9 - i1) * 1000 ∧ (fun (m : Nat) (mo : Int32) (f3 : Nat → Int32) (o2 o3 : Nat → Int64) => ∃ M, M ≤ lft ∧ m = M * 10000 ∧ mo = nI M + (-1) ∧ ∀ c1 c2 c3, c1 + c2 + c3 ≤ M → o3 (81 * c1 + 9 * c2 + c3) = pu_V (inf 6) wo inf we od po k n lft (lft - M) c1 c2 c3) m' mo f3 o2 o3) (fun mo f3 o2 o3 ⟨m', h1, h2⟩ => (ih m' h1).1 mo f3 o2 o3 h2) (fun mo b1 a1 a2 f3 o2 o3 => ∃ m', m' < (M - 1) * 10000 + (9 - i1) * 1000 ∧ (fun (m : Nat) (mo b1 a1 a2 : Int32) (f3 : Nat → Int32) (o2 o3 : Nat → Int64) => ∃ M i1 i2, 1 ≤ M ∧ M ≤ lft ∧ i1 + i2 ≤ M ∧ i1 < M ∧ m = (M - 1) * 10000 + (8 - i1) * 1000 + (9 - i2) * 100 ∧ mo = nI (M - 1) ∧ b1 = nI (lft - M) ∧ a1 = nI i1 ∧ a2 = nI i2 ∧ (∀ c1 c2 c3, c1 + c2 + c3 ≤ M → o3 (81 * c1 + 9 * c2 + c3) = if (c1 < i1 ∨ (c1 = i1 ∧ (c2 < i2 ∨ (c2 = i2 ∧ c3 < 0)))) ∧ c1 + c2 + c3 < M then pu_V (inf 6) wo inf we od po k n lft (lft - M + 1) c1 c2 c3 else pu_V (inf 6) wo inf we od po k n lft (lft - M) c1 c2 c3)) m' mo b1 a1 a2 f3 o2 o3) (fun mo b1 a1 a2 f3 o2 o3 ⟨m', h1, h2⟩ => (ih m' h1).2.2.1 mo b1 a1 a2 f3 o2 o3 h2) _ _ _ f3 o2 o3 ?_
        refine ⟨fun q => ?_, fun q => ?_⟩
        · have h1 : i1 = M := by
            have := (nI_ltI (a := M - 1) (b := i1) (by omega) (by omega)).mp q
            omega
          rintro x rfl
          refine ⟨_, ?_, M - 1, by omega, rfl, rfl, fun c1 c2 c3 hc => ?_⟩
          · omega
          · rw [htab c1 c2 c3 (by omega), if_pos (by omega), show lft - M + 1 = lft - (M - 1) by omega]
        · have h1 : i1 < M := by
            rcases Nat.lt_or_ge i1 M with h | h
            · exact h
            · exact absurd (nI_lt (a := M - 1) (b := i1) (by omega) (by omega)) q
          exact ⟨_, by omega, M, i1, 0, hM1, hM, by omega, h1, rfl, rfl, rfl, rfl, nI_0.symm, htab⟩
      · rintro mo b1 a1 a2 f3 o2 o3 ⟨M, i1, i2, hM1, hM, hiM, hi1, rfl, rfl, rfl, rfl, rfl, htab⟩
        refine sgX1_valueOfCutting_35 F Rt (nI lft) h0 hw (nI n) (nI k) hp hg ho hd ao hf ht hn up lo wo we po od fu oth onw h3 h3_reader hi h3_draft h3_told h3_faultFound h3_faultPlace inf k n lft (fun mo b1 a1 f3 o2 o3 => ∃ m', m' < (M - 1) * 10000 + (8 - i1) * 1000 + (9 - i2) * 100 ∧ (fun (m : Nat) (mo b1 a1 : Int32) (f3 : Nat → Int32) (o2 o3 : Nat → Int64) => ∃ M i1, 1 ≤ M ∧ M ≤ lft ∧ i1 ≤ M ∧ m = (M - 1) * 10000 + (9 - i1) * 1000 ∧ mo = nI (M - 1) ∧ b1 = nI (lft - M) ∧ a1 = nI i1 ∧ (∀ c1 c2 c3, c1 + c2 + c3 ≤ M → o3 (81 * c1 + 9 * c2 + c3) = if (c1 < i1 ∨ (c1 = i1 ∧ (c2 < 0 ∨ (c2 = 0 ∧ c3 < 0)))) ∧ c1 + c2 + c3 < M then pu_V (inf 6) wo inf we od po k n lft (lft - M + 1) c1 c2 c3 else pu_V (inf 6) wo inf we od po k n lft (lft - M) c1 c2 c3)) m' mo b1 a1 f3 o2 o3) (fun mo b1 a1 f3 o2 o3 ⟨m', h1, h2⟩ => (ih m' h1).2.1 mo b1 a1 f3 o2 o3 h2) (fun mo b1 a1 a2 a3 f3 o2 o3 => ∃ m', m' < (M - 1) * 10000 + (8 - i1) * 1000 + (9 - i2) * 100 ∧ (fun (m : Nat) (mo b1 a1 a2 a3 : Int32) (f3 : Nat → Int32) (o2 o3 : Nat → Int64) => ∃ M i1 i2 i3, 1 ≤ M ∧ M ≤ lft ∧ i1 + i2 + i3 ≤ M ∧ i1 + i2 < M ∧ m = (M - 1) * 10000 + (8 - i1) * 1000 + (8 - i2) * 100 + (9 - i3) * 10 ∧ mo = nI (M - 1) ∧ b1 = nI (lft - M) ∧ a1 = nI i1 ∧ a2 = nI i2 ∧ a3 = nI i3 ∧ (∀ c1 c2 c3, c1 + c2 + c3 ≤ M → o3 (81 * c1 + 9 * c2 + c3) = if (c1 < i1 ∨ (c1 = i1 ∧ (c2 < i2 ∨ (c2 = i2 ∧ c3 < i3)))) ∧ c1 + c2 + c3 < M then pu_V (inf 6) wo inf we od po k n lft (lft - M + 1) c1 c2 c3 else pu_V (inf 6) wo inf we od po k n lft (lft - M) c1 c2 c3)) m' mo b1 a1 a2 a3 f3 o2 o3) (fun mo b1 a1 a2 a3 f3 o2 o3 ⟨m', h1, h2⟩ => (ih m' h1).2.2.2 mo b1 a1 a2 a3 f3 o2 o3 h2) _ _ _ _ f3 o2 o3 ?_
        rw [pk_sub (by omega)]
        refine ⟨fun q => ?_, fun q => ?_⟩
        · have h1 : i1 + i2 = M := by
            have := (nI_ltI (a := M - 1 - i1) (b := i2) (by omega) (by omega)).mp q
            omega
          rintro x rfl
          refine ⟨_, ?_, M, i1 + 1, hM1, hM, by omega, rfl, rfl, rfl, nI_1 i1, fun c1 c2 c3 hc => ?_⟩
          · omega
          · rw [htab c1 c2 c3 hc]
            congr 1
            apply propext
            omega
        · have h1 : i1 + i2 < M := by
            rcases Nat.lt_or_ge (i1 + i2) M with h | h
            · exact h
            · exact absurd (nI_lt (a := M - 1 - i1) (b := i2) (by omega) (by omega)) q
          exact ⟨_, by omega, M, i1, i2, 0, hM1, hM, by omega, h1, rfl, rfl, rfl, rfl, rfl, nI_0.symm, htab⟩
      · rintro mo b1 a1 a2 a3 f3 o2 o3 ⟨M, i1, i2, i3, hM1, hM, hiM, hi2, rfl, rfl, rfl, rfl, rfl, rfl, htab⟩
        refine sgX1_valueOfCutting_47 F Rt (nI lft) h0 hw (nI n) (nI k) hp hg ho hd ao hf ht hn up lo wo we po od fu oth onw h3 h3_reader hi h3_draft h3_told h3_faultFound h3_faultPlace inf k n lft (fun mo b1 a1 a2 f3 o2 o3 => ∃ m', m' < (M - 1) * 10000 + (8 - i1) * 1000 + (8 - i2) * 100 + (9 - i3) * 10 ∧ (fun (m : Nat) (mo b1 a1 a2 : Int32) (f3 : Nat → Int32) (o2 o3 : Nat → Int64) => ∃ M i1 i2, 1 ≤ M ∧ M ≤ lft ∧ i1 + i2 ≤ M ∧ i1 < M ∧ m = (M - 1) * 10000 + (8 - i1) * 1000 + (9 - i2) * 100 ∧ mo = nI (M - 1) ∧ b1 = nI (lft - M) ∧ a1 = nI i1 ∧ a2 = nI i2 ∧ (∀ c1 c2 c3, c1 + c2 + c3 ≤ M → o3 (81 * c1 + 9 * c2 + c3) = if (c1 < i1 ∨ (c1 = i1 ∧ (c2 < i2 ∨ (c2 = i2 ∧ c3 < 0)))) ∧ c1 + c2 + c3 < M then pu_V (inf 6) wo inf we od po k n lft (lft - M + 1) c1 c2 c3 else pu_V (inf 6) wo inf we od po k n lft (lft - M) c1 c2 c3)) m' mo b1 a1 a2 f3 o2 o3) (fun mo b1 a1 a2 f3 o2 o3 ⟨m', h1, h2⟩ => (ih m' h1).2.2.1 mo b1 a1 a2 f3 o2 o3 h2) (fun mo b1 a1 a2 a3 f3 o2 o3 => ∃ m', m' < (M - 1) * 10000 + (8 - i1) * 1000 + (8 - i2) * 100 + (9 - i3) * 10 ∧ (fun (m : Nat) (mo b1 a1 a2 a3 : Int32) (f3 : Nat → Int32) (o2 o3 : Nat → Int64) => ∃ M i1 i2 i3, 1 ≤ M ∧ M ≤ lft ∧ i1 + i2 + i3 ≤ M ∧ i1 + i2 < M ∧ m = (M - 1) * 10000 + (8 - i1) * 1000 + (8 - i2) * 100 + (9 - i3) * 10 ∧ mo = nI (M - 1) ∧ b1 = nI (lft - M) ∧ a1 = nI i1 ∧ a2 = nI i2 ∧ a3 = nI i3 ∧ (∀ c1 c2 c3, c1 + c2 + c3 ≤ M → o3 (81 * c1 + 9 * c2 + c3) = if (c1 < i1 ∨ (c1 = i1 ∧ (c2 < i2 ∨ (c2 = i2 ∧ c3 < i3)))) ∧ c1 + c2 + c3 < M then pu_V (inf 6) wo inf we od po k n lft (lft - M + 1) c1 c2 c3 else pu_V (inf 6) wo inf we od po k n lft (lft - M) c1 c2 c3)) m' mo b1 a1 a2 a3 f3 o2 o3) (fun mo b1 a1 a2 a3 f3 o2 o3 ⟨m', h1, h2⟩ => (ih m' h1).2.2.2 mo b1 a1 a2 a3 f3 o2 o3 h2) _ _ _ _ _ f3 o2 o3 ?_
        rw [pk_sub (b := i1) (by omega), pk_sub (b := i2) (by omega)]
        refine ⟨fun q => ?_, fun q => ?_⟩
        · have h1 : i1 + i2 + i3 = M := by
            have := (nI_ltI (a := M - 1 - i1 - i2) (b := i3) (by omega) (by omega)).mp q
            omega
          rintro x rfl
          refine ⟨_, ?_, M, i1, i2 + 1, hM1, hM, by omega, by omega, rfl, rfl, rfl, rfl, nI_1 i2, fun c1 c2 c3 hc => ?_⟩
          · omega
          · rw [htab c1 c2 c3 hc]
            congr 1
            apply propext
            omega
        · have h1 : i1 + i2 + i3 < M := by
            rcases Nat.lt_or_ge (i1 + i2 + i3) M with h | h
            · exact h
            · exact absurd (nI_lt (a := M - 1 - i1 - i2) (b := i3) (by omega) (by omega)) q
          rw [pk_sub (b := i3) (by omega)]
          refine ⟨M - 1 - i1 - i2 - i3, i1, i2, i3, ⟨hk, by omega, by omega, by omega, by omega, rfl, rfl, rfl, rfl, rfl⟩, fun f4 o4 h4 => ?_⟩
          refine ⟨vp_in_nI (n := 1) (by omega) (by omega), vp_in_nI (n := 2) (by omega) (by omega), vp_in_nI (n := 3) (by omega) (by omega), ?_⟩
          have epl : nI i1 * pz_stp.getD (1 : Int32).toNatClampNeg 0 + nI i2 * pz_stp.getD (2 : Int32).toNatClampNeg 0 + nI i3 * pz_stp.getD (3 : Int32).toNatClampNeg 0 = nI (81 * i1 + 9 * i2 + i3) := by
            rw [show pz_stp.getD (1 : Int32).toNatClampNeg 0 = nI 81 from rfl, show pz_stp.getD (2 : Int32).toNatClampNeg 0 = nI 9 from rfl, show pz_stp.getD (3 : Int32).toNatClampNeg 0 = nI 1 from rfl, pk_mul, pk_mul, pk_mul, nI_add, nI_add]
            congr 1
            omega
          rw [epl]
          rintro x rfl
          refine ⟨81 * i1 + 9 * i2 + i3, lft - M, ⟨hk, hG, by omega, by omega, rfl, rfl, rfl, rfl⟩, fun r hr => ?_⟩
          refine ⟨vp_in_nI (by omega) (by omega), ?_⟩
          rintro f5 rfl y rfl
          rw [nI_clamp (by omega)]
          refine ⟨_, ?_, M, i1, i2, i3 + 1, hM1, hM, by omega, hi2, rfl, rfl, rfl, rfl, rfl, nI_1 i3, fun c1 c2 c3 hc => ?_⟩
          · omega
          · by_cases e : c1 = i1 ∧ c2 = i2 ∧ c3 = i3
            · obtain ⟨rfl, rfl, rfl⟩ := e
              rw [pk_uLs, if_pos (by omega), hr, pu_V]
              rw [show lft - (lft - M + 1) - c1 - c2 - c3 = M - 1 - c1 - c2 - c3 by omega]
              refine pu_vc_congr n (fun q hq => pu_on_congr k (fun a ha => ?_)) (fun q hq => ?_)
              · rw [h4.2.2.2.2 a ha]
                simp only [pu_of, h4.1, h4.2.1, h4.2.2.1, h4.2.2.2.1, pu_fu]
                rfl
              · rcases (show q = 0 ∨ q = 1 ∨ q = 2 ∨ q = 3 by omega) with rfl | rfl | rfl | rfl
                · show o3 (81 * c1 + 9 * c2 + c3 + 0) = _
                  rw [Nat.add_zero, htab c1 c2 c3 (by omega), if_neg (by omega)]
                  rfl
                · show o3 (81 * c1 + 9 * c2 + c3 + 81) = _
                  rw [show 81 * c1 + 9 * c2 + c3 + 81 = 81 * (c1 + 1) + 9 * c2 + c3 by omega, htab (c1 + 1) c2 c3 (by omega), if_neg (by omega)]
                  rfl
                · show o3 (81 * c1 + 9 * c2 + c3 + 9) = _
                  rw [show 81 * c1 + 9 * c2 + c3 + 9 = 81 * c1 + 9 * (c2 + 1) + c3 by omega, htab c1 (c2 + 1) c3 (by omega), if_neg (by omega)]
                  rfl
                · show o3 (81 * c1 + 9 * c2 + c3 + 1) = _
                  rw [show 81 * c1 + 9 * c2 + c3 + 1 = 81 * c1 + 9 * c2 + (c3 + 1) by omega, htab c1 c2 (c3 + 1) (by omega), if_neg (by omega)]
                  rfl
            · rw [pk_uLn (fun h => e (pu_pl_inj (by omega) (by omega) (by omega) (by omega) h)), htab c1 c2 c3 hc]
              congr 1
              apply propext
              omega
  refine sgX1_valueOfCutting_0 F Rt (nI lft) h0 hw (nI n) (nI k) hp hg ho hd ao hf ht hn up lo wo we po od fu oth onw h3 h3_reader hi h3_draft h3_told h3_faultFound h3_faultPlace inf k n lft _ (fun mo f3 o2 o3 => (key (lft * 10000)).1 mo f3 o2 o3) ⟨by decide, fun o3 ho3 => ?_⟩
  obtain ⟨L, rfl⟩ : ∃ L, lft = L + 1 := ⟨lft - 1, by omega⟩
  rintro x rfl
  refine ⟨L + 1, by omega, rfl, ?_, fun c1 c2 c3 hc => ?_⟩
  · rw [pk_m1]; exact nI_pred L
  · rw [ho3 _ (by omega), Nat.sub_self]; rfl
abbrev rmX1_expectBest : Room := { frames := 3, cells := 0, slots := 0, locals := 89 }
set_option maxHeartbeats 4000000 in
set_option maxRecDepth 100000 in
theorem sgX1_expectBest_0 {B : pz_B} {g : pz_G} {wc : va_W} {Post : Option Value → va_W → Prop} (F : pz_F B cX1_expectBest 10 (some .int) yX1_expectBest.cls g rmX1_expectBest) (Rt : pz_Rt B g wc Post rmX1_expectBest) (h0 : Nat) (hw : Nat) (gc : Int32) (kc : Int32) (hp : Nat) (hg : Nat) (ho : Nat) (hd : Nat) (ao : Int64) (hf : Nat) (ht : Nat) (hn : Nat) (up : Int64) (lo : Int64) (wo : Nat → Int32) (we : Nat → Int32) (po : Nat → Int64) (od : Nat → Int64) (fu : Nat → Int32) (oth : Nat → Int64) (onw : Nat → Int64) (h3 : Nat) (h3_reader : Nat) (hi : Nat) (h3_draft : Nat) (h3_told : Nat) (h3_faultFound : Int32) (h3_faultPlace : Int32) (inf : Nat → Int32) (h4 : Nat) (h4_slices : Int32) (h4_inside : Int32) (h4_parts : Nat) (h4_bidders : Nat) (h4_bidCoins : Nat) (h4_bidCount : Int32) (h4_seen : Int32) (h4_spent : Int32) (k : Nat) (n : Nat) (sc : Nat) (se : Nat)  (vc : ∀ r_1 : Int32, ∀ _ : (r_1 = h4_slices - h4_seen), ∀ r_3 : Int64, ∀ _ : (r_3 = (1 : Int64) <<< ((4 * r_1).toInt64 &&& 63)), ∀ x_5 : Int64, x_5 = (ao * r_3) → ∀ r_6 : Int32, ∀ _ : (r_6 = if h4_seen = 0 then -1 else pu_gi h4_inside (h4_seen - 1)), (r_6 < 4) ∧ ∀ r_9 : Int32, ∀ _ : (r_9 = if r_6 < 0 then inf 7 else inf (8 + r_6.toNatClampNeg)), ∀ x_11 : Int64, x_11 = ((x_5 * r_1.toInt64) * r_9.toInt64) → ∃ lft_12 : Nat, (k ≤ 3 ∧ n ≤ 4 ∧ 1 ≤ lft_12 ∧ lft_12 ≤ 8 ∧ kc = nI k ∧ gc = nI n ∧ r_1 = nI lft_12) ∧ ∀ r_17 : Int64, ∀ f9_14 : Nat → Int32, ∀ o8_15 : Nat → Int64, ∀ o9_16 : Nat → Int64, ∀ _ : (r_17 = pu_V (inf 6) wo inf we od po k n lft_12 lft_12 0 0 0), ∀ up2_19 : Int64, ∀ lo2_20 : Int64, ∀ _ : (if pu_cd 100 (if r_17 < x_11 then x_11 else r_17) x_5 ≤ 0 then up2_19 = up ∧ lo2_20 = lo else up2_19 = (if r_17 < x_11 then x_11 else r_17) / pu_cd 100 (if r_17 < x_11 then x_11 else r_17) x_5 ∧ lo2_20 = x_5 / pu_cd 100 (if r_17 < x_11 then x_11 else r_17) x_5), (((lg_cmp r_17 x_11) ≤ 0 → Post (some (.int 1)) [(h0, .inr (1, [.ref hw, .int gc, .int kc, .ref hp, .ref hg, .ref ho, .ref hd, .long ao, .ref hf, .ref ht, .ref hn, .long up2_19, .long lo2_20])), (hw, .inl (g.2.1 1, 4, .inl wo)), (hg, .inl (g.2.1 1, 12, .inl we)), (ho, .inl (g.2.1 2, 108, .inr (.inl po))), (hd, .inl (g.2.1 2, 3, .inr (.inl od))), (hf, .inl (g.2.1 1, 4, .inl f9_14)), (ht, .inl (g.2.1 2, 3, .inr (.inl o8_15))), (hn, .inl (g.2.1 2, 729, .inr (.inl o9_16))), (h3, .inr (2, [.ref h3_reader, .ref hi, .ref h3_draft, .ref h3_told, .int h3_faultFound, .int h3_faultPlace])), (hi, .inl (g.2.1 1, 12, .inl inf)), (h4, .inr (0, [.int h4_slices, .int h4_inside, .ref h4_parts, .ref h4_bidders, .ref h4_bidCoins, .int h4_bidCount, .int h4_seen, .int h4_spent]))]) ∧ (¬ (lg_cmp r_17 x_11) ≤ 0 → Post (some (.int 2)) [(h0, .inr (1, [.ref hw, .int gc, .int kc, .ref hp, .ref hg, .ref ho, .ref hd, .long ao, .ref hf, .ref ht, .ref hn, .long up2_19, .long lo2_20])), (hw, .inl (g.2.1 1, 4, .inl wo)), (hg, .inl (g.2.1 1, 12, .inl we)), (ho, .inl (g.2.1 2, 108, .inr (.inl po))), (hd, .inl (g.2.1 2, 3, .inr (.inl od))), (hf, .inl (g.2.1 1, 4, .inl f9_14)), (ht, .inl (g.2.1 2, 3, .inr (.inl o8_15))), (hn, .inl (g.2.1 2, 729, .inr (.inl o9_16))), (h3, .inr (2, [.ref h3_reader, .ref hi, .ref h3_draft, .ref h3_told, .int h3_faultFound, .int h3_faultPlace])), (hi, .inl (g.2.1 1, 12, .inl inf)), (h4, .inr (0, [.int h4_slices, .int h4_inside, .ref h4_parts, .ref h4_bidders, .ref h4_bidCoins, .int h4_bidCount, .int h4_seen, .int h4_spent]))]))) : pz_At B 0 0 0 [(0, .ref h0), (1, .ref h4), (2, .ref h3)] [] [(h0, .inr (1, [.ref hw, .int gc, .int kc, .ref hp, .ref hg, .ref ho, .ref hd, .long ao, .ref hf, .ref ht, .ref hn, .long up, .long lo])), (hw, .inl (g.2.1 1, 4, .inl wo)), (hg, .inl (g.2.1 1, 12, .inl we)), (ho, .inl (g.2.1 2, 108, .inr (.inl po))), (hd, .inl (g.2.1 2, 3, .inr (.inl od))), (hf, .inl (g.2.1 1, 4, .inl fu)), (ht, .inl (g.2.1 2, 3, .inr (.inl oth))), (hn, .inl (g.2.1 2, 729, .inr (.inl onw))), (h3, .inr (2, [.ref h3_reader, .ref hi, .ref h3_draft, .ref h3_told, .int h3_faultFound, .int h3_faultPlace])), (hi, .inl (g.2.1 1, 12, .inl inf)), (h4, .inr (0, [.int h4_slices, .int h4_inside, .ref h4_parts, .ref h4_bidders, .ref h4_bidCoins, .int h4_bidCount, .int h4_seen, .int h4_spent]))] := by
  refine pz_aload_n 1 F rfl dX1_expectBest_0 rfl ?_
  refine pz_callV (nA := 0) (ci := 0) (C := RX0) (T := TX0) (N := 8) (As := []) (rest := []) (wr := [(h0, .inr (1, [.ref hw, .int gc, .int kc, .ref hp, .ref hg, .ref ho, .ref hd, .long ao, .ref hf, .ref ht, .ref hn, .long up, .long lo])), (hw, .inl (g.2.1 1, 4, .inl wo)), (hg, .inl (g.2.1 1, 12, .inl we)), (ho, .inl (g.2.1 2, 108, .inr (.inl po))), (hd, .inl (g.2.1 2, 3, .inr (.inl od))), (hf, .inl (g.2.1 1, 4, .inl fu)), (ht, .inl (g.2.1 2, 3, .inr (.inl oth))), (hn, .inl (g.2.1 2, 729, .inr (.inl onw))), (h3, .inr (2, [.ref h3_reader, .ref hi, .ref h3_draft, .ref h3_told, .int h3_faultFound, .int h3_faultPlace])), (hi, .inl (g.2.1 1, 12, .inl inf))]) F (ctX0_left _ g h4 h4_slices h4_inside h4_parts h4_bidders h4_bidCoins h4_bidCount h4_seen h4_spent) 10 rfl rfl pw_661 pw_609 pw_610 pw_17 pw_611 (by decide +kernel) (by decide) (by decide) rfl rfl (Nat.le_of_ble_eq_true rfl) [10] [0, 1, 2, 3, 4, 5, 6, 7, 8, 9] rfl rfl rfl rfl (by decide) dX1_expectBest_1 (fun r0 w0 hp0 => ?_)
  obtain ⟨r_1, _, rfl, rfl, hq_2⟩ := hp0
  replace vc := vc r_1  hq_2
  refine pz_eq (st' := [.int r_1]) (ws' := [(h0, .inr (1, [.ref hw, .int gc, .int kc, .ref hp, .ref hg, .ref ho, .ref hd, .long ao, .ref hf, .ref ht, .ref hn, .long up, .long lo])), (hw, .inl (g.2.1 1, 4, .inl wo)), (hg, .inl (g.2.1 1, 12, .inl we)), (ho, .inl (g.2.1 2, 108, .inr (.inl po))), (hd, .inl (g.2.1 2, 3, .inr (.inl od))), (hf, .inl (g.2.1 1, 4, .inl fu)), (ht, .inl (g.2.1 2, 3, .inr (.inl oth))), (hn, .inl (g.2.1 2, 729, .inr (.inl onw))), (h3, .inr (2, [.ref h3_reader, .ref hi, .ref h3_draft, .ref h3_told, .int h3_faultFound, .int h3_faultPlace])), (hi, .inl (g.2.1 1, 12, .inl inf)), (h4, .inr (0, [.int h4_slices, .int h4_inside, .ref h4_parts, .ref h4_bidders, .ref h4_bidCoins, .int h4_bidCount, .int h4_seen, .int h4_spent]))]) rfl rfl ?_
  refine pz_istore_n (lv' := [(3, .int r_1), (0, .ref h0), (1, .ref h4), (2, .ref h3)]) F dX1_expectBest_4 rfl (by decide) rfl ?_
  refine pz_aload_n 1 F rfl dX1_expectBest_5 rfl ?_
  refine pz_get (ci := 1) (C := RX1) (T := TX1) (N := 13) (v := .long ao) 0 F rfl rfl pz_inX1 7 (by decide) pw_121 rfl dX1_expectBest_6 ?_
  refine pz_iload_n 0 F rfl dX1_expectBest_9 rfl ?_
  refine pz_callS (nA := 1) (As := [.int r_1]) (rest := [.long ao]) (wr := [(h0, .inr (1, [.ref hw, .int gc, .int kc, .ref hp, .ref hg, .ref ho, .ref hd, .long ao, .ref hf, .ref ht, .ref hn, .long up, .long lo])), (hw, .inl (g.2.1 1, 4, .inl wo)), (hg, .inl (g.2.1 1, 12, .inl we)), (ho, .inl (g.2.1 2, 108, .inr (.inl po))), (hd, .inl (g.2.1 2, 3, .inr (.inl od))), (hf, .inl (g.2.1 1, 4, .inl fu)), (ht, .inl (g.2.1 2, 3, .inr (.inl oth))), (hn, .inl (g.2.1 2, 729, .inr (.inl onw))), (h3, .inr (2, [.ref h3_reader, .ref hi, .ref h3_draft, .ref h3_told, .int h3_faultFound, .int h3_faultPlace])), (hi, .inl (g.2.1 1, 12, .inl inf)), (h4, .inr (0, [.int h4_slices, .int h4_inside, .ref h4_parts, .ref h4_bidders, .ref h4_bidCoins, .int h4_bidCount, .int h4_seen, .int h4_spent]))]) F (ctX1_sixteenToThe _ g r_1) pw_662 pw_663 pw_5 pw_664 (by decide +kernel) (by decide) (by decide) rfl rfl (Nat.le_of_ble_eq_true rfl) [] [0, 1, 2, 3, 4, 5, 6, 7, 8, 9, 10] rfl rfl rfl rfl (by decide) dX1_expectBest_10 (fun r0 w0 hp0 => ?_)
  obtain ⟨r_3, _, rfl, rfl, hq_4⟩ := hp0
  replace vc := vc r_3  hq_4
  refine pz_eq (st' := [.long r_3, .long ao]) (ws' := [(h0, .inr (1, [.ref hw, .int gc, .int kc, .ref hp, .ref hg, .ref ho, .ref hd, .long ao, .ref hf, .ref ht, .ref hn, .long up, .long lo])), (hw, .inl (g.2.1 1, 4, .inl wo)), (hg, .inl (g.2.1 1, 12, .inl we)), (ho, .inl (g.2.1 2, 108, .inr (.inl po))), (hd, .inl (g.2.1 2, 3, .inr (.inl od))), (hf, .inl (g.2.1 1, 4, .inl fu)), (ht, .inl (g.2.1 2, 3, .inr (.inl oth))), (hn, .inl (g.2.1 2, 729, .inr (.inl onw))), (h3, .inr (2, [.ref h3_reader, .ref hi, .ref h3_draft, .ref h3_told, .int h3_faultFound, .int h3_faultPlace])), (hi, .inl (g.2.1 1, 12, .inl inf)), (h4, .inr (0, [.int h4_slices, .int h4_inside, .ref h4_parts, .ref h4_bidders, .ref h4_bidCoins, .int h4_bidCount, .int h4_seen, .int h4_spent]))]) rfl rfl ?_
  refine pz_lmul F dX1_expectBest_13 ?_
  refine pz_topl (fun x_5 ex_5 => ?_)
  replace vc := vc x_5 ex_5
  refine pz_lstore (lv' := [(4, .long x_5), (3, .int r_1), (0, .ref h0), (1, .ref h4), (2, .ref h3)]) F dX1_expectBest_14 (by decide) rfl ?_
  refine pz_lload 0 F rfl dX1_expectBest_16 ?_
  refine pz_iload_n 1 F rfl dX1_expectBest_18 rfl ?_
  refine pz_i2l F dX1_expectBest_19 ?_
  refine pz_lmul F dX1_expectBest_20 ?_
  refine pz_aload_n 4 F rfl dX1_expectBest_21 rfl ?_
  refine pz_aload_n 3 F rfl dX1_expectBest_22 rfl ?_
  refine pz_callV (nA := 0) (ci := 0) (C := RX0) (T := TX0) (N := 8) (As := []) (rest := [.ref h3, .long (x_5 * r_1.toInt64)]) (wr := [(h0, .inr (1, [.ref hw, .int gc, .int kc, .ref hp, .ref hg, .ref ho, .ref hd, .long ao, .ref hf, .ref ht, .ref hn, .long up, .long lo])), (hw, .inl (g.2.1 1, 4, .inl wo)), (hg, .inl (g.2.1 1, 12, .inl we)), (ho, .inl (g.2.1 2, 108, .inr (.inl po))), (hd, .inl (g.2.1 2, 3, .inr (.inl od))), (hf, .inl (g.2.1 1, 4, .inl fu)), (ht, .inl (g.2.1 2, 3, .inr (.inl oth))), (hn, .inl (g.2.1 2, 729, .inr (.inl onw))), (h3, .inr (2, [.ref h3_reader, .ref hi, .ref h3_draft, .ref h3_told, .int h3_faultFound, .int h3_faultPlace])), (hi, .inl (g.2.1 1, 12, .inl inf))]) F (ctX0_lastSeen _ g h4 h4_slices h4_inside h4_parts h4_bidders h4_bidCoins h4_bidCount h4_seen h4_spent) 10 rfl rfl pw_665 pw_613 pw_614 pw_17 pw_615 (by decide +kernel) (by decide) (by decide) rfl rfl (Nat.le_of_ble_eq_true rfl) [10] [0, 1, 2, 3, 4, 5, 6, 7, 8, 9] rfl rfl rfl rfl (by decide) dX1_expectBest_23 (fun r0 w0 hp0 => ?_)
  obtain ⟨r_6, _, rfl, rfl, hq_7⟩ := hp0
  replace vc := vc r_6  hq_7
  refine pz_eq (st' := [.int r_6, .ref h3, .long (x_5 * r_1.toInt64)]) (ws' := [(h0, .inr (1, [.ref hw, .int gc, .int kc, .ref hp, .ref hg, .ref ho, .ref hd, .long ao, .ref hf, .ref ht, .ref hn, .long up, .long lo])), (hw, .inl (g.2.1 1, 4, .inl wo)), (hg, .inl (g.2.1 1, 12, .inl we)), (ho, .inl (g.2.1 2, 108, .inr (.inl po))), (hd, .inl (g.2.1 2, 3, .inr (.inl od))), (hf, .inl (g.2.1 1, 4, .inl fu)), (ht, .inl (g.2.1 2, 3, .inr (.inl oth))), (hn, .inl (g.2.1 2, 729, .inr (.inl onw))), (h3, .inr (2, [.ref h3_reader, .ref hi, .ref h3_draft, .ref h3_told, .int h3_faultFound, .int h3_faultPlace])), (hi, .inl (g.2.1 1, 12, .inl inf)), (h4, .inr (0, [.int h4_slices, .int h4_inside, .ref h4_parts, .ref h4_bidders, .ref h4_bidCoins, .int h4_bidCount, .int h4_seen, .int h4_spent]))]) rfl rfl ?_
  obtain ⟨h_8, vc⟩ := vc
  refine pz_callV (nA := 1) (ci := 2) (C := RX2) (T := TX2) (N := 6) (As := [.int r_6]) (rest := [.long (x_5 * r_1.toInt64)]) (wr := [(h0, .inr (1, [.ref hw, .int gc, .int kc, .ref hp, .ref hg, .ref ho, .ref hd, .long ao, .ref hf, .ref ht, .ref hn, .long up, .long lo])), (hw, .inl (g.2.1 1, 4, .inl wo)), (hg, .inl (g.2.1 1, 12, .inl we)), (ho, .inl (g.2.1 2, 108, .inr (.inl po))), (hd, .inl (g.2.1 2, 3, .inr (.inl od))), (hf, .inl (g.2.1 1, 4, .inl fu)), (ht, .inl (g.2.1 2, 3, .inr (.inl oth))), (hn, .inl (g.2.1 2, 729, .inr (.inl onw))), (h4, .inr (0, [.int h4_slices, .int h4_inside, .ref h4_parts, .ref h4_bidders, .ref h4_bidCoins, .int h4_bidCount, .int h4_seen, .int h4_spent]))]) F (ctX2_offerBehind _ g h3 r_6 h3_reader hi h3_draft h3_told h3_faultFound h3_faultPlace inf h_8) 8 rfl rfl pw_666 pw_617 pw_618 pw_3 pw_619 (by decide +kernel) (by decide) (by decide) rfl rfl (Nat.le_of_ble_eq_true rfl) [8, 9] [0, 1, 2, 3, 4, 5, 6, 7, 10] rfl rfl rfl rfl (by decide) dX1_expectBest_26 (fun r0 w0 hp0 => ?_)
  obtain ⟨r_9, _, rfl, rfl, hq_10⟩ := hp0
  replace vc := vc r_9  hq_10
  refine pz_eq (st' := [.int r_9, .long (x_5 * r_1.toInt64)]) (ws' := [(h0, .inr (1, [.ref hw, .int gc, .int kc, .ref hp, .ref hg, .ref ho, .ref hd, .long ao, .ref hf, .ref ht, .ref hn, .long up, .long lo])), (hw, .inl (g.2.1 1, 4, .inl wo)), (hg, .inl (g.2.1 1, 12, .inl we)), (ho, .inl (g.2.1 2, 108, .inr (.inl po))), (hd, .inl (g.2.1 2, 3, .inr (.inl od))), (hf, .inl (g.2.1 1, 4, .inl fu)), (ht, .inl (g.2.1 2, 3, .inr (.inl oth))), (hn, .inl (g.2.1 2, 729, .inr (.inl onw))), (h4, .inr (0, [.int h4_slices, .int h4_inside, .ref h4_parts, .ref h4_bidders, .ref h4_bidCoins, .int h4_bidCount, .int h4_seen, .int h4_spent])), (h3, .inr (2, [.ref h3_reader, .ref hi, .ref h3_draft, .ref h3_told, .int h3_faultFound, .int h3_faultPlace])), (hi, .inl (g.2.1 1, 12, .inl inf))]) rfl rfl ?_
  refine pz_i2l F dX1_expectBest_29 ?_
  refine pz_lmul F dX1_expectBest_30 ?_
  refine pz_topl (fun x_11 ex_11 => ?_)
  replace vc := vc x_11 ex_11
  refine pz_lstore (lv' := [(6, .long x_11), (4, .long x_5), (3, .int r_1), (0, .ref h0), (1, .ref h4), (2, .ref h3)]) F dX1_expectBest_31 (by decide) rfl ?_
  refine pz_aload_n 3 F rfl dX1_expectBest_33 rfl ?_
  refine pz_iload_n 2 F rfl dX1_expectBest_34 rfl ?_
  refine pz_aload_n 5 F rfl dX1_expectBest_35 rfl ?_
  obtain ⟨lft_12, vc⟩ := vc
  obtain ⟨h_13, vc⟩ := vc
  refine pz_callV (nA := 2) (ci := 1) (C := RX1) (T := TX1) (N := 13) (As := [.int r_1, .ref h3]) (rest := []) (wr := [(h4, .inr (0, [.int h4_slices, .int h4_inside, .ref h4_parts, .ref h4_bidders, .ref h4_bidCoins, .int h4_bidCount, .int h4_seen, .int h4_spent]))]) F (ctX1_valueOfCutting _ g r_1 h0 hw gc kc hp hg ho hd ao hf ht hn up lo wo we po od fu oth onw h3 h3_reader hi h3_draft h3_told h3_faultFound h3_faultPlace inf k n lft_12 h_13) 0 rfl rfl pw_667 pw_669 pv_22 pw_5 pw_670 (by decide +kernel) (by decide) (by decide) rfl rfl (Nat.le_of_ble_eq_true rfl) [0, 1, 2, 3, 4, 5, 6, 7, 9, 10] [8] rfl rfl rfl rfl (by decide) dX1_expectBest_36 (fun r0 w0 hp0 => ?_)
  obtain ⟨r_17, ⟨f9_14, o8_15, o9_16⟩, rfl, rfl, hq_18⟩ := hp0
  replace vc := vc r_17 f9_14 o8_15 o9_16 hq_18
  refine pz_eq (st' := [.long r_17]) (ws' := [(h4, .inr (0, [.int h4_slices, .int h4_inside, .ref h4_parts, .ref h4_bidders, .ref h4_bidCoins, .int h4_bidCount, .int h4_seen, .int h4_spent])), (h0, .inr (1, [.ref hw, .int gc, .int kc, .ref hp, .ref hg, .ref ho, .ref hd, .long ao, .ref hf, .ref ht, .ref hn, .long up, .long lo])), (hw, .inl (g.2.1 1, 4, .inl wo)), (hg, .inl (g.2.1 1, 12, .inl we)), (ho, .inl (g.2.1 2, 108, .inr (.inl po))), (hd, .inl (g.2.1 2, 3, .inr (.inl od))), (hf, .inl (g.2.1 1, 4, .inl f9_14)), (ht, .inl (g.2.1 2, 3, .inr (.inl o8_15))), (hn, .inl (g.2.1 2, 729, .inr (.inl o9_16))), (h3, .inr (2, [.ref h3_reader, .ref hi, .ref h3_draft, .ref h3_told, .int h3_faultFound, .int h3_faultPlace])), (hi, .inl (g.2.1 1, 12, .inl inf))]) rfl rfl ?_
  refine pz_lstore (lv' := [(8, .long r_17), (6, .long x_11), (4, .long x_5), (3, .int r_1), (0, .ref h0), (1, .ref h4), (2, .ref h3)]) F dX1_expectBest_39 (by decide) rfl ?_
  refine pz_aload_n 4 F rfl dX1_expectBest_41 rfl ?_
  refine pz_lload 1 F rfl dX1_expectBest_42 ?_
  refine pz_lload 0 F rfl dX1_expectBest_44 ?_
  refine pz_mmaxL F pw_690 pw_691 pw_9 pw_692 ⟨Nat.le_of_ble_eq_true rfl, Nat.le_of_ble_eq_true rfl⟩ (by decide) dX1_expectBest_46 ?_
  refine pz_lload 2 F rfl dX1_expectBest_49 ?_
  refine pz_callV (nA := 2) (ci := 1) (C := RX1) (T := TX1) (N := 13) (As := [.long (if r_17 < x_11 then x_11 else r_17), .long x_5]) (rest := []) (wr := [(h4, .inr (0, [.int h4_slices, .int h4_inside, .ref h4_parts, .ref h4_bidders, .ref h4_bidCoins, .int h4_bidCount, .int h4_seen, .int h4_spent])), (hw, .inl (g.2.1 1, 4, .inl wo)), (hg, .inl (g.2.1 1, 12, .inl we)), (ho, .inl (g.2.1 2, 108, .inr (.inl po))), (hd, .inl (g.2.1 2, 3, .inr (.inl od))), (hf, .inl (g.2.1 1, 4, .inl f9_14)), (ht, .inl (g.2.1 2, 3, .inr (.inl o8_15))), (hn, .inl (g.2.1 2, 729, .inr (.inl o9_16))), (h3, .inr (2, [.ref h3_reader, .ref hi, .ref h3_draft, .ref h3_told, .int h3_faultFound, .int h3_faultPlace])), (hi, .inl (g.2.1 1, 12, .inl inf))]) F (ctX1_keepFraction _ g h0 (if r_17 < x_11 then x_11 else r_17) x_5 hw gc kc hp hg ho hd ao hf ht hn up lo) 1 rfl rfl pw_645 pw_647 pv_21 pw_5 pw_648 (by decide +kernel) (by decide) (by decide) rfl rfl (Nat.le_of_ble_eq_true rfl) [1] [0, 2, 3, 4, 5, 6, 7, 8, 9, 10] rfl rfl rfl rfl (by decide) dX1_expectBest_51 (fun r0 w0 hp0 => ?_)
  obtain ⟨⟨up2_19, lo2_20⟩, rfl, rfl, hq_21⟩ := hp0
  replace vc := vc up2_19 lo2_20 hq_21
  refine pz_eq (st' := []) (ws' := [(h4, .inr (0, [.int h4_slices, .int h4_inside, .ref h4_parts, .ref h4_bidders, .ref h4_bidCoins, .int h4_bidCount, .int h4_seen, .int h4_spent])), (hw, .inl (g.2.1 1, 4, .inl wo)), (hg, .inl (g.2.1 1, 12, .inl we)), (ho, .inl (g.2.1 2, 108, .inr (.inl po))), (hd, .inl (g.2.1 2, 3, .inr (.inl od))), (hf, .inl (g.2.1 1, 4, .inl f9_14)), (ht, .inl (g.2.1 2, 3, .inr (.inl o8_15))), (hn, .inl (g.2.1 2, 729, .inr (.inl o9_16))), (h3, .inr (2, [.ref h3_reader, .ref hi, .ref h3_draft, .ref h3_told, .int h3_faultFound, .int h3_faultPlace])), (hi, .inl (g.2.1 1, 12, .inl inf)), (h0, .inr (1, [.ref hw, .int gc, .int kc, .ref hp, .ref hg, .ref ho, .ref hd, .long ao, .ref hf, .ref ht, .ref hn, .long up2_19, .long lo2_20]))]) rfl rfl ?_
  refine pz_lload 0 F rfl dX1_expectBest_54 ?_
  refine pz_lload 1 F rfl dX1_expectBest_56 ?_
  refine pz_lcmp F dX1_expectBest_58 ?_
  refine pz_if_le (tgt := 66) F dX1_expectBest_59 (by decide) (fun q_22 => ?_) (fun q_22 => ?_)
  · replace vc := vc.1 q_22
    refine pz_iconst (v := 1) F dX1_expectBest_66 rfl ?_
    exact pz_ireturn (w1 := [(h0, .inr (1, [.ref hw, .int gc, .int kc, .ref hp, .ref hg, .ref ho, .ref hd, .long ao, .ref hf, .ref ht, .ref hn, .long up2_19, .long lo2_20])), (hw, .inl (g.2.1 1, 4, .inl wo)), (hg, .inl (g.2.1 1, 12, .inl we)), (ho, .inl (g.2.1 2, 108, .inr (.inl po))), (hd, .inl (g.2.1 2, 3, .inr (.inl od))), (hf, .inl (g.2.1 1, 4, .inl f9_14)), (ht, .inl (g.2.1 2, 3, .inr (.inl o8_15))), (hn, .inl (g.2.1 2, 729, .inr (.inl o9_16))), (h3, .inr (2, [.ref h3_reader, .ref hi, .ref h3_draft, .ref h3_told, .int h3_faultFound, .int h3_faultPlace])), (hi, .inl (g.2.1 1, 12, .inl inf)), (h4, .inr (0, [.int h4_slices, .int h4_inside, .ref h4_parts, .ref h4_bidders, .ref h4_bidCoins, .int h4_bidCount, .int h4_seen, .int h4_spent]))]) F Rt (by decide) (by decide) dX1_expectBest_67 [10, 1, 2, 3, 4, 5, 6, 7, 8, 9, 0] rfl rfl rfl vc
  · replace vc := vc.2 q_22
    refine pz_iconst (v := 2) F dX1_expectBest_62 rfl ?_
    refine pz_goto (tgt := 67) F dX1_expectBest_63 (by decide) ?_
    exact pz_ireturn (w1 := [(h0, .inr (1, [.ref hw, .int gc, .int kc, .ref hp, .ref hg, .ref ho, .ref hd, .long ao, .ref hf, .ref ht, .ref hn, .long up2_19, .long lo2_20])), (hw, .inl (g.2.1 1, 4, .inl wo)), (hg, .inl (g.2.1 1, 12, .inl we)), (ho, .inl (g.2.1 2, 108, .inr (.inl po))), (hd, .inl (g.2.1 2, 3, .inr (.inl od))), (hf, .inl (g.2.1 1, 4, .inl f9_14)), (ht, .inl (g.2.1 2, 3, .inr (.inl o8_15))), (hn, .inl (g.2.1 2, 729, .inr (.inl o9_16))), (h3, .inr (2, [.ref h3_reader, .ref hi, .ref h3_draft, .ref h3_told, .int h3_faultFound, .int h3_faultPlace])), (hi, .inl (g.2.1 1, 12, .inl inf)), (h4, .inr (0, [.int h4_slices, .int h4_inside, .ref h4_parts, .ref h4_bidders, .ref h4_bidCoins, .int h4_bidCount, .int h4_seen, .int h4_spent]))]) F Rt (by decide) (by decide) dX1_expectBest_67 [10, 1, 2, 3, 4, 5, 6, 7, 8, 9, 0] rfl rfl rfl vc
set_option maxHeartbeats 4000000 in
set_option maxRecDepth 100000 in
theorem ctX1_expectBest (l : Launch) (g : pz_G) (h0 : Nat) (hw : Nat) (gc : Int32) (kc : Int32) (hp : Nat) (hg : Nat) (ho : Nat) (hd : Nat) (ao : Int64) (hf : Nat) (ht : Nat) (hn : Nat) (up : Int64) (lo : Int64) (wo : Nat → Int32) (we : Nat → Int32) (po : Nat → Int64) (od : Nat → Int64) (fu : Nat → Int32) (oth : Nat → Int64) (onw : Nat → Int64) (h3 : Nat) (h3_reader : Nat) (hi : Nat) (h3_draft : Nat) (h3_told : Nat) (h3_faultFound : Int32) (h3_faultPlace : Int32) (inf : Nat → Int32) (h4 : Nat) (h4_slices : Int32) (h4_inside : Int32) (h4_parts : Nat) (h4_bidders : Nat) (h4_bidCoins : Nat) (h4_bidCount : Int32) (h4_seen : Int32) (h4_spent : Int32) (k : Nat) (n : Nat) (sc : Nat) (se : Nat) (hpre : k ≤ 3 ∧ n ≤ 4 ∧ se < sc ∧ sc ≤ 8 ∧ kc = nI k ∧ gc = nI n ∧ h4_slices = nI sc ∧ h4_seen = nI se) : pz_Ct l g yX1_expectBest cX1_expectBest 10 (some .int) rmX1_expectBest [.ref h0, .ref h4, .ref h3] [(h0, .inr (1, [.ref hw, .int gc, .int kc, .ref hp, .ref hg, .ref ho, .ref hd, .long ao, .ref hf, .ref ht, .ref hn, .long up, .long lo])), (hw, .inl (g.2.1 1, 4, .inl wo)), (hg, .inl (g.2.1 1, 12, .inl we)), (ho, .inl (g.2.1 2, 108, .inr (.inl po))), (hd, .inl (g.2.1 2, 3, .inr (.inl od))), (hf, .inl (g.2.1 1, 4, .inl fu)), (ht, .inl (g.2.1 2, 3, .inr (.inl oth))), (hn, .inl (g.2.1 2, 729, .inr (.inl onw))), (h3, .inr (2, [.ref h3_reader, .ref hi, .ref h3_draft, .ref h3_told, .int h3_faultFound, .int h3_faultPlace])), (hi, .inl (g.2.1 1, 12, .inl inf)), (h4, .inr (0, [.int h4_slices, .int h4_inside, .ref h4_parts, .ref h4_bidders, .ref h4_bidCoins, .int h4_bidCount, .int h4_seen, .int h4_spent]))] (pz_pi (fun (r : Int32) (u : (Nat → Int32) × (Nat → Int64) × (Nat → Int64) × Int64 × Int64) => ∃ lst : Int32, (lst = if h4_seen = 0 then -1 else pu_gi h4_inside (h4_seen - 1)) ∧ (if pu_cd 100 (if (pu_V (inf 6) wo inf we od po k n (sc - se) (sc - se) 0 0 0) < ((ao * pu_s16 (nI (sc - se))) * (nI (sc - se)).toInt64 * (if lst < 0 then inf 7 else inf (8 + lst.toNatClampNeg)).toInt64) then ((ao * pu_s16 (nI (sc - se))) * (nI (sc - se)).toInt64 * (if lst < 0 then inf 7 else inf (8 + lst.toNatClampNeg)).toInt64) else (pu_V (inf 6) wo inf we od po k n (sc - se) (sc - se) 0 0 0)) (ao * pu_s16 (nI (sc - se))) ≤ 0 then u.2.2.2.1 = up ∧ u.2.2.2.2 = lo else u.2.2.2.1 = (if (pu_V (inf 6) wo inf we od po k n (sc - se) (sc - se) 0 0 0) < ((ao * pu_s16 (nI (sc - se))) * (nI (sc - se)).toInt64 * (if lst < 0 then inf 7 else inf (8 + lst.toNatClampNeg)).toInt64) then ((ao * pu_s16 (nI (sc - se))) * (nI (sc - se)).toInt64 * (if lst < 0 then inf 7 else inf (8 + lst.toNatClampNeg)).toInt64) else (pu_V (inf 6) wo inf we od po k n (sc - se) (sc - se) 0 0 0)) / pu_cd 100 (if (pu_V (inf 6) wo inf we od po k n (sc - se) (sc - se) 0 0 0) < ((ao * pu_s16 (nI (sc - se))) * (nI (sc - se)).toInt64 * (if lst < 0 then inf 7 else inf (8 + lst.toNatClampNeg)).toInt64) then ((ao * pu_s16 (nI (sc - se))) * (nI (sc - se)).toInt64 * (if lst < 0 then inf 7 else inf (8 + lst.toNatClampNeg)).toInt64) else (pu_V (inf 6) wo inf we od po k n (sc - se) (sc - se) 0 0 0)) (ao * pu_s16 (nI (sc - se))) ∧ u.2.2.2.2 = (ao * pu_s16 (nI (sc - se))) / pu_cd 100 (if (pu_V (inf 6) wo inf we od po k n (sc - se) (sc - se) 0 0 0) < ((ao * pu_s16 (nI (sc - se))) * (nI (sc - se)).toInt64 * (if lst < 0 then inf 7 else inf (8 + lst.toNatClampNeg)).toInt64) then ((ao * pu_s16 (nI (sc - se))) * (nI (sc - se)).toInt64 * (if lst < 0 then inf 7 else inf (8 + lst.toNatClampNeg)).toInt64) else (pu_V (inf 6) wo inf we od po k n (sc - se) (sc - se) 0 0 0)) (ao * pu_s16 (nI (sc - se)))) ∧ r = if (pu_V (inf 6) wo inf we od po k n (sc - se) (sc - se) 0 0 0) ≤ ((ao * pu_s16 (nI (sc - se))) * (nI (sc - se)).toInt64 * (if lst < 0 then inf 7 else inf (8 + lst.toNatClampNeg)).toInt64) then 1 else 2) (fun (u : (Nat → Int32) × (Nat → Int64) × (Nat → Int64) × Int64 × Int64) => [(h0, .inr (1, [.ref hw, .int gc, .int kc, .ref hp, .ref hg, .ref ho, .ref hd, .long ao, .ref hf, .ref ht, .ref hn, .long u.2.2.2.1, .long u.2.2.2.2])), (hw, .inl (g.2.1 1, 4, .inl wo)), (hg, .inl (g.2.1 1, 12, .inl we)), (ho, .inl (g.2.1 2, 108, .inr (.inl po))), (hd, .inl (g.2.1 2, 3, .inr (.inl od))), (hf, .inl (g.2.1 1, 4, .inl u.1)), (ht, .inl (g.2.1 2, 3, .inr (.inl u.2.1))), (hn, .inl (g.2.1 2, 729, .inr (.inl u.2.2.1))), (h3, .inr (2, [.ref h3_reader, .ref hi, .ref h3_draft, .ref h3_told, .int h3_faultFound, .int h3_faultPlace])), (hi, .inl (g.2.1 1, 12, .inl inf)), (h4, .inr (0, [.int h4_slices, .int h4_inside, .ref h4_parts, .ref h4_bidders, .ref h4_bidCoins, .int h4_bidCount, .int h4_seen, .int h4_spent]))])) := by
  refine pz_ofAt (by decide +kernel) (Nat.le_of_ble_eq_true rfl) (fun B F Rt hme => ?_)
  obtain ⟨hk, hG, hl1, hl8, h1, h2, h3_, h4_⟩ := hpre
  subst h1; subst h2; subst h3_; subst h4_
  refine sgX1_expectBest_0 F Rt h0 hw (nI n) (nI k) hp hg ho hd ao hf ht hn up lo wo we po od fu oth onw h3 h3_reader hi h3_draft h3_told h3_faultFound h3_faultPlace inf h4 (nI sc) h4_inside h4_parts h4_bidders h4_bidCoins h4_bidCount (nI se) h4_spent k n sc se ?_
  rw [pk_sub (by omega)]
  rintro lf rfl s16 hs16
  have e16 : s16 = pu_s16 (nI (sc - se)) := hs16
  rw [e16]
  rintro scl rfl lst hlst
  have hl4 : lst < 4 := by
    rw [hlst]
    by_cases h : nI se = 0
    · rw [if_pos h]; decide
    · rw [if_neg h]
      obtain ⟨v, hv, hv2⟩ := pu_gi4 h4_inside (nI se - 1)
      rw [hv2]
      exact nI_lt (b := 4) hv (by omega)
  refine ⟨hl4, fun of hof => ?_⟩
  rw [hof]
  rintro sel rfl
  refine ⟨sc - se, ⟨hk, hG, by omega, by omega, rfl, rfl, rfl⟩, fun r f9 o8 o9 hr => ?_⟩
  rw [hr]
  intro up2 lo2 hkf
  rw [lg_cmp_le]
  exact ⟨fun q => ⟨_, (_, _, _, _, _), rfl, rfl, lst, hlst, hkf, by rw [if_pos q]⟩, fun q => ⟨_, (_, _, _, _, _), rfl, rfl, lst, hlst, hkf, by rw [if_neg q]⟩⟩
