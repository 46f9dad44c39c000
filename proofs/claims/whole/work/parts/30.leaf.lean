
abbrev rmX4_has : Room := { frames := 0, cells := 0, slots := 0, locals := 0 }
set_option maxHeartbeats 4000000 in
set_option maxRecDepth 100000 in
theorem sgX4_has_0 {B : pz_B} {g : pz_G} {wc : va_W} {Post : Option Value → va_W → Prop} (F : pz_F B cX4_has 2 (some .boolean) yX4_has.cls g rmX4_has) (Rt : pz_Rt B g wc Post rmX4_has) (h0 : Nat) (m : Int32) (hp : Nat) (hd : Nat) (sz : Int32)  (vc : ((m < 0 → Post (some (.int 0)) [(h0, .inr (3, [.ref hp, .ref hd, .int sz]))]) ∧ (¬ m < 0 → ((sz ≤ m → Post (some (.int 0)) [(h0, .inr (3, [.ref hp, .ref hd, .int sz]))]) ∧ (¬ sz ≤ m → Post (some (.int 1)) [(h0, .inr (3, [.ref hp, .ref hd, .int sz]))]))))) : pz_At B 0 0 0 [(0, .ref h0), (1, .int m)] [] [(h0, .inr (3, [.ref hp, .ref hd, .int sz]))] := by
  refine pz_iload_n 1 F rfl dX4_has_0 rfl ?_
  refine pz_if_lt (tgt := 16) F dX4_has_1 (by decide) (fun q_1 => ?_) (fun q_1 => ?_)
  · replace vc := vc.1 q_1
    refine pz_iconst (v := 0) F dX4_has_16 rfl ?_
    exact pz_ireturn (w1 := [(h0, .inr (3, [.ref hp, .ref hd, .int sz]))]) F Rt (by decide) (by decide) dX4_has_17 [0] rfl rfl rfl vc
  · replace vc := vc.2 q_1
    refine pz_iload_n 1 F rfl dX4_has_4 rfl ?_
    refine pz_aload_n 0 F rfl dX4_has_5 rfl ?_
    refine pz_get (ci := 3) (C := RX4) (T := TX4) (N := 3) (v := .int sz) 0 F rfl rfl pz_inX4 2 (by decide) pw_167 rfl dX4_has_6 ?_
    refine pz_icmp_ge (tgt := 16) F dX4_has_9 (by decide) (fun q_2 => ?_) (fun q_2 => ?_)
    · replace vc := vc.1 q_2
      refine pz_iconst (v := 0) F dX4_has_16 rfl ?_
      exact pz_ireturn (w1 := [(h0, .inr (3, [.ref hp, .ref hd, .int sz]))]) F Rt (by decide) (by decide) dX4_has_17 [0] rfl rfl rfl vc
    · replace vc := vc.2 q_2
      refine pz_iconst (v := 1) F dX4_has_12 rfl ?_
      refine pz_goto (tgt := 17) F dX4_has_13 (by decide) ?_
      exact pz_ireturn (w1 := [(h0, .inr (3, [.ref hp, .ref hd, .int sz]))]) F Rt (by decide) (by decide) dX4_has_17 [0] rfl rfl rfl vc
set_option maxHeartbeats 4000000 in
set_option maxRecDepth 100000 in
theorem ctX4_has (l : Launch) (g : pz_G) (h0 : Nat) (m : Int32) (hp : Nat) (hd : Nat) (sz : Int32) : pz_Ct l g yX4_has cX4_has 2 (some .boolean) rmX4_has [.ref h0, .int m] [(h0, .inr (3, [.ref hp, .ref hd, .int sz]))] (pz_pi (fun (r : Int32) (u : Unit) => r = if m < 0 then 0 else if sz ≤ m then 0 else 1) (fun (u : Unit) => [(h0, .inr (3, [.ref hp, .ref hd, .int sz]))])) := by
  refine pz_ofAt (by decide +kernel) (Nat.le_of_ble_eq_true rfl) (fun B F Rt hme => ?_)
  refine sgX4_has_0 F Rt h0 m hp hd sz ?_
  clear F Rt hme
  repeat' (first | apply And.intro | intro _)
  all_goals (try subst_vars)
  all_goals (first | exact ⟨_, (), rfl, rfl, rfl⟩ | exact ⟨_, (), rfl, rfl, by simp only [*, reduceIte, and_self, and_true, true_and, not_false_eq_true]⟩)
abbrev rmX4_divide : Room := { frames := 0, cells := 0, slots := 0, locals := 0 }
abbrev paX4_divide_5 (B : pz_B) (g : pz_G) (c : Int32) (h0 : Nat) (hp : Nat) (hd : Nat) (sz : Int32) (du : Nat → Int32) (h3 : Nat) (h3_slices : Int32) (h3_inside : Int32) (hpa : Nat) (h3_bidders : Nat) (h3_bidCoins : Nat) (h3_bidCount : Int32) (h3_seen : Int32) (h3_spent : Int32) (pa : Nat → Int32) (n : Nat) (ov : Int32) (i : Int32) (d1 : Nat → Int32) : Prop := pz_At B 0 0 5 [(0, .ref h0), (1, .ref h3), (2, .int c), (3, .int ov), (4, .int i)] [] [(h0, .inr (3, [.ref hp, .ref hd, .int sz])), (hd, .inl (g.2.1 1, 8, .inl d1)), (h3, .inr (0, [.int h3_slices, .int h3_inside, .ref hpa, .ref h3_bidders, .ref h3_bidCoins, .int h3_bidCount, .int h3_seen, .int h3_spent])), (hpa, .inl (g.2.1 1, 8, .inl pa))]
abbrev paX4_divide_52 (B : pz_B) (g : pz_G) (c : Int32) (h0 : Nat) (hp : Nat) (hd : Nat) (sz : Int32) (du : Nat → Int32) (h3 : Nat) (h3_slices : Int32) (h3_inside : Int32) (hpa : Nat) (h3_bidders : Nat) (h3_bidCoins : Nat) (h3_bidCount : Int32) (h3_seen : Int32) (h3_spent : Int32) (pa : Nat → Int32) (n : Nat) (ov : Int32) (i : Int32) (d1 : Nat → Int32) : Prop := pz_At B 0 0 52 [(0, .ref h0), (1, .ref h3), (2, .int c), (3, .int ov), (4, .int i)] [] [(h0, .inr (3, [.ref hp, .ref hd, .int sz])), (hd, .inl (g.2.1 1, 8, .inl d1)), (h3, .inr (0, [.int h3_slices, .int h3_inside, .ref hpa, .ref h3_bidders, .ref h3_bidCoins, .int h3_bidCount, .int h3_seen, .int h3_spent])), (hpa, .inl (g.2.1 1, 8, .inl pa))]
set_option maxHeartbeats 4000000 in
set_option maxRecDepth 100000 in
theorem sgX4_divide_0 {B : pz_B} {g : pz_G} {wc : va_W} {Post : Option Value → va_W → Prop} (F : pz_F B cX4_divide 5 none yX4_divide.cls g rmX4_divide) (Rt : pz_Rt B g wc Post rmX4_divide) (c : Int32) (h0 : Nat) (hp : Nat) (hd : Nat) (sz : Int32) (du : Nat → Int32) (h3 : Nat) (h3_slices : Int32) (h3_inside : Int32) (hpa : Nat) (h3_bidders : Nat) (h3_bidCoins : Nat) (h3_bidCount : Int32) (h3_seen : Int32) (h3_spent : Int32) (pa : Nat → Int32) (n : Nat) (T5 : Int32 → Int32 → (Nat → Int32) → Prop) (hT5 : ∀ (ov : Int32) (i : Int32) (d1 : Nat → Int32), T5 ov i d1 → paX4_divide_5 B g c h0 hp hd sz du h3 h3_slices h3_inside hpa h3_bidders h3_bidCoins h3_bidCount h3_seen h3_spent pa n ov i d1)  (vc : T5 c 0 du) : pz_At B 0 0 0 [(0, .ref h0), (1, .ref h3), (2, .int c)] [] [(h0, .inr (3, [.ref hp, .ref hd, .int sz])), (hd, .inl (g.2.1 1, 8, .inl du)), (h3, .inr (0, [.int h3_slices, .int h3_inside, .ref hpa, .ref h3_bidders, .ref h3_bidCoins, .int h3_bidCount, .int h3_seen, .int h3_spent])), (hpa, .inl (g.2.1 1, 8, .inl pa))] := by
  refine pz_iload_n 2 F rfl dX4_divide_0 rfl ?_
  refine pz_istore_n (lv' := [(3, .int c), (0, .ref h0), (1, .ref h3), (2, .int c)]) F dX4_divide_1 rfl (by decide) rfl ?_
  refine pz_iconst (v := 0) F dX4_divide_2 rfl ?_
  refine pz_istore (lv' := [(4, .int 0), (3, .int c), (0, .ref h0), (1, .ref h3), (2, .int c)]) F dX4_divide_3 (by decide) rfl ?_
  exact pz_sub [2, 3, 4, 1, 0] [0, 1, 2, 3] rfl rfl rfl (hT5 c 0 du vc)
set_option maxHeartbeats 4000000 in
set_option maxRecDepth 100000 in
theorem sgX4_divide_5 {B : pz_B} {g : pz_G} {wc : va_W} {Post : Option Value → va_W → Prop} (F : pz_F B cX4_divide 5 none yX4_divide.cls g rmX4_divide) (Rt : pz_Rt B g wc Post rmX4_divide) (c : Int32) (h0 : Nat) (hp : Nat) (hd : Nat) (sz : Int32) (du : Nat → Int32) (h3 : Nat) (h3_slices : Int32) (h3_inside : Int32) (hpa : Nat) (h3_bidders : Nat) (h3_bidCoins : Nat) (h3_bidCount : Int32) (h3_seen : Int32) (h3_spent : Int32) (pa : Nat → Int32) (n : Nat) (T5 : Int32 → Int32 → (Nat → Int32) → Prop) (hT5 : ∀ (ov : Int32) (i : Int32) (d1 : Nat → Int32), T5 ov i d1 → paX4_divide_5 B g c h0 hp hd sz du h3 h3_slices h3_inside hpa h3_bidders h3_bidCoins h3_bidCount h3_seen h3_spent pa n ov i d1) (T52 : Int32 → Int32 → (Nat → Int32) → Prop) (hT52 : ∀ (ov : Int32) (i : Int32) (d1 : Nat → Int32), T52 ov i d1 → paX4_divide_52 B g c h0 hp hd sz du h3 h3_slices h3_inside hpa h3_bidders h3_bidCoins h3_bidCount h3_seen h3_spent pa n ov i d1) (ov : Int32) (i : Int32) (d1 : Nat → Int32) (vc : ((sz ≤ i → T52 ov 0 d1) ∧ (¬ sz ≤ i → vp_in i 8 ∧ ∀ x_3 : Int32, x_3 = (((pa i.toNatClampNeg) * c) / 16) → vp_in i 8 ∧ ∀ f_5 : Nat → Int32, f_5 = upd d1 i.toNatClampNeg x_3 → vp_in i 8 ∧ ∀ x_7 : Int32, x_7 = (ov - (f_5 i.toNatClampNeg)) → ∀ x_8 : Int32, x_8 = i + 1 → T5 x_7 x_8 f_5))) : pz_At B 0 0 5 [(0, .ref h0), (1, .ref h3), (2, .int c), (3, .int ov), (4, .int i)] [] [(h0, .inr (3, [.ref hp, .ref hd, .int sz])), (hd, .inl (g.2.1 1, 8, .inl d1)), (h3, .inr (0, [.int h3_slices, .int h3_inside, .ref hpa, .ref h3_bidders, .ref h3_bidCoins, .int h3_bidCount, .int h3_seen, .int h3_spent])), (hpa, .inl (g.2.1 1, 8, .inl pa))] := by
  refine pz_iload 4 F rfl dX4_divide_5 ?_
  refine pz_aload_n 0 F rfl dX4_divide_7 rfl ?_
  refine pz_get (ci := 3) (C := RX4) (T := TX4) (N := 3) (v := .int sz) 0 F rfl rfl pz_inX4 2 (by decide) pw_167 rfl dX4_divide_8 ?_
  refine pz_icmp_ge (tgt := 49) F dX4_divide_11 (by decide) (fun q_1 => ?_) (fun q_1 => ?_)
  · replace vc := vc.1 q_1
    refine pz_iconst (v := 0) F dX4_divide_49 rfl ?_
    refine pz_istore (lv' := [(4, .int 0), (0, .ref h0), (1, .ref h3), (2, .int c), (3, .int ov)]) F dX4_divide_50 (by decide) rfl ?_
    exact pz_sub [1, 2, 3, 4, 0] [0, 1, 2, 3] rfl rfl rfl (hT52 ov 0 d1 vc)
  · replace vc := vc.2 q_1
    refine pz_aload_n 0 F rfl dX4_divide_14 rfl ?_
    refine pz_get (ci := 3) (C := RX4) (T := TX4) (N := 3) (v := .ref hd) 0 F rfl rfl pz_inX4 1 (by decide) pw_166 rfl dX4_divide_15 ?_
    refine pz_iload 4 F rfl dX4_divide_18 ?_
    refine pz_aload_n 1 F rfl dX4_divide_20 rfl ?_
    refine pz_get (ci := 0) (C := RX0) (T := TX0) (N := 8) (v := .ref hpa) 2 F rfl rfl pz_inX0 2 (by decide) pw_446 rfl dX4_divide_21 ?_
    refine pz_iload 4 F rfl dX4_divide_24 ?_
    obtain ⟨h_2, vc⟩ := vc
    refine pz_iaload 3 F rfl h_2 dX4_divide_26 ?_
    refine pz_iload_n 2 F rfl dX4_divide_27 rfl ?_
    refine pz_imul F dX4_divide_28 ?_
    refine pz_bipush (v := 16) F dX4_divide_29 rfl ?_
    refine pz_idiv F (by decide) dX4_divide_31 ?_
    refine pz_topi (fun x_3 ex_3 => ?_)
    replace vc := vc x_3 ex_3
    obtain ⟨h_4, vc⟩ := vc
    obtain ⟨f_5, ef_5⟩ : ∃ z : Nat → Int32, z = upd d1 i.toNatClampNeg x_3 := ⟨_, rfl⟩
    replace vc := vc f_5 ef_5
    refine pz_iastore (ws' := [(h0, .inr (3, [.ref hp, .ref hd, .int sz])), (hd, .inl (g.2.1 1, 8, .inl f_5)), (h3, .inr (0, [.int h3_slices, .int h3_inside, .ref hpa, .ref h3_bidders, .ref h3_bidCoins, .int h3_bidCount, .int h3_seen, .int h3_spent])), (hpa, .inl (g.2.1 1, 8, .inl pa))]) F 1 rfl h_4 dX4_divide_32 (by rw [ef_5]; rfl) ?_
    refine pz_iload_n 3 F rfl dX4_divide_33 rfl ?_
    refine pz_aload_n 0 F rfl dX4_divide_34 rfl ?_
    refine pz_get (ci := 3) (C := RX4) (T := TX4) (N := 3) (v := .ref hd) 0 F rfl rfl pz_inX4 1 (by decide) pw_166 rfl dX4_divide_35 ?_
    refine pz_iload 4 F rfl dX4_divide_38 ?_
    obtain ⟨h_6, vc⟩ := vc
    refine pz_iaload 1 F rfl h_6 dX4_divide_40 ?_
    refine pz_isub F dX4_divide_41 ?_
    refine pz_topi (fun x_7 ex_7 => ?_)
    replace vc := vc x_7 ex_7
    refine pz_istore_n (lv' := [(3, .int x_7), (0, .ref h0), (1, .ref h3), (2, .int c), (4, .int i)]) F dX4_divide_42 rfl (by decide) rfl ?_
    obtain ⟨x_8, ex_8⟩ : ∃ z : Int32, z = i + 1 := ⟨_, rfl⟩
    replace vc := vc x_8 ex_8
    refine pz_iinc (v := x_8) (lv' := [(4, .int x_8), (3, .int x_7), (0, .ref h0), (1, .ref h3), (2, .int c)]) 4 F rfl dX4_divide_43 (by rw [ex_8]; rfl) (by decide) rfl ?_
    refine pz_goto (tgt := 5) F dX4_divide_46 (by decide) ?_
    exact pz_sub [2, 3, 4, 1, 0] [0, 1, 2, 3] rfl rfl rfl (hT5 x_7 x_8 f_5 vc)
theorem lpX4_divide_5 {B : pz_B} {g : pz_G} {wc : va_W} {Post : Option Value → va_W → Prop} (F : pz_F B cX4_divide 5 none yX4_divide.cls g rmX4_divide) (Rt : pz_Rt B g wc Post rmX4_divide) (c : Int32) (h0 : Nat) (hp : Nat) (hd : Nat) (sz : Int32) (du : Nat → Int32) (h3 : Nat) (h3_slices : Int32) (h3_inside : Int32) (hpa : Nat) (h3_bidders : Nat) (h3_bidCoins : Nat) (h3_bidCount : Int32) (h3_seen : Int32) (h3_spent : Int32) (pa : Nat → Int32) (n : Nat) (T52 : Int32 → Int32 → (Nat → Int32) → Prop) (hT52 : ∀ (ov : Int32) (i : Int32) (d1 : Nat → Int32), T52 ov i d1 → paX4_divide_52 B g c h0 hp hd sz du h3 h3_slices h3_inside hpa h3_bidders h3_bidCoins h3_bidCount h3_seen h3_spent pa n ov i d1) (Inv : Nat → Int32 → Int32 → (Nat → Int32) → Prop) (step : ∀ (mz : Nat) (ov : Int32) (i : Int32) (d1 : Nat → Int32), Inv mz ov i d1 → ∀ TT : Int32 → Int32 → (Nat → Int32) → Prop, TT = (fun ov i d1 => ∃ mz', mz' < mz ∧ Inv mz' ov i d1) → ((sz ≤ i → T52 ov 0 d1) ∧ (¬ sz ≤ i → vp_in i 8 ∧ ∀ x_3 : Int32, x_3 = (((pa i.toNatClampNeg) * c) / 16) → vp_in i 8 ∧ ∀ f_5 : Nat → Int32, f_5 = upd d1 i.toNatClampNeg x_3 → vp_in i 8 ∧ ∀ x_7 : Int32, x_7 = (ov - (f_5 i.toNatClampNeg)) → ∀ x_8 : Int32, x_8 = i + 1 → TT x_7 x_8 f_5))) : ∀ (mz : Nat) (ov : Int32) (i : Int32) (d1 : Nat → Int32), Inv mz ov i d1 → paX4_divide_5 B g c h0 hp hd sz du h3 h3_slices h3_inside hpa h3_bidders h3_bidCoins h3_bidCount h3_seen h3_spent pa n ov i d1 := by
  intro mz
  induction mz using Nat.strongRecOn with
  | _ mz ih =>
    intro ov i d1 hI
    exact sgX4_divide_5 F Rt c h0 hp hd sz du h3 h3_slices h3_inside hpa h3_bidders h3_bidCoins h3_bidCount h3_seen h3_spent pa n (fun ov i d1 => ∃ mz', mz' < mz ∧ Inv mz' ov i d1) (fun ov i d1 ⟨mz', h1, h2⟩ => ih mz' h1 ov i d1 h2) T52 hT52 ov i d1 (step mz ov i d1 hI _ rfl)
set_option maxHeartbeats 4000000 in
set_option maxRecDepth 100000 in
theorem sgX4_divide_52 {B : pz_B} {g : pz_G} {wc : va_W} {Post : Option Value → va_W → Prop} (F : pz_F B cX4_divide 5 none yX4_divide.cls g rmX4_divide) (Rt : pz_Rt B g wc Post rmX4_divide) (c : Int32) (h0 : Nat) (hp : Nat) (hd : Nat) (sz : Int32) (du : Nat → Int32) (h3 : Nat) (h3_slices : Int32) (h3_inside : Int32) (hpa : Nat) (h3_bidders : Nat) (h3_bidCoins : Nat) (h3_bidCount : Int32) (h3_seen : Int32) (h3_spent : Int32) (pa : Nat → Int32) (n : Nat) (T52 : Int32 → Int32 → (Nat → Int32) → Prop) (hT52 : ∀ (ov : Int32) (i : Int32) (d1 : Nat → Int32), T52 ov i d1 → paX4_divide_52 B g c h0 hp hd sz du h3 h3_slices h3_inside hpa h3_bidders h3_bidCoins h3_bidCount h3_seen h3_spent pa n ov i d1) (ov : Int32) (i : Int32) (d1 : Nat → Int32) (vc : ((sz ≤ i → Post none [(h0, .inr (3, [.ref hp, .ref hd, .int sz])), (hd, .inl (g.2.1 1, 8, .inl d1)), (h3, .inr (0, [.int h3_slices, .int h3_inside, .ref hpa, .ref h3_bidders, .ref h3_bidCoins, .int h3_bidCount, .int h3_seen, .int h3_spent])), (hpa, .inl (g.2.1 1, 8, .inl pa))]) ∧ (¬ sz ≤ i → ((ov ≤ 0 → Post none [(h0, .inr (3, [.ref hp, .ref hd, .int sz])), (hd, .inl (g.2.1 1, 8, .inl d1)), (h3, .inr (0, [.int h3_slices, .int h3_inside, .ref hpa, .ref h3_bidders, .ref h3_bidCoins, .int h3_bidCount, .int h3_seen, .int h3_spent])), (hpa, .inl (g.2.1 1, 8, .inl pa))]) ∧ (¬ ov ≤ 0 → vp_in i 8 ∧ (((pa i.toNatClampNeg) ≤ 0 → ∀ x_5 : Int32, x_5 = i + 1 → T52 ov x_5 d1) ∧ (¬ (pa i.toNatClampNeg) ≤ 0 → vp_in i 8 ∧ ∀ x_7 : Int32, x_7 = ((d1 i.toNatClampNeg) + 1) → vp_in i 8 ∧ ∀ f_9 : Nat → Int32, f_9 = upd d1 i.toNatClampNeg x_7 → ∀ x_10 : Int32, x_10 = ov + (-1) → ∀ x_11 : Int32, x_11 = i + 1 → T52 x_10 x_11 f_9))))))) : pz_At B 0 0 52 [(0, .ref h0), (1, .ref h3), (2, .int c), (3, .int ov), (4, .int i)] [] [(h0, .inr (3, [.ref hp, .ref hd, .int sz])), (hd, .inl (g.2.1 1, 8, .inl d1)), (h3, .inr (0, [.int h3_slices, .int h3_inside, .ref hpa, .ref h3_bidders, .ref h3_bidCoins, .int h3_bidCount, .int h3_seen, .int h3_spent])), (hpa, .inl (g.2.1 1, 8, .inl pa))] := by
  refine pz_iload 4 F rfl dX4_divide_52 ?_
  refine pz_aload_n 0 F rfl dX4_divide_54 rfl ?_
  refine pz_get (ci := 3) (C := RX4) (T := TX4) (N := 3) (v := .int sz) 0 F rfl rfl pz_inX4 2 (by decide) pw_167 rfl dX4_divide_55 ?_
  refine pz_icmp_ge (tgt := 95) F dX4_divide_58 (by decide) (fun q_1 => ?_) (fun q_1 => ?_)
  · replace vc := vc.1 q_1
    exact pz_return (w1 := [(h0, .inr (3, [.ref hp, .ref hd, .int sz])), (hd, .inl (g.2.1 1, 8, .inl d1)), (h3, .inr (0, [.int h3_slices, .int h3_inside, .ref hpa, .ref h3_bidders, .ref h3_bidCoins, .int h3_bidCount, .int h3_seen, .int h3_spent])), (hpa, .inl (g.2.1 1, 8, .inl pa))]) F Rt (by decide) (by decide) dX4_divide_95 [0, 1, 2, 3] rfl rfl vc
  · replace vc := vc.2 q_1
    refine pz_iload_n 3 F rfl dX4_divide_61 rfl ?_
    refine pz_if_le (tgt := 95) F dX4_divide_62 (by decide) (fun q_2 => ?_) (fun q_2 => ?_)
    · replace vc := vc.1 q_2
      exact pz_return (w1 := [(h0, .inr (3, [.ref hp, .ref hd, .int sz])), (hd, .inl (g.2.1 1, 8, .inl d1)), (h3, .inr (0, [.int h3_slices, .int h3_inside, .ref hpa, .ref h3_bidders, .ref h3_bidCoins, .int h3_bidCount, .int h3_seen, .int h3_spent])), (hpa, .inl (g.2.1 1, 8, .inl pa))]) F Rt (by decide) (by decide) dX4_divide_95 [0, 1, 2, 3] rfl rfl vc
    · replace vc := vc.2 q_2
      refine pz_aload_n 1 F rfl dX4_divide_65 rfl ?_
      refine pz_get (ci := 0) (C := RX0) (T := TX0) (N := 8) (v := .ref hpa) 2 F rfl rfl pz_inX0 2 (by decide) pw_446 rfl dX4_divide_66 ?_
      refine pz_iload 4 F rfl dX4_divide_69 ?_
      obtain ⟨h_3, vc⟩ := vc
      refine pz_iaload 3 F rfl h_3 dX4_divide_71 ?_
      refine pz_if_le (tgt := 89) F dX4_divide_72 (by decide) (fun q_4 => ?_) (fun q_4 => ?_)
      · replace vc := vc.1 q_4
        obtain ⟨x_5, ex_5⟩ : ∃ z : Int32, z = i + 1 := ⟨_, rfl⟩
        replace vc := vc x_5 ex_5
        refine pz_iinc (v := x_5) (lv' := [(4, .int x_5), (0, .ref h0), (1, .ref h3), (2, .int c), (3, .int ov)]) 4 F rfl dX4_divide_89 (by rw [ex_5]; rfl) (by decide) rfl ?_
        refine pz_goto (tgt := 52) F dX4_divide_92 (by decide) ?_
        exact pz_sub [1, 2, 3, 4, 0] [0, 1, 2, 3] rfl rfl rfl (hT52 ov x_5 d1 vc)
      · replace vc := vc.2 q_4
        refine pz_aload_n 0 F rfl dX4_divide_75 rfl ?_
        refine pz_get (ci := 3) (C := RX4) (T := TX4) (N := 3) (v := .ref hd) 0 F rfl rfl pz_inX4 1 (by decide) pw_166 rfl dX4_divide_76 ?_
        refine pz_iload 4 F rfl dX4_divide_79 ?_
        refine pz_dup2 F dX4_divide_81 rfl rfl ?_
        obtain ⟨h_6, vc⟩ := vc
        refine pz_iaload 1 F rfl h_6 dX4_divide_82 ?_
        refine pz_iconst (v := 1) F dX4_divide_83 rfl ?_
        refine pz_iadd F dX4_divide_84 ?_
        refine pz_topi (fun x_7 ex_7 => ?_)
        replace vc := vc x_7 ex_7
        obtain ⟨h_8, vc⟩ := vc
        obtain ⟨f_9, ef_9⟩ : ∃ z : Nat → Int32, z = upd d1 i.toNatClampNeg x_7 := ⟨_, rfl⟩
        replace vc := vc f_9 ef_9
        refine pz_iastore (ws' := [(h0, .inr (3, [.ref hp, .ref hd, .int sz])), (hd, .inl (g.2.1 1, 8, .inl f_9)), (h3, .inr (0, [.int h3_slices, .int h3_inside, .ref hpa, .ref h3_bidders, .ref h3_bidCoins, .int h3_bidCount, .int h3_seen, .int h3_spent])), (hpa, .inl (g.2.1 1, 8, .inl pa))]) F 1 rfl h_8 dX4_divide_85 (by rw [ef_9]; rfl) ?_
        obtain ⟨x_10, ex_10⟩ : ∃ z : Int32, z = ov + (-1) := ⟨_, rfl⟩
        replace vc := vc x_10 ex_10
        refine pz_iinc (v := x_10) (lv' := [(3, .int x_10), (0, .ref h0), (1, .ref h3), (2, .int c), (4, .int i)]) 3 F rfl dX4_divide_86 (by rw [ex_10]; rfl) (by decide) rfl ?_
        obtain ⟨x_11, ex_11⟩ : ∃ z : Int32, z = i + 1 := ⟨_, rfl⟩
        replace vc := vc x_11 ex_11
        refine pz_iinc (v := x_11) (lv' := [(4, .int x_11), (3, .int x_10), (0, .ref h0), (1, .ref h3), (2, .int c)]) 4 F rfl dX4_divide_89 (by rw [ex_11]; rfl) (by decide) rfl ?_
        refine pz_goto (tgt := 52) F dX4_divide_92 (by decide) ?_
        exact pz_sub [2, 3, 4, 1, 0] [0, 1, 2, 3] rfl rfl rfl (hT52 x_10 x_11 f_9 vc)
theorem lpX4_divide_52 {B : pz_B} {g : pz_G} {wc : va_W} {Post : Option Value → va_W → Prop} (F : pz_F B cX4_divide 5 none yX4_divide.cls g rmX4_divide) (Rt : pz_Rt B g wc Post rmX4_divide) (c : Int32) (h0 : Nat) (hp : Nat) (hd : Nat) (sz : Int32) (du : Nat → Int32) (h3 : Nat) (h3_slices : Int32) (h3_inside : Int32) (hpa : Nat) (h3_bidders : Nat) (h3_bidCoins : Nat) (h3_bidCount : Int32) (h3_seen : Int32) (h3_spent : Int32) (pa : Nat → Int32) (n : Nat) (Inv : Nat → Int32 → Int32 → (Nat → Int32) → Prop) (step : ∀ (mz : Nat) (ov : Int32) (i : Int32) (d1 : Nat → Int32), Inv mz ov i d1 → ∀ TT : Int32 → Int32 → (Nat → Int32) → Prop, TT = (fun ov i d1 => ∃ mz', mz' < mz ∧ Inv mz' ov i d1) → ((sz ≤ i → Post none [(h0, .inr (3, [.ref hp, .ref hd, .int sz])), (hd, .inl (g.2.1 1, 8, .inl d1)), (h3, .inr (0, [.int h3_slices, .int h3_inside, .ref hpa, .ref h3_bidders, .ref h3_bidCoins, .int h3_bidCount, .int h3_seen, .int h3_spent])), (hpa, .inl (g.2.1 1, 8, .inl pa))]) ∧ (¬ sz ≤ i → ((ov ≤ 0 → Post none [(h0, .inr (3, [.ref hp, .ref hd, .int sz])), (hd, .inl (g.2.1 1, 8, .inl d1)), (h3, .inr (0, [.int h3_slices, .int h3_inside, .ref hpa, .ref h3_bidders, .ref h3_bidCoins, .int h3_bidCount, .int h3_seen, .int h3_spent])), (hpa, .inl (g.2.1 1, 8, .inl pa))]) ∧ (¬ ov ≤ 0 → vp_in i 8 ∧ (((pa i.toNatClampNeg) ≤ 0 → ∀ x_5 : Int32, x_5 = i + 1 → TT ov x_5 d1) ∧ (¬ (pa i.toNatClampNeg) ≤ 0 → vp_in i 8 ∧ ∀ x_7 : Int32, x_7 = ((d1 i.toNatClampNeg) + 1) → vp_in i 8 ∧ ∀ f_9 : Nat → Int32, f_9 = upd d1 i.toNatClampNeg x_7 → ∀ x_10 : Int32, x_10 = ov + (-1) → ∀ x_11 : Int32, x_11 = i + 1 → TT x_10 x_11 f_9))))))) : ∀ (mz : Nat) (ov : Int32) (i : Int32) (d1 : Nat → Int32), Inv mz ov i d1 → paX4_divide_52 B g c h0 hp hd sz du h3 h3_slices h3_inside hpa h3_bidders h3_bidCoins h3_bidCount h3_seen h3_spent pa n ov i d1 := by
  intro mz
  induction mz using Nat.strongRecOn with
  | _ mz ih =>
    intro ov i d1 hI
    exact sgX4_divide_52 F Rt c h0 hp hd sz du h3 h3_slices h3_inside hpa h3_bidders h3_bidCoins h3_bidCount h3_seen h3_spent pa n (fun ov i d1 => ∃ mz', mz' < mz ∧ Inv mz' ov i d1) (fun ov i d1 ⟨mz', h1, h2⟩ => ih mz' h1 ov i d1 h2) ov i d1 (step mz ov i d1 hI _ rfl)
set_option maxHeartbeats 4000000 in
set_option maxRecDepth 100000 in
theorem ctX4_divide (l : Launch) (g : pz_G) (c : Int32) (h0 : Nat) (hp : Nat) (hd : Nat) (sz : Int32) (du : Nat → Int32) (h3 : Nat) (h3_slices : Int32) (h3_inside : Int32) (hpa : Nat) (h3_bidders : Nat) (h3_bidCoins : Nat) (h3_bidCount : Int32) (h3_seen : Int32) (h3_spent : Int32) (pa : Nat → Int32) (n : Nat) (hpre : n ≤ 8 ∧ sz = nI n) : pz_Ct l g yX4_divide cX4_divide 5 none rmX4_divide [.ref h0, .ref h3, .int c] [(h0, .inr (3, [.ref hp, .ref hd, .int sz])), (hd, .inl (g.2.1 1, 8, .inl du)), (h3, .inr (0, [.int h3_slices, .int h3_inside, .ref hpa, .ref h3_bidders, .ref h3_bidCoins, .int h3_bidCount, .int h3_seen, .int h3_spent])), (hpa, .inl (g.2.1 1, 8, .inl pa))] (pz_pv (fun (u : (Nat → Int32)) => ∀ a, a < n → u a = dv_f pa n c a) (fun (u : (Nat → Int32)) => [(h0, .inr (3, [.ref hp, .ref hd, .int sz])), (hd, .inl (g.2.1 1, 8, .inl u)), (h3, .inr (0, [.int h3_slices, .int h3_inside, .ref hpa, .ref h3_bidders, .ref h3_bidCoins, .int h3_bidCount, .int h3_seen, .int h3_spent])), (hpa, .inl (g.2.1 1, 8, .inl pa))])) := by
  refine pz_ofAt (by decide +kernel) (Nat.le_of_ble_eq_true rfl) (fun B F Rt hme => ?_)
  obtain ⟨hn, hs⟩ := hpre
  subst hs
  have h52 := lpX4_divide_52 F Rt c h0 hp hd (nI n) du h3 h3_slices h3_inside hpa h3_bidders h3_bidCoins h3_bidCount h3_seen h3_spent pa n (fun m ov i d => ∃ j, j + m = n ∧ i = nI j ∧ ov = dv_x pa (dv_o pa c n) j ∧ ∀ a, a < n → d a = if a < j then dv_f pa n c a else dv_q pa c a) (by
    rintro m ov i d ⟨j, hj, rfl, rfl, hd⟩ TT rfl
    refine ⟨fun q => ?_, fun q => ?_⟩
    · have hjn : j = n := by
        rcases Nat.lt_or_ge j n with h | h
        · exact absurd q (nI_ge h (by omega))
        · omega
      exact ⟨d, rfl, rfl, fun a ha => by rw [hd a ha, if_pos (by omega)]⟩
    · have hjn : j < n := by
        rcases Nat.lt_or_ge j n with h | h
        · exact h
        · exact absurd (nI_le h (by omega)) q
      have hin : vp_in (nI j) 8 := vp_in_nI (by omega) (by omega)
      have hcl : (nI j).toNatClampNeg = j := nI_clamp (by omega)
      refine ⟨fun q2 => ?_, fun q2 => ⟨hin, ⟨fun q3 => ?_, fun q3 => ?_⟩⟩⟩
      · refine ⟨d, rfl, rfl, fun a ha => ?_⟩
        rw [hd a ha]
        by_cases haj : a < j
        · rw [if_pos haj]
        · rw [if_neg haj]
          have hx : ∀ b, j ≤ b → dv_x pa (dv_o pa c n) b = dv_x pa (dv_o pa c n) j := by
            intro b hb
            induction b with
            | zero => rw [show j = 0 by omega]
            | succ b ih =>
              rcases Nat.lt_or_ge b j with h | h
              · rw [show j = b + 1 by omega]
              · rw [dv_x, ih h, if_neg (fun h => absurd h.1 (Int32.not_lt.mpr q2))]
          unfold dv_f
          rw [hx a (by omega), if_neg (fun h => absurd h.1 (Int32.not_lt.mpr q2))]
      · rintro x rfl
        refine ⟨m - 1, by omega, j + 1, by omega, nI_1 j, ?_, fun a ha => ?_⟩
        · rw [dv_x, if_neg (fun h => absurd h.2 (Int32.not_lt.mpr (by rw [hcl] at q3; exact q3)))]
        · rw [hd a ha]
          by_cases haj : a < j
          · rw [if_pos haj, if_pos (by omega)]
          · rw [if_neg haj]
            by_cases hj2 : a = j
            · rw [if_pos (by omega), hj2, dv_f, if_neg (fun h => absurd h.2 (Int32.not_lt.mpr (by rw [hcl] at q3; exact q3)))]
            · rw [if_neg (by omega)]
      · refine ⟨hin, ?_⟩
        rintro x rfl
        refine ⟨hin, ?_⟩
        rintro f rfl y rfl z rfl
        rw [hcl] at q3 ⊢
        have hc : 0 < dv_x pa (dv_o pa c n) j ∧ 0 < pa j := ⟨Int32.not_le.mp q2, Int32.not_le.mp q3⟩
        refine ⟨m - 1, by omega, j + 1, by omega, nI_1 j, ?_, fun a ha => ?_⟩
        · rw [dv_x, if_pos hc]
        · by_cases hj2 : a = j
          · rw [hj2, pk_us, if_pos (by omega), hd j hjn, if_neg (by omega), dv_f, if_pos hc]
          · rw [pk_un hj2, hd a ha]
            by_cases haj : a < j
            · rw [if_pos haj, if_pos (by omega)]
            · rw [if_neg haj, if_neg (by omega)])
  have h5 := lpX4_divide_5 F Rt c h0 hp hd (nI n) du h3 h3_slices h3_inside hpa h3_bidders h3_bidCoins h3_bidCount h3_seen h3_spent pa n (fun ov i d => ∃ j m, j + m = n ∧ i = nI j ∧ ov = dv_x pa (dv_o pa c n) j ∧ ∀ a, a < n → d a = if a < j then dv_f pa n c a else dv_q pa c a) (fun ov i d ⟨j, m, h⟩ => h52 m ov i d ⟨j, h⟩) (fun m ov i d => ∃ j, j + m = n ∧ i = nI j ∧ ov = dv_o pa c j ∧ ∀ a, a < j → d a = dv_q pa c a) (by
    rintro m ov i d ⟨j, hj, rfl, rfl, hd⟩ TT rfl
    refine ⟨fun q => ?_, fun q => ?_⟩
    · have hjn : j = n := by
        rcases Nat.lt_or_ge j n with h | h
        · exact absurd q (nI_ge h (by omega))
        · omega
      exact ⟨0, n, by omega, nI_0.symm, by rw [hjn]; rfl, fun a ha => by rw [if_neg (by omega)]; exact hd a (by omega)⟩
    · have hjn : j < n := by
        rcases Nat.lt_or_ge j n with h | h
        · exact h
        · exact absurd (nI_le h (by omega)) q
      have hin : vp_in (nI j) 8 := vp_in_nI (by omega) (by omega)
      have hcl : (nI j).toNatClampNeg = j := nI_clamp (by omega)
      refine ⟨hin, ?_⟩
      rintro x rfl
      refine ⟨hin, ?_⟩
      rintro f rfl
      refine ⟨hin, ?_⟩
      rintro y rfl z rfl
      rw [hcl]
      refine ⟨m - 1, by omega, j + 1, by omega, nI_1 j, by rw [pk_us]; rfl, fun a ha => ?_⟩
      by_cases hj2 : a = j
      · rw [hj2, pk_us]; rfl
      · rw [pk_un hj2]; exact hd a (by omega))
  exact sgX4_divide_0 F Rt c h0 hp hd (nI n) du h3 h3_slices h3_inside hpa h3_bidders h3_bidCoins h3_bidCount h3_seen h3_spent pa n _ (fun ov i d => h5 n ov i d) ⟨0, by omega, nI_0.symm, rfl, fun a ha => absurd ha (by omega)⟩
abbrev rmJ7_fill_53178 : Room := { frames := 0, cells := 0, slots := 0, locals := 0 }
abbrev paJ7_fill_53178_5 (B : pz_B) (g : pz_G) (h0 : Nat) (v : Int32) (N : Nat) (f : Nat → Int32) (i : Int32) (ln : Int32) (f1 : Nat → Int32) : Prop := pz_At B 0 0 5 [(0, .ref h0), (1, .int v), (2, .int i), (3, .int ln)] [] [(h0, .inl (g.2.1 1, N, .inl f1))]
set_option maxHeartbeats 4000000 in
set_option maxRecDepth 100000 in
theorem sgJ7_fill_53178_0 {B : pz_B} {g : pz_G} {wc : va_W} {Post : Option Value → va_W → Prop} (F : pz_F B cJ7_fill_53178 4 none yJ7_fill_53178.cls g rmJ7_fill_53178) (Rt : pz_Rt B g wc Post rmJ7_fill_53178) (h0 : Nat) (v : Int32) (N : Nat) (f : Nat → Int32) (T5 : Int32 → Int32 → (Nat → Int32) → Prop) (hT5 : ∀ (i : Int32) (ln : Int32) (f1 : Nat → Int32), T5 i ln f1 → paJ7_fill_53178_5 B g h0 v N f i ln f1)  (vc : T5 0 (nI N) f) : pz_At B 0 0 0 [(0, .ref h0), (1, .int v)] [] [(h0, .inl (g.2.1 1, N, .inl f))] := by
  refine pz_iconst (v := 0) F dJ7_fill_53178_0 rfl ?_
  refine pz_istore_n (lv' := [(2, .int 0), (0, .ref h0), (1, .int v)]) F dJ7_fill_53178_1 rfl (by decide) rfl ?_
  refine pz_aload_n 1 F rfl dJ7_fill_53178_2 rfl ?_
  refine pz_alen (t := 1) (v := (nI N)) 0 F rfl rfl rfl dJ7_fill_53178_3 ?_
  refine pz_istore_n (lv' := [(3, .int (nI N)), (2, .int 0), (0, .ref h0), (1, .int v)]) F dJ7_fill_53178_4 rfl (by decide) rfl ?_
  exact pz_sub [2, 3, 1, 0] [0] rfl rfl rfl (hT5 0 (nI N) f vc)
set_option maxHeartbeats 4000000 in
set_option maxRecDepth 100000 in
theorem sgJ7_fill_53178_5 {B : pz_B} {g : pz_G} {wc : va_W} {Post : Option Value → va_W → Prop} (F : pz_F B cJ7_fill_53178 4 none yJ7_fill_53178.cls g rmJ7_fill_53178) (Rt : pz_Rt B g wc Post rmJ7_fill_53178) (h0 : Nat) (v : Int32) (N : Nat) (f : Nat → Int32) (T5 : Int32 → Int32 → (Nat → Int32) → Prop) (hT5 : ∀ (i : Int32) (ln : Int32) (f1 : Nat → Int32), T5 i ln f1 → paJ7_fill_53178_5 B g h0 v N f i ln f1) (i : Int32) (ln : Int32) (f1 : Nat → Int32) (vc : ((ln ≤ i → Post none [(h0, .inl (g.2.1 1, N, .inl f1))]) ∧ (¬ ln ≤ i → vp_in i N ∧ ∀ f_3 : Nat → Int32, f_3 = upd f1 i.toNatClampNeg v → ∀ x_4 : Int32, x_4 = i + 1 → T5 x_4 ln f_3))) : pz_At B 0 0 5 [(0, .ref h0), (1, .int v), (2, .int i), (3, .int ln)] [] [(h0, .inl (g.2.1 1, N, .inl f1))] := by
  refine pz_iload_n 2 F rfl dJ7_fill_53178_5 rfl ?_
  refine pz_iload_n 3 F rfl dJ7_fill_53178_6 rfl ?_
  refine pz_icmp_ge (tgt := 20) F dJ7_fill_53178_7 (by decide) (fun q_1 => ?_) (fun q_1 => ?_)
  · replace vc := vc.1 q_1
    exact pz_return (w1 := [(h0, .inl (g.2.1 1, N, .inl f1))]) F Rt (by decide) (by decide) dJ7_fill_53178_20 [0] rfl rfl vc
  · replace vc := vc.2 q_1
    refine pz_aload_n 0 F rfl dJ7_fill_53178_10 rfl ?_
    refine pz_iload_n 2 F rfl dJ7_fill_53178_11 rfl ?_
    refine pz_iload_n 1 F rfl dJ7_fill_53178_12 rfl ?_
    obtain ⟨h_2, vc⟩ := vc
    obtain ⟨f_3, ef_3⟩ : ∃ z : Nat → Int32, z = upd f1 i.toNatClampNeg v := ⟨_, rfl⟩
    replace vc := vc f_3 ef_3
    refine pz_iastore (ws' := [(h0, .inl (g.2.1 1, N, .inl f_3))]) F 0 rfl h_2 dJ7_fill_53178_13 (by rw [ef_3]; rfl) ?_
    obtain ⟨x_4, ex_4⟩ : ∃ z : Int32, z = i + 1 := ⟨_, rfl⟩
    replace vc := vc x_4 ex_4
    refine pz_iinc (v := x_4) (lv' := [(2, .int x_4), (0, .ref h0), (1, .int v), (3, .int ln)]) 2 F rfl dJ7_fill_53178_14 (by rw [ex_4]; rfl) (by decide) rfl ?_
    refine pz_goto (tgt := 5) F dJ7_fill_53178_17 (by decide) ?_
    exact pz_sub [1, 2, 0, 3] [0] rfl rfl rfl (hT5 x_4 ln f_3 vc)
theorem lpJ7_fill_53178_5 {B : pz_B} {g : pz_G} {wc : va_W} {Post : Option Value → va_W → Prop} (F : pz_F B cJ7_fill_53178 4 none yJ7_fill_53178.cls g rmJ7_fill_53178) (Rt : pz_Rt B g wc Post rmJ7_fill_53178) (h0 : Nat) (v : Int32) (N : Nat) (f : Nat → Int32) (Inv : Nat → Int32 → Int32 → (Nat → Int32) → Prop) (step : ∀ (mz : Nat) (i : Int32) (ln : Int32) (f1 : Nat → Int32), Inv mz i ln f1 → ∀ TT : Int32 → Int32 → (Nat → Int32) → Prop, TT = (fun i ln f1 => ∃ mz', mz' < mz ∧ Inv mz' i ln f1) → ((ln ≤ i → Post none [(h0, .inl (g.2.1 1, N, .inl f1))]) ∧ (¬ ln ≤ i → vp_in i N ∧ ∀ f_3 : Nat → Int32, f_3 = upd f1 i.toNatClampNeg v → ∀ x_4 : Int32, x_4 = i + 1 → TT x_4 ln f_3))) : ∀ (mz : Nat) (i : Int32) (ln : Int32) (f1 : Nat → Int32), Inv mz i ln f1 → paJ7_fill_53178_5 B g h0 v N f i ln f1 := by
  intro mz
  induction mz using Nat.strongRecOn with
  | _ mz ih =>
    intro i ln f1 hI
    exact sgJ7_fill_53178_5 F Rt h0 v N f (fun i ln f1 => ∃ mz', mz' < mz ∧ Inv mz' i ln f1) (fun i ln f1 ⟨mz', h1, h2⟩ => ih mz' h1 i ln f1 h2) i ln f1 (step mz i ln f1 hI _ rfl)
set_option maxHeartbeats 4000000 in
set_option maxRecDepth 100000 in
theorem ctJ7_fill_53178 (l : Launch) (g : pz_G) (h0 : Nat) (v : Int32) (N : Nat) (f : Nat → Int32) (hpre : N < 2 ^ 31) : pz_Ct l g yJ7_fill_53178 cJ7_fill_53178 4 none rmJ7_fill_53178 [.ref h0, .int v] [(h0, .inl (g.2.1 1, N, .inl f))] (pz_pv (fun (u : (Nat → Int32)) => ∀ a, a < N → u a = v) (fun (u : (Nat → Int32)) => [(h0, .inl (g.2.1 1, N, .inl u))])) := by
  refine pz_ofAt (by decide +kernel) (Nat.le_of_ble_eq_true rfl) (fun B F Rt hme => ?_)
  obtain ⟨hN, hm⟩ := (show N < 2 ^ 31 ∧ True from ⟨hpre, trivial⟩)
  have h := lpJ7_fill_53178_5 F Rt h0 v N f (fun m i ln f1 => ∃ j, j + m = N ∧ i = nI j ∧ ln = nI N ∧ ∀ a, a < j → f1 a = v) (by
    rintro m i ln f1 ⟨j, hj, rfl, rfl, hf⟩ TT rfl
    refine ⟨fun q => ?_, fun q => ?_⟩
    · have h1 := pu_ge hN q
      exact ⟨f1, rfl, rfl, fun a ha => hf a (by omega)⟩
    · have h1 := pu_lt (by omega) hN q
      refine ⟨vp_in_nI h1 hN, ?_⟩
      rintro f rfl x rfl
      refine ⟨m - 1, by omega, j + 1, by omega, nI_1 j, rfl, fun a ha => ?_⟩
      rw [nI_clamp (by omega)]
      by_cases hj2 : a = j
      · rw [hj2, pk_us]
      · rw [pk_un hj2]; exact hf a (by omega))
  refine sgJ7_fill_53178_0 F Rt h0 v N f _ (fun i ln f1 => h N i ln f1) ?_
  exact ⟨0, by omega, nI_0.symm, rfl, fun a ha => absurd ha (by omega)⟩
abbrev rmJ7_fill_d0a16 : Room := { frames := 0, cells := 0, slots := 0, locals := 0 }
abbrev paJ7_fill_d0a16_6 (B : pz_B) (g : pz_G) (h0 : Nat) (v : Int64) (N : Nat) (f : Nat → Int64) (i : Int32) (ln : Int32) (f1 : Nat → Int64) : Prop := pz_At B 0 0 6 [(0, .ref h0), (1, .long v), (3, .int i), (4, .int ln)] [] [(h0, .inl (g.2.1 2, N, .inr (.inl f1)))]
set_option maxHeartbeats 4000000 in
set_option maxRecDepth 100000 in
theorem sgJ7_fill_d0a16_0 {B : pz_B} {g : pz_G} {wc : va_W} {Post : Option Value → va_W → Prop} (F : pz_F B cJ7_fill_d0a16 5 none yJ7_fill_d0a16.cls g rmJ7_fill_d0a16) (Rt : pz_Rt B g wc Post rmJ7_fill_d0a16) (h0 : Nat) (v : Int64) (N : Nat) (f : Nat → Int64) (T6 : Int32 → Int32 → (Nat → Int64) → Prop) (hT6 : ∀ (i : Int32) (ln : Int32) (f1 : Nat → Int64), T6 i ln f1 → paJ7_fill_d0a16_6 B g h0 v N f i ln f1)  (vc : T6 0 (nI N) f) : pz_At B 0 0 0 [(0, .ref h0), (1, .long v)] [] [(h0, .inl (g.2.1 2, N, .inr (.inl f)))] := by
  refine pz_iconst (v := 0) F dJ7_fill_d0a16_0 rfl ?_
  refine pz_istore_n (lv' := [(3, .int 0), (0, .ref h0), (1, .long v)]) F dJ7_fill_d0a16_1 rfl (by decide) rfl ?_
  refine pz_aload_n 1 F rfl dJ7_fill_d0a16_2 rfl ?_
  refine pz_alen (t := 2) (v := (nI N)) 0 F rfl rfl rfl dJ7_fill_d0a16_3 ?_
  refine pz_istore (lv' := [(4, .int (nI N)), (3, .int 0), (0, .ref h0), (1, .long v)]) F dJ7_fill_d0a16_4 (by decide) rfl ?_
  exact pz_sub [2, 3, 1, 0] [0] rfl rfl rfl (hT6 0 (nI N) f vc)
set_option maxHeartbeats 4000000 in
set_option maxRecDepth 100000 in
theorem sgJ7_fill_d0a16_6 {B : pz_B} {g : pz_G} {wc : va_W} {Post : Option Value → va_W → Prop} (F : pz_F B cJ7_fill_d0a16 5 none yJ7_fill_d0a16.cls g rmJ7_fill_d0a16) (Rt : pz_Rt B g wc Post rmJ7_fill_d0a16) (h0 : Nat) (v : Int64) (N : Nat) (f : Nat → Int64) (T6 : Int32 → Int32 → (Nat → Int64) → Prop) (hT6 : ∀ (i : Int32) (ln : Int32) (f1 : Nat → Int64), T6 i ln f1 → paJ7_fill_d0a16_6 B g h0 v N f i ln f1) (i : Int32) (ln : Int32) (f1 : Nat → Int64) (vc : ((ln ≤ i → Post none [(h0, .inl (g.2.1 2, N, .inr (.inl f1)))]) ∧ (¬ ln ≤ i → vp_in i N ∧ ∀ f_3 : Nat → Int64, f_3 = vp_updL f1 i.toNatClampNeg v → ∀ x_4 : Int32, x_4 = i + 1 → T6 x_4 ln f_3))) : pz_At B 0 0 6 [(0, .ref h0), (1, .long v), (3, .int i), (4, .int ln)] [] [(h0, .inl (g.2.1 2, N, .inr (.inl f1)))] := by
  refine pz_iload_n 2 F rfl dJ7_fill_d0a16_6 rfl ?_
  refine pz_iload 3 F rfl dJ7_fill_d0a16_7 ?_
  refine pz_icmp_ge (tgt := 22) F dJ7_fill_d0a16_9 (by decide) (fun q_1 => ?_) (fun q_1 => ?_)
  · replace vc := vc.1 q_1
    exact pz_return (w1 := [(h0, .inl (g.2.1 2, N, .inr (.inl f1)))]) F Rt (by decide) (by decide) dJ7_fill_d0a16_22 [0] rfl rfl vc
  · replace vc := vc.2 q_1
    refine pz_aload_n 0 F rfl dJ7_fill_d0a16_12 rfl ?_
    refine pz_iload_n 2 F rfl dJ7_fill_d0a16_13 rfl ?_
    refine pz_lload_n 1 F rfl dJ7_fill_d0a16_14 rfl ?_
    obtain ⟨h_2, vc⟩ := vc
    obtain ⟨f_3, ef_3⟩ : ∃ z : Nat → Int64, z = vp_updL f1 i.toNatClampNeg v := ⟨_, rfl⟩
    replace vc := vc f_3 ef_3
    refine pz_lastore (ws' := [(h0, .inl (g.2.1 2, N, .inr (.inl f_3)))]) F 0 rfl h_2 dJ7_fill_d0a16_15 (by rw [ef_3]; rfl) ?_
    obtain ⟨x_4, ex_4⟩ : ∃ z : Int32, z = i + 1 := ⟨_, rfl⟩
    replace vc := vc x_4 ex_4
    refine pz_iinc (v := x_4) (lv' := [(3, .int x_4), (0, .ref h0), (1, .long v), (4, .int ln)]) 2 F rfl dJ7_fill_d0a16_16 (by rw [ex_4]; rfl) (by decide) rfl ?_
    refine pz_goto (tgt := 6) F dJ7_fill_d0a16_19 (by decide) ?_
    exact pz_sub [1, 2, 0, 3] [0] rfl rfl rfl (hT6 x_4 ln f_3 vc)
theorem lpJ7_fill_d0a16_6 {B : pz_B} {g : pz_G} {wc : va_W} {Post : Option Value → va_W → Prop} (F : pz_F B cJ7_fill_d0a16 5 none yJ7_fill_d0a16.cls g rmJ7_fill_d0a16) (Rt : pz_Rt B g wc Post rmJ7_fill_d0a16) (h0 : Nat) (v : Int64) (N : Nat) (f : Nat → Int64) (Inv : Nat → Int32 → Int32 → (Nat → Int64) → Prop) (step : ∀ (mz : Nat) (i : Int32) (ln : Int32) (f1 : Nat → Int64), Inv mz i ln f1 → ∀ TT : Int32 → Int32 → (Nat → Int64) → Prop, TT = (fun i ln f1 => ∃ mz', mz' < mz ∧ Inv mz' i ln f1) → ((ln ≤ i → Post none [(h0, .inl (g.2.1 2, N, .inr (.inl f1)))]) ∧ (¬ ln ≤ i → vp_in i N ∧ ∀ f_3 : Nat → Int64, f_3 = vp_updL f1 i.toNatClampNeg v → ∀ x_4 : Int32, x_4 = i + 1 → TT x_4 ln f_3))) : ∀ (mz : Nat) (i : Int32) (ln : Int32) (f1 : Nat → Int64), Inv mz i ln f1 → paJ7_fill_d0a16_6 B g h0 v N f i ln f1 := by
  intro mz
  induction mz using Nat.strongRecOn with
  | _ mz ih =>
    intro i ln f1 hI
    exact sgJ7_fill_d0a16_6 F Rt h0 v N f (fun i ln f1 => ∃ mz', mz' < mz ∧ Inv mz' i ln f1) (fun i ln f1 ⟨mz', h1, h2⟩ => ih mz' h1 i ln f1 h2) i ln f1 (step mz i ln f1 hI _ rfl)
set_option maxHeartbeats 4000000 in
set_option maxRecDepth 100000 in
theorem ctJ7_fill_d0a16 (l : Launch) (g : pz_G) (h0 : Nat) (v : Int64) (N : Nat) (f : Nat → Int64) (hpre : N < 2 ^ 31) : pz_Ct l g yJ7_fill_d0a16 cJ7_fill_d0a16 5 none rmJ7_fill_d0a16 [.ref h0, .long v] [(h0, .inl (g.2.1 2, N, .inr (.inl f)))] (pz_pv (fun (u : (Nat → Int64)) => ∀ a, a < N → u a = v) (fun (u : (Nat → Int64)) => [(h0, .inl (g.2.1 2, N, .inr (.inl u)))])) := by
  refine pz_ofAt (by decide +kernel) (Nat.le_of_ble_eq_true rfl) (fun B F Rt hme => ?_)
  obtain ⟨hN, hm⟩ := (show N < 2 ^ 31 ∧ True from ⟨hpre, trivial⟩)
  have h := lpJ7_fill_d0a16_6 F Rt h0 v N f (fun m i ln f1 => ∃ j, j + m = N ∧ i = nI j ∧ ln = nI N ∧ ∀ a, a < j → f1 a = v) (by
    rintro m i ln f1 ⟨j, hj, rfl, rfl, hf⟩ TT rfl
    refine ⟨fun q => ?_, fun q => ?_⟩
    · have h1 := pu_ge hN q
      exact ⟨f1, rfl, rfl, fun a ha => hf a (by omega)⟩
    · have h1 := pu_lt (by omega) hN q
      refine ⟨vp_in_nI h1 hN, ?_⟩
      rintro f rfl x rfl
      refine ⟨m - 1, by omega, j + 1, by omega, nI_1 j, rfl, fun a ha => ?_⟩
      rw [nI_clamp (by omega)]
      by_cases hj2 : a = j
      · rw [hj2, pk_uLs]
      · rw [pk_uLn hj2]; exact hf a (by omega))
  refine sgJ7_fill_d0a16_0 F Rt h0 v N f _ (fun i ln f1 => h N i ln f1) ?_
  exact ⟨0, by omega, nI_0.symm, rfl, fun a ha => absurd ha (by omega)⟩
abbrev rmX0_gradeInside : Room := { frames := 0, cells := 0, slots := 0, locals := 0 }
set_option maxHeartbeats 4000000 in
set_option maxRecDepth 100000 in
theorem sgX0_gradeInside_0 {B : pz_B} {g : pz_G} {wc : va_W} {Post : Option Value → va_W → Prop} (F : pz_F B cX0_gradeInside 2 (some .int) yX0_gradeInside.cls g rmX0_gradeInside) (Rt : pz_Rt B g wc Post rmX0_gradeInside) (ins : Int32) (s : Int32)  (vc : ∀ x_1 : Int32, x_1 = ((ins >>> ((2 * s) &&& 31)) &&& 3) → Post (some (.int x_1)) []) : pz_At B 0 0 0 [(0, .int ins), (1, .int s)] [] [] := by
  refine pz_iload_n 0 F rfl dX0_gradeInside_0 rfl ?_
  refine pz_iconst (v := 2) F dX0_gradeInside_1 rfl ?_
  refine pz_iload_n 1 F rfl dX0_gradeInside_2 rfl ?_
  refine pz_imul F dX0_gradeInside_3 ?_
  refine pz_ishr F dX0_gradeInside_4 ?_
  refine pz_iconst (v := 3) F dX0_gradeInside_5 rfl ?_
  refine pz_iand F dX0_gradeInside_6 ?_
  refine pz_topi (fun x_1 ex_1 => ?_)
  replace vc := vc x_1 ex_1
  exact pz_ireturn (w1 := []) F Rt (by decide) (by decide) dX0_gradeInside_7 [] rfl rfl rfl vc
set_option maxHeartbeats 4000000 in
set_option maxRecDepth 100000 in
theorem ctX0_gradeInside (l : Launch) (g : pz_G) (ins : Int32) (s : Int32) : pz_Ct l g yX0_gradeInside cX0_gradeInside 2 (some .int) rmX0_gradeInside [.int ins, .int s] [] (pz_pi (fun (r : Int32) (u : Unit) => r = pu_gi ins s) (fun (u : Unit) => [])) := by
  refine pz_ofAt (by decide +kernel) (Nat.le_of_ble_eq_true rfl) (fun B F Rt hme => ?_)
  refine sgX0_gradeInside_0 F Rt ins s ?_
  clear F Rt hme
  repeat' (first | apply And.intro | intro _)
  all_goals (try subst_vars)
  all_goals (first | exact ⟨_, (), rfl, rfl, rfl⟩ | exact ⟨_, (), rfl, rfl, by simp only [*, pu_gi, reduceIte, and_self, and_true, true_and, not_false_eq_true]⟩)
abbrev rmX0_gradeOf : Room := { frames := 1, cells := 0, slots := 0, locals := 21 }
set_option maxHeartbeats 4000000 in
set_option maxRecDepth 100000 in
theorem sgX0_gradeOf_0 {B : pz_B} {g : pz_G} {wc : va_W} {Post : Option Value → va_W → Prop} (F : pz_F B cX0_gradeOf 2 (some .int) yX0_gradeOf.cls g rmX0_gradeOf) (Rt : pz_Rt B g wc Post rmX0_gradeOf) (h0 : Nat) (s : Int32) (h0_slices : Int32) (h0_inside : Int32) (h0_parts : Nat) (h0_bidders : Nat) (h0_bidCoins : Nat) (h0_bidCount : Int32) (h0_seen : Int32) (h0_spent : Int32)  (vc : ∀ r_1 : Int32, ∀ _ : (r_1 = pu_gi h0_inside s), Post (some (.int r_1)) [(h0, .inr (0, [.int h0_slices, .int h0_inside, .ref h0_parts, .ref h0_bidders, .ref h0_bidCoins, .int h0_bidCount, .int h0_seen, .int h0_spent]))]) : pz_At B 0 0 0 [(0, .ref h0), (1, .int s)] [] [(h0, .inr (0, [.int h0_slices, .int h0_inside, .ref h0_parts, .ref h0_bidders, .ref h0_bidCoins, .int h0_bidCount, .int h0_seen, .int h0_spent]))] := by
  refine pz_aload_n 0 F rfl dX0_gradeOf_0 rfl ?_
  refine pz_get (ci := 0) (C := RX0) (T := TX0) (N := 8) (v := .int h0_inside) 0 F rfl rfl pz_inX0 1 (by decide) pw_443 rfl dX0_gradeOf_1 ?_
  refine pz_iload_n 1 F rfl dX0_gradeOf_4 rfl ?_
  refine pz_callS (nA := 2) (As := [.int h0_inside, .int s]) (rest := []) (wr := [(h0, .inr (0, [.int h0_slices, .int h0_inside, .ref h0_parts, .ref h0_bidders, .ref h0_bidCoins, .int h0_bidCount, .int h0_seen, .int h0_spent]))]) F (ctX0_gradeInside _ g h0_inside s) pw_602 pw_434 pw_17 pw_435 (by decide +kernel) (by decide) (by decide) rfl rfl (Nat.le_of_ble_eq_true rfl) [] [0] rfl rfl rfl rfl (by decide) dX0_gradeOf_5 (fun r0 w0 hp0 => ?_)
  obtain ⟨r_1, _, rfl, rfl, hq_2⟩ := hp0
  replace vc := vc r_1  hq_2
  refine pz_eq (st' := [.int r_1]) (ws' := [(h0, .inr (0, [.int h0_slices, .int h0_inside, .ref h0_parts, .ref h0_bidders, .ref h0_bidCoins, .int h0_bidCount, .int h0_seen, .int h0_spent]))]) rfl rfl ?_
  exact pz_ireturn (w1 := [(h0, .inr (0, [.int h0_slices, .int h0_inside, .ref h0_parts, .ref h0_bidders, .ref h0_bidCoins, .int h0_bidCount, .int h0_seen, .int h0_spent]))]) F Rt (by decide) (by decide) dX0_gradeOf_8 [0] rfl rfl rfl vc
set_option maxHeartbeats 4000000 in
set_option maxRecDepth 100000 in
theorem ctX0_gradeOf (l : Launch) (g : pz_G) (h0 : Nat) (s : Int32) (h0_slices : Int32) (h0_inside : Int32) (h0_parts : Nat) (h0_bidders : Nat) (h0_bidCoins : Nat) (h0_bidCount : Int32) (h0_seen : Int32) (h0_spent : Int32) : pz_Ct l g yX0_gradeOf cX0_gradeOf 2 (some .int) rmX0_gradeOf [.ref h0, .int s] [(h0, .inr (0, [.int h0_slices, .int h0_inside, .ref h0_parts, .ref h0_bidders, .ref h0_bidCoins, .int h0_bidCount, .int h0_seen, .int h0_spent]))] (pz_pi (fun (r : Int32) (u : Unit) => r = pu_gi h0_inside s) (fun (u : Unit) => [(h0, .inr (0, [.int h0_slices, .int h0_inside, .ref h0_parts, .ref h0_bidders, .ref h0_bidCoins, .int h0_bidCount, .int h0_seen, .int h0_spent]))])) := by
  refine pz_ofAt (by decide +kernel) (Nat.le_of_ble_eq_true rfl) (fun B F Rt hme => ?_)
  refine sgX0_gradeOf_0 F Rt h0 s h0_slices h0_inside h0_parts h0_bidders h0_bidCoins h0_bidCount h0_seen h0_spent ?_
  clear F Rt hme
  repeat' (first | apply And.intro | intro _)
  all_goals (try subst_vars)
  all_goals (first | exact ⟨_, (), rfl, rfl, rfl⟩ | exact ⟨_, (), rfl, rfl, by simp only [*, reduceIte, and_self, and_true, true_and, not_false_eq_true]⟩)
abbrev rmX0_left : Room := { frames := 0, cells := 0, slots := 0, locals := 0 }
set_option maxHeartbeats 4000000 in
set_option maxRecDepth 100000 in
theorem sgX0_left_0 {B : pz_B} {g : pz_G} {wc : va_W} {Post : Option Value → va_W → Prop} (F : pz_F B cX0_left 1 (some .int) yX0_left.cls g rmX0_left) (Rt : pz_Rt B g wc Post rmX0_left) (h0 : Nat) (h0_slices : Int32) (h0_inside : Int32) (h0_parts : Nat) (h0_bidders : Nat) (h0_bidCoins : Nat) (h0_bidCount : Int32) (h0_seen : Int32) (h0_spent : Int32)  (vc : ∀ x_1 : Int32, x_1 = (h0_slices - h0_seen) → Post (some (.int x_1)) [(h0, .inr (0, [.int h0_slices, .int h0_inside, .ref h0_parts, .ref h0_bidders, .ref h0_bidCoins, .int h0_bidCount, .int h0_seen, .int h0_spent]))]) : pz_At B 0 0 0 [(0, .ref h0)] [] [(h0, .inr (0, [.int h0_slices, .int h0_inside, .ref h0_parts, .ref h0_bidders, .ref h0_bidCoins, .int h0_bidCount, .int h0_seen, .int h0_spent]))] := by
  refine pz_aload_n 0 F rfl dX0_left_0 rfl ?_
  refine pz_get (ci := 0) (C := RX0) (T := TX0) (N := 8) (v := .int h0_slices) 0 F rfl rfl pz_inX0 0 (by decide) pw_441 rfl dX0_left_1 ?_
  refine pz_aload_n 0 F rfl dX0_left_4 rfl ?_
  refine pz_get (ci := 0) (C := RX0) (T := TX0) (N := 8) (v := .int h0_seen) 0 F rfl rfl pz_inX0 6 (by decide) pw_455 rfl dX0_left_5 ?_
  refine pz_isub F dX0_left_8 ?_
  refine pz_topi (fun x_1 ex_1 => ?_)
  replace vc := vc x_1 ex_1
  exact pz_ireturn (w1 := [(h0, .inr (0, [.int h0_slices, .int h0_inside, .ref h0_parts, .ref h0_bidders, .ref h0_bidCoins, .int h0_bidCount, .int h0_seen, .int h0_spent]))]) F Rt (by decide) (by decide) dX0_left_9 [0] rfl rfl rfl vc
set_option maxHeartbeats 4000000 in
set_option maxRecDepth 100000 in
theorem ctX0_left (l : Launch) (g : pz_G) (h0 : Nat) (h0_slices : Int32) (h0_inside : Int32) (h0_parts : Nat) (h0_bidders : Nat) (h0_bidCoins : Nat) (h0_bidCount : Int32) (h0_seen : Int32) (h0_spent : Int32) : pz_Ct l g yX0_left cX0_left 1 (some .int) rmX0_left [.ref h0] [(h0, .inr (0, [.int h0_slices, .int h0_inside, .ref h0_parts, .ref h0_bidders, .ref h0_bidCoins, .int h0_bidCount, .int h0_seen, .int h0_spent]))] (pz_pi (fun (r : Int32) (u : Unit) => r = h0_slices - h0_seen) (fun (u : Unit) => [(h0, .inr (0, [.int h0_slices, .int h0_inside, .ref h0_parts, .ref h0_bidders, .ref h0_bidCoins, .int h0_bidCount, .int h0_seen, .int h0_spent]))])) := by
  refine pz_ofAt (by decide +kernel) (Nat.le_of_ble_eq_true rfl) (fun B F Rt hme => ?_)
  refine sgX0_left_0 F Rt h0 h0_slices h0_inside h0_parts h0_bidders h0_bidCoins h0_bidCount h0_seen h0_spent ?_
  clear F Rt hme
  repeat' (first | apply And.intro | intro _)
  all_goals (try subst_vars)
  all_goals (first | exact ⟨_, (), rfl, rfl, rfl⟩ | exact ⟨_, (), rfl, rfl, by simp only [*, reduceIte, and_self, and_true, true_and, not_false_eq_true]⟩)
abbrev rmX0_lastSeen : Room := { frames := 2, cells := 0, slots := 0, locals := 42 }
set_option maxHeartbeats 4000000 in
set_option maxRecDepth 100000 in
theorem sgX0_lastSeen_0 {B : pz_B} {g : pz_G} {wc : va_W} {Post : Option Value → va_W → Prop} (F : pz_F B cX0_lastSeen 1 (some .int) yX0_lastSeen.cls g rmX0_lastSeen) (Rt : pz_Rt B g wc Post rmX0_lastSeen) (h0 : Nat) (h0_slices : Int32) (h0_inside : Int32) (h0_parts : Nat) (h0_bidders : Nat) (h0_bidCoins : Nat) (h0_bidCount : Int32) (h0_seen : Int32) (h0_spent : Int32)  (vc : ((¬ h0_seen = 0 → ∀ r_2 : Int32, ∀ _ : (r_2 = pu_gi h0_inside (h0_seen - 1)), Post (some (.int r_2)) [(h0, .inr (0, [.int h0_slices, .int h0_inside, .ref h0_parts, .ref h0_bidders, .ref h0_bidCoins, .int h0_bidCount, .int h0_seen, .int h0_spent]))]) ∧ (h0_seen = 0 → Post (some (.int (-1))) [(h0, .inr (0, [.int h0_slices, .int h0_inside, .ref h0_parts, .ref h0_bidders, .ref h0_bidCoins, .int h0_bidCount, .int h0_seen, .int h0_spent]))]))) : pz_At B 0 0 0 [(0, .ref h0)] [] [(h0, .inr (0, [.int h0_slices, .int h0_inside, .ref h0_parts, .ref h0_bidders, .ref h0_bidCoins, .int h0_bidCount, .int h0_seen, .int h0_spent]))] := by
  refine pz_aload_n 0 F rfl dX0_lastSeen_0 rfl ?_
  refine pz_get (ci := 0) (C := RX0) (T := TX0) (N := 8) (v := .int h0_seen) 0 F rfl rfl pz_inX0 6 (by decide) pw_455 rfl dX0_lastSeen_1 ?_
  refine pz_if_ne (tgt := 11) F dX0_lastSeen_4 (by decide) (fun q_1 => ?_) (fun q_1 => ?_)
  · replace vc := vc.1 q_1
    refine pz_aload_n 0 F rfl dX0_lastSeen_11 rfl ?_
    refine pz_aload_n 0 F rfl dX0_lastSeen_12 rfl ?_
    refine pz_get (ci := 0) (C := RX0) (T := TX0) (N := 8) (v := .int h0_seen) 0 F rfl rfl pz_inX0 6 (by decide) pw_455 rfl dX0_lastSeen_13 ?_
    refine pz_iconst (v := 1) F dX0_lastSeen_16 rfl ?_
    refine pz_isub F dX0_lastSeen_17 ?_
    refine pz_callV (nA := 1) (ci := 0) (C := RX0) (T := TX0) (N := 8) (As := [.int (h0_seen - 1)]) (rest := []) (wr := []) F (ctX0_gradeOf _ g h0 (h0_seen - 1) h0_slices h0_inside h0_parts h0_bidders h0_bidCoins h0_bidCount h0_seen h0_spent) 0 rfl rfl pw_598 pw_599 pw_600 pw_17 pw_601 (by decide +kernel) (by decide) (by decide) rfl rfl (Nat.le_of_ble_eq_true rfl) [0] [] rfl rfl rfl rfl (by decide) dX0_lastSeen_18 (fun r0 w0 hp0 => ?_)
    obtain ⟨r_2, _, rfl, rfl, hq_3⟩ := hp0
    replace vc := vc r_2  hq_3
    refine pz_eq (st' := [.int r_2]) (ws' := [(h0, .inr (0, [.int h0_slices, .int h0_inside, .ref h0_parts, .ref h0_bidders, .ref h0_bidCoins, .int h0_bidCount, .int h0_seen, .int h0_spent]))]) rfl rfl ?_
    exact pz_ireturn (w1 := [(h0, .inr (0, [.int h0_slices, .int h0_inside, .ref h0_parts, .ref h0_bidders, .ref h0_bidCoins, .int h0_bidCount, .int h0_seen, .int h0_spent]))]) F Rt (by decide) (by decide) dX0_lastSeen_21 [0] rfl rfl rfl vc
  · replace vc := vc.2 q_1
    refine pz_iconst (v := (-1)) F dX0_lastSeen_7 rfl ?_
    refine pz_goto (tgt := 21) F dX0_lastSeen_8 (by decide) ?_
    exact pz_ireturn (w1 := [(h0, .inr (0, [.int h0_slices, .int h0_inside, .ref h0_parts, .ref h0_bidders, .ref h0_bidCoins, .int h0_bidCount, .int h0_seen, .int h0_spent]))]) F Rt (by decide) (by decide) dX0_lastSeen_21 [0] rfl rfl rfl vc
set_option maxHeartbeats 4000000 in
set_option maxRecDepth 100000 in
theorem ctX0_lastSeen (l : Launch) (g : pz_G) (h0 : Nat) (h0_slices : Int32) (h0_inside : Int32) (h0_parts : Nat) (h0_bidders : Nat) (h0_bidCoins : Nat) (h0_bidCount : Int32) (h0_seen : Int32) (h0_spent : Int32) : pz_Ct l g yX0_lastSeen cX0_lastSeen 1 (some .int) rmX0_lastSeen [.ref h0] [(h0, .inr (0, [.int h0_slices, .int h0_inside, .ref h0_parts, .ref h0_bidders, .ref h0_bidCoins, .int h0_bidCount, .int h0_seen, .int h0_spent]))] (pz_pi (fun (r : Int32) (u : Unit) => r = if h0_seen = 0 then -1 else pu_gi h0_inside (h0_seen - 1)) (fun (u : Unit) => [(h0, .inr (0, [.int h0_slices, .int h0_inside, .ref h0_parts, .ref h0_bidders, .ref h0_bidCoins, .int h0_bidCount, .int h0_seen, .int h0_spent]))])) := by
  refine pz_ofAt (by decide +kernel) (Nat.le_of_ble_eq_true rfl) (fun B F Rt hme => ?_)
  refine sgX0_lastSeen_0 F Rt h0 h0_slices h0_inside h0_parts h0_bidders h0_bidCoins h0_bidCount h0_seen h0_spent ?_
  clear F Rt hme
  repeat' (first | apply And.intro | intro _)
  all_goals (try subst_vars)
  all_goals (first | exact ⟨_, (), rfl, rfl, rfl⟩ | exact ⟨_, (), rfl, rfl, by simp only [*, reduceIte, and_self, and_true, true_and, not_false_eq_true]⟩)
abbrev rmX0_cutNext : Room := { frames := 2, cells := 0, slots := 0, locals := 42 }
set_option maxHeartbeats 4000000 in
set_option maxRecDepth 100000 in
theorem sgX0_cutNext_0 {B : pz_B} {g : pz_G} {wc : va_W} {Post : Option Value → va_W → Prop} (F : pz_F B cX0_cutNext 2 (some .int) yX0_cutNext.cls g rmX0_cutNext) (Rt : pz_Rt B g wc Post rmX0_cutNext) (h0 : Nat) (h0_slices : Int32) (h0_inside : Int32) (h0_parts : Nat) (h0_bidders : Nat) (h0_bidCoins : Nat) (h0_bidCount : Int32) (h0_seen : Int32) (h0_spent : Int32)  (vc : ∀ r_1 : Int32, ∀ _ : (r_1 = pu_gi h0_inside h0_seen), ∀ x_3 : Int32, x_3 = (h0_seen + 1) → ((x_3 < h0_slices → Post (some (.int r_1)) [(h0, .inr (0, [.int h0_slices, .int h0_inside, .ref h0_parts, .ref h0_bidders, .ref h0_bidCoins, .int h0_bidCount, .int x_3, .int 0]))]) ∧ (¬ x_3 < h0_slices → Post (some (.int r_1)) [(h0, .inr (0, [.int h0_slices, .int h0_inside, .ref h0_parts, .ref h0_bidders, .ref h0_bidCoins, .int h0_bidCount, .int x_3, .int 1]))]))) : pz_At B 0 0 0 [(0, .ref h0)] [] [(h0, .inr (0, [.int h0_slices, .int h0_inside, .ref h0_parts, .ref h0_bidders, .ref h0_bidCoins, .int h0_bidCount, .int h0_seen, .int h0_spent]))] := by
  refine pz_aload_n 0 F rfl dX0_cutNext_0 rfl ?_
  refine pz_aload_n 0 F rfl dX0_cutNext_1 rfl ?_
  refine pz_get (ci := 0) (C := RX0) (T := TX0) (N := 8) (v := .int h0_seen) 0 F rfl rfl pz_inX0 6 (by decide) pw_455 rfl dX0_cutNext_2 ?_
  refine pz_callV (nA := 1) (ci := 0) (C := RX0) (T := TX0) (N := 8) (As := [.int h0_seen]) (rest := []) (wr := []) F (ctX0_gradeOf _ g h0 h0_seen h0_slices h0_inside h0_parts h0_bidders h0_bidCoins h0_bidCount h0_seen h0_spent) 0 rfl rfl pw_598 pw_599 pw_600 pw_17 pw_601 (by decide +kernel) (by decide) (by decide) rfl rfl (Nat.le_of_ble_eq_true rfl) [0] [] rfl rfl rfl rfl (by decide) dX0_cutNext_5 (fun r0 w0 hp0 => ?_)
  obtain ⟨r_1, _, rfl, rfl, hq_2⟩ := hp0
  replace vc := vc r_1  hq_2
  refine pz_eq (st' := [.int r_1]) (ws' := [(h0, .inr (0, [.int h0_slices, .int h0_inside, .ref h0_parts, .ref h0_bidders, .ref h0_bidCoins, .int h0_bidCount, .int h0_seen, .int h0_spent]))]) rfl rfl ?_
  refine pz_istore_n (lv' := [(1, .int r_1), (0, .ref h0)]) F dX0_cutNext_8 rfl (by decide) rfl ?_
  refine pz_aload_n 1 F rfl dX0_cutNext_9 rfl ?_
  refine pz_dup F dX0_cutNext_10 rfl ?_
  refine pz_get (ci := 0) (C := RX0) (T := TX0) (N := 8) (v := .int h0_seen) 0 F rfl rfl pz_inX0 6 (by decide) pw_455 rfl dX0_cutNext_11 ?_
  refine pz_iconst (v := 1) F dX0_cutNext_14 rfl ?_
  refine pz_iadd F dX0_cutNext_15 ?_
  refine pz_topi (fun x_3 ex_3 => ?_)
  replace vc := vc x_3 ex_3
  refine pz_put (ws' := [(h0, .inr (0, [.int h0_slices, .int h0_inside, .ref h0_parts, .ref h0_bidders, .ref h0_bidCoins, .int h0_bidCount, .int x_3, .int h0_spent]))]) (ci := 0) (C := RX0) (T := TX0) (N := 8) (v := .int x_3) (ty := .int) 0 F rfl rfl pz_inX0 6 (by decide) pw_455 tyX0_ok nmX0 rfl rfl rfl rfl (Nat.le_of_ble_eq_true rfl) dX0_cutNext_16 rfl ?_
  refine pz_aload_n 1 F rfl dX0_cutNext_19 rfl ?_
  refine pz_aload_n 1 F rfl dX0_cutNext_20 rfl ?_
  refine pz_get (ci := 0) (C := RX0) (T := TX0) (N := 8) (v := .int x_3) 0 F rfl rfl pz_inX0 6 (by decide) pw_455 rfl dX0_cutNext_21 ?_
  refine pz_aload_n 1 F rfl dX0_cutNext_24 rfl ?_
  refine pz_get (ci := 0) (C := RX0) (T := TX0) (N := 8) (v := .int h0_slices) 0 F rfl rfl pz_inX0 0 (by decide) pw_441 rfl dX0_cutNext_25 ?_
  refine pz_icmp_lt (tgt := 35) F dX0_cutNext_28 (by decide) (fun q_4 => ?_) (fun q_4 => ?_)
  · replace vc := vc.1 q_4
    refine pz_iconst (v := 0) F dX0_cutNext_35 rfl ?_
    refine pz_put (ws' := [(h0, .inr (0, [.int h0_slices, .int h0_inside, .ref h0_parts, .ref h0_bidders, .ref h0_bidCoins, .int h0_bidCount, .int x_3, .int 0]))]) (ci := 0) (C := RX0) (T := TX0) (N := 8) (v := .int 0) (ty := .boolean) 0 F rfl rfl pz_inX0 7 (by decide) pw_458 tyX0_ok nmX0 rfl rfl rfl rfl (Nat.le_of_ble_eq_true rfl) dX0_cutNext_36 rfl ?_
    refine pz_iload_n 0 F rfl dX0_cutNext_39 rfl ?_
    exact pz_ireturn (w1 := [(h0, .inr (0, [.int h0_slices, .int h0_inside, .ref h0_parts, .ref h0_bidders, .ref h0_bidCoins, .int h0_bidCount, .int x_3, .int 0]))]) F Rt (by decide) (by decide) dX0_cutNext_40 [0] rfl rfl rfl vc
  · replace vc := vc.2 q_4
    refine pz_iconst (v := 1) F dX0_cutNext_31 rfl ?_
    refine pz_goto (tgt := 36) F dX0_cutNext_32 (by decide) ?_
    refine pz_put (ws' := [(h0, .inr (0, [.int h0_slices, .int h0_inside, .ref h0_parts, .ref h0_bidders, .ref h0_bidCoins, .int h0_bidCount, .int x_3, .int 1]))]) (ci := 0) (C := RX0) (T := TX0) (N := 8) (v := .int 1) (ty := .boolean) 0 F rfl rfl pz_inX0 7 (by decide) pw_458 tyX0_ok nmX0 rfl rfl rfl rfl (Nat.le_of_ble_eq_true rfl) dX0_cutNext_36 rfl ?_
    refine pz_iload_n 0 F rfl dX0_cutNext_39 rfl ?_
    exact pz_ireturn (w1 := [(h0, .inr (0, [.int h0_slices, .int h0_inside, .ref h0_parts, .ref h0_bidders, .ref h0_bidCoins, .int h0_bidCount, .int x_3, .int 1]))]) F Rt (by decide) (by decide) dX0_cutNext_40 [0] rfl rfl rfl vc
set_option maxHeartbeats 4000000 in
set_option maxRecDepth 100000 in
theorem ctX0_cutNext (l : Launch) (g : pz_G) (h0 : Nat) (h0_slices : Int32) (h0_inside : Int32) (h0_parts : Nat) (h0_bidders : Nat) (h0_bidCoins : Nat) (h0_bidCount : Int32) (h0_seen : Int32) (h0_spent : Int32) : pz_Ct l g yX0_cutNext cX0_cutNext 2 (some .int) rmX0_cutNext [.ref h0] [(h0, .inr (0, [.int h0_slices, .int h0_inside, .ref h0_parts, .ref h0_bidders, .ref h0_bidCoins, .int h0_bidCount, .int h0_seen, .int h0_spent]))] (pz_pi (fun (r : Int32) (u : Int32 × Int32) => r = pu_gi h0_inside h0_seen ∧ u.1 = h0_seen + 1 ∧ u.2 = if h0_seen + 1 < h0_slices then 0 else 1) (fun (u : Int32 × Int32) => [(h0, .inr (0, [.int h0_slices, .int h0_inside, .ref h0_parts, .ref h0_bidders, .ref h0_bidCoins, .int h0_bidCount, .int u.1, .int u.2]))])) := by
  refine pz_ofAt (by decide +kernel) (Nat.le_of_ble_eq_true rfl) (fun B F Rt hme => ?_)
  refine sgX0_cutNext_0 F Rt h0 h0_slices h0_inside h0_parts h0_bidders h0_bidCoins h0_bidCount h0_seen h0_spent ?_
  clear F Rt hme
  repeat' (first | apply And.intro | intro _)
  all_goals (try subst_vars)
  all_goals (first | exact ⟨_, (_, _), rfl, rfl, rfl⟩ | exact ⟨_, (_, _), rfl, rfl, by simp only [*, reduceIte, and_self, and_true, true_and, not_false_eq_true]⟩)
abbrev rmX0_passAllTo : Room := { frames := 1, cells := 0, slots := 0, locals := 23 }
set_option maxHeartbeats 4000000 in
set_option maxRecDepth 100000 in
theorem sgX0_passAllTo_0 {B : pz_B} {g : pz_G} {wc : va_W} {Post : Option Value → va_W → Prop} (F : pz_F B cX0_passAllTo 2 none yX0_passAllTo.cls g rmX0_passAllTo) (Rt : pz_Rt B g wc Post rmX0_passAllTo) (h0 : Nat) (m : Int32) (h0_slices : Int32) (h0_inside : Int32) (h0_parts : Nat) (h0_bidders : Nat) (h0_bidCoins : Nat) (h0_bidCount : Int32) (h0_seen : Int32) (h0_spent : Int32) (pa : Nat → Int32)  (vc : (8 < 2 ^ 31) ∧ ∀ f2_2 : Nat → Int32, ∀ _ : (∀ a, a < 8 → f2_2 a = 0), vp_in m 8 ∧ ∀ f_5 : Nat → Int32, f_5 = upd f2_2 m.toNatClampNeg 16 → Post none [(h0, .inr (0, [.int h0_slices, .int h0_inside, .ref h0_parts, .ref h0_bidders, .ref h0_bidCoins, .int h0_bidCount, .int h0_seen, .int h0_spent])), (h0_parts, .inl (g.2.1 1, 8, .inl f_5))]) : pz_At B 0 0 0 [(0, .ref h0), (1, .int m)] [] [(h0, .inr (0, [.int h0_slices, .int h0_inside, .ref h0_parts, .ref h0_bidders, .ref h0_bidCoins, .int h0_bidCount, .int h0_seen, .int h0_spent])), (h0_parts, .inl (g.2.1 1, 8, .inl pa))] := by
  refine pz_aload_n 0 F rfl dX0_passAllTo_0 rfl ?_
  refine pz_get (ci := 0) (C := RX0) (T := TX0) (N := 8) (v := .ref h0_parts) 0 F rfl rfl pz_inX0 2 (by decide) pw_444 rfl dX0_passAllTo_1 ?_
  refine pz_iconst (v := 0) F dX0_passAllTo_4 rfl ?_
  obtain ⟨h_1, vc⟩ := vc
  refine pz_callS (nA := 2) (As := [.ref h0_parts, .int 0]) (rest := []) (wr := [(h0, .inr (0, [.int h0_slices, .int h0_inside, .ref h0_parts, .ref h0_bidders, .ref h0_bidCoins, .int h0_bidCount, .int h0_seen, .int h0_spent]))]) F (ctJ7_fill_53178 _ g h0_parts 0 8 pa h_1) pw_562 pw_563 pw_18 pw_564 (by decide +kernel) (by decide) (by decide) rfl rfl (Nat.le_of_ble_eq_true rfl) [1] [0] rfl rfl rfl rfl (by decide) dX0_passAllTo_5 (fun r0 w0 hp0 => ?_)
  obtain ⟨f2_2, rfl, rfl, hq_3⟩ := hp0
  replace vc := vc f2_2 hq_3
  refine pz_eq (st' := []) (ws' := [(h0, .inr (0, [.int h0_slices, .int h0_inside, .ref h0_parts, .ref h0_bidders, .ref h0_bidCoins, .int h0_bidCount, .int h0_seen, .int h0_spent])), (h0_parts, .inl (g.2.1 1, 8, .inl f2_2))]) rfl rfl ?_
  refine pz_aload_n 0 F rfl dX0_passAllTo_8 rfl ?_
  refine pz_get (ci := 0) (C := RX0) (T := TX0) (N := 8) (v := .ref h0_parts) 0 F rfl rfl pz_inX0 2 (by decide) pw_444 rfl dX0_passAllTo_9 ?_
  refine pz_iload_n 1 F rfl dX0_passAllTo_12 rfl ?_
  refine pz_bipush (v := 16) F dX0_passAllTo_13 rfl ?_
  obtain ⟨h_4, vc⟩ := vc
  obtain ⟨f_5, ef_5⟩ : ∃ z : Nat → Int32, z = upd f2_2 m.toNatClampNeg 16 := ⟨_, rfl⟩
  replace vc := vc f_5 ef_5
  refine pz_iastore (ws' := [(h0, .inr (0, [.int h0_slices, .int h0_inside, .ref h0_parts, .ref h0_bidders, .ref h0_bidCoins, .int h0_bidCount, .int h0_seen, .int h0_spent])), (h0_parts, .inl (g.2.1 1, 8, .inl f_5))]) F 1 rfl h_4 dX0_passAllTo_15 (by rw [ef_5]; rfl) ?_
  exact pz_return (w1 := [(h0, .inr (0, [.int h0_slices, .int h0_inside, .ref h0_parts, .ref h0_bidders, .ref h0_bidCoins, .int h0_bidCount, .int h0_seen, .int h0_spent])), (h0_parts, .inl (g.2.1 1, 8, .inl f_5))]) F Rt (by decide) (by decide) dX0_passAllTo_16 [0, 1] rfl rfl vc
set_option maxHeartbeats 4000000 in
set_option maxRecDepth 100000 in
theorem ctX0_passAllTo (l : Launch) (g : pz_G) (h0 : Nat) (m : Int32) (h0_slices : Int32) (h0_inside : Int32) (h0_parts : Nat) (h0_bidders : Nat) (h0_bidCoins : Nat) (h0_bidCount : Int32) (h0_seen : Int32) (h0_spent : Int32) (pa : Nat → Int32) (hpre : vp_in m 8) : pz_Ct l g yX0_passAllTo cX0_passAllTo 2 none rmX0_passAllTo [.ref h0, .int m] [(h0, .inr (0, [.int h0_slices, .int h0_inside, .ref h0_parts, .ref h0_bidders, .ref h0_bidCoins, .int h0_bidCount, .int h0_seen, .int h0_spent])), (h0_parts, .inl (g.2.1 1, 8, .inl pa))] (pz_pv (fun (u : (Nat → Int32)) => ∀ a, a < 8 → u a = if a = m.toNatClampNeg then 16 else 0) (fun (u : (Nat → Int32)) => [(h0, .inr (0, [.int h0_slices, .int h0_inside, .ref h0_parts, .ref h0_bidders, .ref h0_bidCoins, .int h0_bidCount, .int h0_seen, .int h0_spent])), (h0_parts, .inl (g.2.1 1, 8, .inl u))])) := by
  refine pz_ofAt (by decide +kernel) (Nat.le_of_ble_eq_true rfl) (fun B F Rt hme => ?_)
  refine sgX0_passAllTo_0 F Rt h0 m h0_slices h0_inside h0_parts h0_bidders h0_bidCoins h0_bidCount h0_seen h0_spent pa ?_
  refine ⟨by decide, fun f hf => ⟨hpre, ?_⟩⟩
  rintro f1 rfl
  refine ⟨_, rfl, rfl, fun a ha => ?_⟩
  by_cases h : a = m.toNatClampNeg
  · rw [if_pos h, h, pk_us]
  · rw [if_neg h, pk_un h, hf a ha]
abbrev rmX4_add : Room := { frames := 0, cells := 0, slots := 0, locals := 0 }
set_option maxHeartbeats 4000000 in
set_option maxRecDepth 100000 in
theorem sgX4_add_0 {B : pz_B} {g : pz_G} {wc : va_W} {Post : Option Value → va_W → Prop} (F : pz_F B cX4_add 2 (some .int) yX4_add.cls g rmX4_add) (Rt : pz_Rt B g wc Post rmX4_add) (h0 : Nat) (c : Int32) (hp : Nat) (hd : Nat) (sz : Int32) (pu : Nat → Int32)  (vc : ((c < 0 → Post (some (.int (-1))) [(h0, .inr (3, [.ref hp, .ref hd, .int sz])), (hp, .inl (g.2.1 1, 8, .inl pu))]) ∧ (¬ c < 0 → (((999999 : Int32) < c → Post (some (.int (-1))) [(h0, .inr (3, [.ref hp, .ref hd, .int sz])), (hp, .inl (g.2.1 1, 8, .inl pu))]) ∧ (¬ (999999 : Int32) < c → ((sz < 8 → vp_in sz 8 ∧ ∀ f_5 : Nat → Int32, f_5 = upd pu sz.toNatClampNeg c → ∀ x_6 : Int32, x_6 = (sz + 1) → ∀ x_7 : Int32, x_7 = (x_6 - 1) → Post (some (.int x_7)) [(h0, .inr (3, [.ref hp, .ref hd, .int x_6])), (hp, .inl (g.2.1 1, 8, .inl f_5))]) ∧ (¬ sz < 8 → Post (some (.int (-1))) [(h0, .inr (3, [.ref hp, .ref hd, .int sz])), (hp, .inl (g.2.1 1, 8, .inl pu))]))))))) : pz_At B 0 0 0 [(0, .ref h0), (1, .int c)] [] [(h0, .inr (3, [.ref hp, .ref hd, .int sz])), (hp, .inl (g.2.1 1, 8, .inl pu))] := by
  refine pz_iload_n 1 F rfl dX4_add_0 rfl ?_
  refine pz_if_lt (tgt := 19) F dX4_add_1 (by decide) (fun q_1 => ?_) (fun q_1 => ?_)
  · replace vc := vc.1 q_1
    refine pz_iconst (v := (-1)) F dX4_add_19 rfl ?_
    exact pz_ireturn (w1 := [(h0, .inr (3, [.ref hp, .ref hd, .int sz])), (hp, .inl (g.2.1 1, 8, .inl pu))]) F Rt (by decide) (by decide) dX4_add_20 [0, 1] rfl rfl rfl vc
  · replace vc := vc.2 q_1
    refine pz_iload_n 1 F rfl dX4_add_4 rfl ?_
    refine pz_ldc (v := 999999) F pw_420 dX4_add_5 ?_
    refine pz_icmp_gt (tgt := 19) F dX4_add_7 (by decide) (fun q_2 => ?_) (fun q_2 => ?_)
    · replace vc := vc.1 q_2
      refine pz_iconst (v := (-1)) F dX4_add_19 rfl ?_
      exact pz_ireturn (w1 := [(h0, .inr (3, [.ref hp, .ref hd, .int sz])), (hp, .inl (g.2.1 1, 8, .inl pu))]) F Rt (by decide) (by decide) dX4_add_20 [0, 1] rfl rfl rfl vc
    · replace vc := vc.2 q_2
      refine pz_aload_n 0 F rfl dX4_add_10 rfl ?_
      refine pz_get (ci := 3) (C := RX4) (T := TX4) (N := 3) (v := .int sz) 0 F rfl rfl pz_inX4 2 (by decide) pw_167 rfl dX4_add_11 ?_
      refine pz_bipush (v := 8) F dX4_add_14 rfl ?_
      refine pz_icmp_lt (tgt := 21) F dX4_add_16 (by decide) (fun q_3 => ?_) (fun q_3 => ?_)
      · replace vc := vc.1 q_3
        refine pz_aload_n 0 F rfl dX4_add_21 rfl ?_
        refine pz_get (ci := 3) (C := RX4) (T := TX4) (N := 3) (v := .ref hp) 0 F rfl rfl pz_inX4 0 (by decide) pw_163 rfl dX4_add_22 ?_
        refine pz_aload_n 0 F rfl dX4_add_25 rfl ?_
        refine pz_get (ci := 3) (C := RX4) (T := TX4) (N := 3) (v := .int sz) 0 F rfl rfl pz_inX4 2 (by decide) pw_167 rfl dX4_add_26 ?_
        refine pz_iload_n 1 F rfl dX4_add_29 rfl ?_
        obtain ⟨h_4, vc⟩ := vc
        obtain ⟨f_5, ef_5⟩ : ∃ z : Nat → Int32, z = upd pu sz.toNatClampNeg c := ⟨_, rfl⟩
        replace vc := vc f_5 ef_5
        refine pz_iastore (ws' := [(h0, .inr (3, [.ref hp, .ref hd, .int sz])), (hp, .inl (g.2.1 1, 8, .inl f_5))]) F 1 rfl h_4 dX4_add_30 (by rw [ef_5]; rfl) ?_
        refine pz_aload_n 0 F rfl dX4_add_31 rfl ?_
        refine pz_dup F dX4_add_32 rfl ?_
        refine pz_get (ci := 3) (C := RX4) (T := TX4) (N := 3) (v := .int sz) 0 F rfl rfl pz_inX4 2 (by decide) pw_167 rfl dX4_add_33 ?_
        refine pz_iconst (v := 1) F dX4_add_36 rfl ?_
        refine pz_iadd F dX4_add_37 ?_
        refine pz_topi (fun x_6 ex_6 => ?_)
        replace vc := vc x_6 ex_6
        refine pz_put (ws' := [(h0, .inr (3, [.ref hp, .ref hd, .int x_6])), (hp, .inl (g.2.1 1, 8, .inl f_5))]) (ci := 3) (C := RX4) (T := TX4) (N := 3) (v := .int x_6) (ty := .int) 0 F rfl rfl pz_inX4 2 (by decide) pw_167 tyX4_ok nmX4 rfl rfl rfl rfl (Nat.le_of_ble_eq_true rfl) dX4_add_38 rfl ?_
        refine pz_aload_n 0 F rfl dX4_add_41 rfl ?_
        refine pz_get (ci := 3) (C := RX4) (T := TX4) (N := 3) (v := .int x_6) 0 F rfl rfl pz_inX4 2 (by decide) pw_167 rfl dX4_add_42 ?_
        refine pz_iconst (v := 1) F dX4_add_45 rfl ?_
        refine pz_isub F dX4_add_46 ?_
        refine pz_topi (fun x_7 ex_7 => ?_)
        replace vc := vc x_7 ex_7
        exact pz_ireturn (w1 := [(h0, .inr (3, [.ref hp, .ref hd, .int x_6])), (hp, .inl (g.2.1 1, 8, .inl f_5))]) F Rt (by decide) (by decide) dX4_add_47 [0, 1] rfl rfl rfl vc
      · replace vc := vc.2 q_3
        refine pz_iconst (v := (-1)) F dX4_add_19 rfl ?_
        exact pz_ireturn (w1 := [(h0, .inr (3, [.ref hp, .ref hd, .int sz])), (hp, .inl (g.2.1 1, 8, .inl pu))]) F Rt (by decide) (by decide) dX4_add_20 [0, 1] rfl rfl rfl vc
set_option maxHeartbeats 4000000 in
set_option maxRecDepth 100000 in
theorem ctX4_add (l : Launch) (g : pz_G) (h0 : Nat) (c : Int32) (hp : Nat) (hd : Nat) (sz : Int32) (pu : Nat → Int32) (hpre : ¬ sz < 0) : pz_Ct l g yX4_add cX4_add 2 (some .int) rmX4_add [.ref h0, .int c] [(h0, .inr (3, [.ref hp, .ref hd, .int sz])), (hp, .inl (g.2.1 1, 8, .inl pu))] (pz_pi (fun (r : Int32) (u : (Nat → Int32) × Int32) => if c < 0 then r = -1 ∧ u.1 = pu ∧ u.2 = sz else if 999999 < c then r = -1 ∧ u.1 = pu ∧ u.2 = sz else if sz < 8 then r = sz + 1 - 1 ∧ u.1 = upd pu sz.toNatClampNeg c ∧ u.2 = sz + 1 else r = -1 ∧ u.1 = pu ∧ u.2 = sz) (fun (u : (Nat → Int32) × Int32) => [(h0, .inr (3, [.ref hp, .ref hd, .int u.2])), (hp, .inl (g.2.1 1, 8, .inl u.1))])) := by
  refine pz_ofAt (by decide +kernel) (Nat.le_of_ble_eq_true rfl) (fun B F Rt hme => ?_)
  refine sgX4_add_0 F Rt h0 c hp hd sz pu ?_
  clear F Rt hme
  repeat' (first | exact pu_in2 hpre (by assumption) (by decide) | apply And.intro | intro _)
  all_goals (exact ⟨_, (_, _), rfl, rfl, by subst_vars; simp only [*, reduceIte, and_self]⟩)
abbrev rmX4_give : Room := { frames := 1, cells := 0, slots := 0, locals := 24 }
abbrev paX4_give_8 (B : pz_B) (g : pz_G) (c : Int32) (h0 : Nat) (hp : Nat) (hd : Nat) (sz : Int32) (pu : Nat → Int32) (du : Nat → Int32) (h3 : Nat) (h3_slices : Int32) (h3_inside : Int32) (hpa : Nat) (h3_bidders : Nat) (h3_bidCoins : Nat) (h3_bidCount : Int32) (h3_seen : Int32) (h3_spent : Int32) (pa : Nat → Int32) (n : Nat) (i : Int32) (d1 : Nat → Int32) (p1 : Nat → Int32) : Prop := pz_At B 0 0 8 [(0, .ref h0), (1, .ref h3), (2, .int c), (3, .int i)] [] [(h0, .inr (3, [.ref hp, .ref hd, .int sz])), (hp, .inl (g.2.1 1, 8, .inl p1)), (hd, .inl (g.2.1 1, 8, .inl d1)), (h3, .inr (0, [.int h3_slices, .int h3_inside, .ref hpa, .ref h3_bidders, .ref h3_bidCoins, .int h3_bidCount, .int h3_seen, .int h3_spent])), (hpa, .inl (g.2.1 1, 8, .inl pa))]
set_option maxHeartbeats 4000000 in
set_option maxRecDepth 100000 in
theorem sgX4_give_0 {B : pz_B} {g : pz_G} {wc : va_W} {Post : Option Value → va_W → Prop} (F : pz_F B cX4_give 4 none yX4_give.cls g rmX4_give) (Rt : pz_Rt B g wc Post rmX4_give) (c : Int32) (h0 : Nat) (hp : Nat) (hd : Nat) (sz : Int32) (pu : Nat → Int32) (du : Nat → Int32) (h3 : Nat) (h3_slices : Int32) (h3_inside : Int32) (hpa : Nat) (h3_bidders : Nat) (h3_bidCoins : Nat) (h3_bidCount : Int32) (h3_seen : Int32) (h3_spent : Int32) (pa : Nat → Int32) (n : Nat) (T8 : Int32 → (Nat → Int32) → (Nat → Int32) → Prop) (hT8 : ∀ (i : Int32) (d1 : Nat → Int32) (p1 : Nat → Int32), T8 i d1 p1 → paX4_give_8 B g c h0 hp hd sz pu du h3 h3_slices h3_inside hpa h3_bidders h3_bidCoins h3_bidCount h3_seen h3_spent pa n i d1 p1)  (vc : (n ≤ 8 ∧ sz = nI n) ∧ ∀ du2_2 : Nat → Int32, ∀ _ : (∀ a, a < n → du2_2 a = dv_f pa n c a), T8 0 du2_2 pu) : pz_At B 0 0 0 [(0, .ref h0), (1, .ref h3), (2, .int c)] [] [(h0, .inr (3, [.ref hp, .ref hd, .int sz])), (hp, .inl (g.2.1 1, 8, .inl pu)), (hd, .inl (g.2.1 1, 8, .inl du)), (h3, .inr (0, [.int h3_slices, .int h3_inside, .ref hpa, .ref h3_bidders, .ref h3_bidCoins, .int h3_bidCount, .int h3_seen, .int h3_spent])), (hpa, .inl (g.2.1 1, 8, .inl pa))] := by
  refine pz_aload_n 0 F rfl dX4_give_0 rfl ?_
  refine pz_aload_n 1 F rfl dX4_give_1 rfl ?_
  refine pz_iload_n 2 F rfl dX4_give_2 rfl ?_
  obtain ⟨h_1, vc⟩ := vc
  refine pz_callV (nA := 2) (ci := 3) (C := RX4) (T := TX4) (N := 3) (As := [.ref h3, .int c]) (rest := []) (wr := [(hp, .inl (g.2.1 1, 8, .inl pu))]) F (ctX4_divide _ g c h0 hp hd sz du h3 h3_slices h3_inside hpa h3_bidders h3_bidCoins h3_bidCount h3_seen h3_spent pa n h_1) 0 rfl rfl pw_554 pw_556 pv_19 pw_6 pw_557 (by decide +kernel) (by decide) (by decide) rfl rfl (Nat.le_of_ble_eq_true rfl) [0, 2, 3, 4] [1] rfl rfl rfl rfl (by decide) dX4_give_3 (fun r0 w0 hp0 => ?_)
  obtain ⟨du2_2, rfl, rfl, hq_3⟩ := hp0
  replace vc := vc du2_2 hq_3
  refine pz_eq (st' := []) (ws' := [(hp, .inl (g.2.1 1, 8, .inl pu)), (h0, .inr (3, [.ref hp, .ref hd, .int sz])), (hd, .inl (g.2.1 1, 8, .inl du2_2)), (h3, .inr (0, [.int h3_slices, .int h3_inside, .ref hpa, .ref h3_bidders, .ref h3_bidCoins, .int h3_bidCount, .int h3_seen, .int h3_spent])), (hpa, .inl (g.2.1 1, 8, .inl pa))]) rfl rfl ?_
  refine pz_iconst (v := 0) F dX4_give_6 rfl ?_
  refine pz_istore_n (lv' := [(3, .int 0), (0, .ref h0), (1, .ref h3), (2, .int c)]) F dX4_give_7 rfl (by decide) rfl ?_
  exact pz_sub [1, 2, 3, 0] [1, 0, 2, 3, 4] rfl rfl rfl (hT8 0 du2_2 pu vc)
set_option maxHeartbeats 4000000 in
set_option maxRecDepth 100000 in
theorem sgX4_give_8 {B : pz_B} {g : pz_G} {wc : va_W} {Post : Option Value → va_W → Prop} (F : pz_F B cX4_give 4 none yX4_give.cls g rmX4_give) (Rt : pz_Rt B g wc Post rmX4_give) (c : Int32) (h0 : Nat) (hp : Nat) (hd : Nat) (sz : Int32) (pu : Nat → Int32) (du : Nat → Int32) (h3 : Nat) (h3_slices : Int32) (h3_inside : Int32) (hpa : Nat) (h3_bidders : Nat) (h3_bidCoins : Nat) (h3_bidCount : Int32) (h3_seen : Int32) (h3_spent : Int32) (pa : Nat → Int32) (n : Nat) (T8 : Int32 → (Nat → Int32) → (Nat → Int32) → Prop) (hT8 : ∀ (i : Int32) (d1 : Nat → Int32) (p1 : Nat → Int32), T8 i d1 p1 → paX4_give_8 B g c h0 hp hd sz pu du h3 h3_slices h3_inside hpa h3_bidders h3_bidCoins h3_bidCount h3_seen h3_spent pa n i d1 p1) (i : Int32) (d1 : Nat → Int32) (p1 : Nat → Int32) (vc : ((sz ≤ i → Post none [(h0, .inr (3, [.ref hp, .ref hd, .int sz])), (hp, .inl (g.2.1 1, 8, .inl p1)), (hd, .inl (g.2.1 1, 8, .inl d1)), (h3, .inr (0, [.int h3_slices, .int h3_inside, .ref hpa, .ref h3_bidders, .ref h3_bidCoins, .int h3_bidCount, .int h3_seen, .int h3_spent])), (hpa, .inl (g.2.1 1, 8, .inl pa))]) ∧ (¬ sz ≤ i → vp_in i 8 ∧ vp_in i 8 ∧ ∀ x_4 : Int32, x_4 = ((p1 i.toNatClampNeg) + (d1 i.toNatClampNeg)) → vp_in i 8 ∧ ∀ f_6 : Nat → Int32, f_6 = upd p1 i.toNatClampNeg x_4 → ∀ x_7 : Int32, x_7 = i + 1 → T8 x_7 d1 f_6))) : pz_At B 0 0 8 [(0, .ref h0), (1, .ref h3), (2, .int c), (3, .int i)] [] [(h0, .inr (3, [.ref hp, .ref hd, .int sz])), (hp, .inl (g.2.1 1, 8, .inl p1)), (hd, .inl (g.2.1 1, 8, .inl d1)), (h3, .inr (0, [.int h3_slices, .int h3_inside, .ref hpa, .ref h3_bidders, .ref h3_bidCoins, .int h3_bidCount, .int h3_seen, .int h3_spent])), (hpa, .inl (g.2.1 1, 8, .inl pa))] := by
  refine pz_iload_n 3 F rfl dX4_give_8 rfl ?_
  refine pz_aload_n 0 F rfl dX4_give_9 rfl ?_
  refine pz_get (ci := 3) (C := RX4) (T := TX4) (N := 3) (v := .int sz) 0 F rfl rfl pz_inX4 2 (by decide) pw_167 rfl dX4_give_10 ?_
  refine pz_icmp_ge (tgt := 37) F dX4_give_13 (by decide) (fun q_1 => ?_) (fun q_1 => ?_)
  · replace vc := vc.1 q_1
    exact pz_return (w1 := [(h0, .inr (3, [.ref hp, .ref hd, .int sz])), (hp, .inl (g.2.1 1, 8, .inl p1)), (hd, .inl (g.2.1 1, 8, .inl d1)), (h3, .inr (0, [.int h3_slices, .int h3_inside, .ref hpa, .ref h3_bidders, .ref h3_bidCoins, .int h3_bidCount, .int h3_seen, .int h3_spent])), (hpa, .inl (g.2.1 1, 8, .inl pa))]) F Rt (by decide) (by decide) dX4_give_37 [0, 1, 2, 3, 4] rfl rfl vc
  · replace vc := vc.2 q_1
    refine pz_aload_n 0 F rfl dX4_give_16 rfl ?_
    refine pz_get (ci := 3) (C := RX4) (T := TX4) (N := 3) (v := .ref hp) 0 F rfl rfl pz_inX4 0 (by decide) pw_163 rfl dX4_give_17 ?_
    refine pz_iload_n 3 F rfl dX4_give_20 rfl ?_
    refine pz_dup2 F dX4_give_21 rfl rfl ?_
    obtain ⟨h_2, vc⟩ := vc
    refine pz_iaload 1 F rfl h_2 dX4_give_22 ?_
    refine pz_aload_n 0 F rfl dX4_give_23 rfl ?_
    refine pz_get (ci := 3) (C := RX4) (T := TX4) (N := 3) (v := .ref hd) 0 F rfl rfl pz_inX4 1 (by decide) pw_166 rfl dX4_give_24 ?_
    refine pz_iload_n 3 F rfl dX4_give_27 rfl ?_
    obtain ⟨h_3, vc⟩ := vc
    refine pz_iaload 2 F rfl h_3 dX4_give_28 ?_
    refine pz_iadd F dX4_give_29 ?_
    refine pz_topi (fun x_4 ex_4 => ?_)
    replace vc := vc x_4 ex_4
    obtain ⟨h_5, vc⟩ := vc
    obtain ⟨f_6, ef_6⟩ : ∃ z : Nat → Int32, z = upd p1 i.toNatClampNeg x_4 := ⟨_, rfl⟩
    replace vc := vc f_6 ef_6
    refine pz_iastore (ws' := [(h0, .inr (3, [.ref hp, .ref hd, .int sz])), (hp, .inl (g.2.1 1, 8, .inl f_6)), (hd, .inl (g.2.1 1, 8, .inl d1)), (h3, .inr (0, [.int h3_slices, .int h3_inside, .ref hpa, .ref h3_bidders, .ref h3_bidCoins, .int h3_bidCount, .int h3_seen, .int h3_spent])), (hpa, .inl (g.2.1 1, 8, .inl pa))]) F 1 rfl h_5 dX4_give_30 (by rw [ef_6]; rfl) ?_
    obtain ⟨x_7, ex_7⟩ : ∃ z : Int32, z = i + 1 := ⟨_, rfl⟩
    replace vc := vc x_7 ex_7
    refine pz_iinc (v := x_7) (lv' := [(3, .int x_7), (0, .ref h0), (1, .ref h3), (2, .int c)]) 3 F rfl dX4_give_31 (by rw [ex_7]; rfl) (by decide) rfl ?_
    refine pz_goto (tgt := 8) F dX4_give_34 (by decide) ?_
    exact pz_sub [1, 2, 3, 0] [0, 1, 2, 3, 4] rfl rfl rfl (hT8 x_7 d1 f_6 vc)
theorem lpX4_give_8 {B : pz_B} {g : pz_G} {wc : va_W} {Post : Option Value → va_W → Prop} (F : pz_F B cX4_give 4 none yX4_give.cls g rmX4_give) (Rt : pz_Rt B g wc Post rmX4_give) (c : Int32) (h0 : Nat) (hp : Nat) (hd : Nat) (sz : Int32) (pu : Nat → Int32) (du : Nat → Int32) (h3 : Nat) (h3_slices : Int32) (h3_inside : Int32) (hpa : Nat) (h3_bidders : Nat) (h3_bidCoins : Nat) (h3_bidCount : Int32) (h3_seen : Int32) (h3_spent : Int32) (pa : Nat → Int32) (n : Nat) (Inv : Nat → Int32 → (Nat → Int32) → (Nat → Int32) → Prop) (step : ∀ (mz : Nat) (i : Int32) (d1 : Nat → Int32) (p1 : Nat → Int32), Inv mz i d1 p1 → ∀ TT : Int32 → (Nat → Int32) → (Nat → Int32) → Prop, TT = (fun i d1 p1 => ∃ mz', mz' < mz ∧ Inv mz' i d1 p1) → ((sz ≤ i → Post none [(h0, .inr (3, [.ref hp, .ref hd, .int sz])), (hp, .inl (g.2.1 1, 8, .inl p1)), (hd, .inl (g.2.1 1, 8, .inl d1)), (h3, .inr (0, [.int h3_slices, .int h3_inside, .ref hpa, .ref h3_bidders, .ref h3_bidCoins, .int h3_bidCount, .int h3_seen, .int h3_spent])), (hpa, .inl (g.2.1 1, 8, .inl pa))]) ∧ (¬ sz ≤ i → vp_in i 8 ∧ vp_in i 8 ∧ ∀ x_4 : Int32, x_4 = ((p1 i.toNatClampNeg) + (d1 i.toNatClampNeg)) → vp_in i 8 ∧ ∀ f_6 : Nat → Int32, f_6 = upd p1 i.toNatClampNeg x_4 → ∀ x_7 : Int32, x_7 = i + 1 → TT x_7 d1 f_6))) : ∀ (mz : Nat) (i : Int32) (d1 : Nat → Int32) (p1 : Nat → Int32), Inv mz i d1 p1 → paX4_give_8 B g c h0 hp hd sz pu du h3 h3_slices h3_inside hpa h3_bidders h3_bidCoins h3_bidCount h3_seen h3_spent pa n i d1 p1 := by
  intro mz
  induction mz using Nat.strongRecOn with
  | _ mz ih =>
    intro i d1 p1 hI
    exact sgX4_give_8 F Rt c h0 hp hd sz pu du h3 h3_slices h3_inside hpa h3_bidders h3_bidCoins h3_bidCount h3_seen h3_spent pa n (fun i d1 p1 => ∃ mz', mz' < mz ∧ Inv mz' i d1 p1) (fun i d1 p1 ⟨mz', h1, h2⟩ => ih mz' h1 i d1 p1 h2) i d1 p1 (step mz i d1 p1 hI _ rfl)
set_option maxHeartbeats 4000000 in
set_option maxRecDepth 100000 in
theorem ctX4_give (l : Launch) (g : pz_G) (c : Int32) (h0 : Nat) (hp : Nat) (hd : Nat) (sz : Int32) (pu : Nat → Int32) (du : Nat → Int32) (h3 : Nat) (h3_slices : Int32) (h3_inside : Int32) (hpa : Nat) (h3_bidders : Nat) (h3_bidCoins : Nat) (h3_bidCount : Int32) (h3_seen : Int32) (h3_spent : Int32) (pa : Nat → Int32) (n : Nat) (hpre : n ≤ 8 ∧ sz = nI n) : pz_Ct l g yX4_give cX4_give 4 none rmX4_give [.ref h0, .ref h3, .int c] [(h0, .inr (3, [.ref hp, .ref hd, .int sz])), (hp, .inl (g.2.1 1, 8, .inl pu)), (hd, .inl (g.2.1 1, 8, .inl du)), (h3, .inr (0, [.int h3_slices, .int h3_inside, .ref hpa, .ref h3_bidders, .ref h3_bidCoins, .int h3_bidCount, .int h3_seen, .int h3_spent])), (hpa, .inl (g.2.1 1, 8, .inl pa))] (pz_pv (fun (u : (Nat → Int32) × (Nat → Int32)) => (∀ a, a < n → u.1 a = dv_f pa n c a) ∧ (∀ a, a < 8 → u.2 a = if a < n then pu a + dv_f pa n c a else pu a)) (fun (u : (Nat → Int32) × (Nat → Int32)) => [(h0, .inr (3, [.ref hp, .ref hd, .int sz])), (hp, .inl (g.2.1 1, 8, .inl u.2)), (hd, .inl (g.2.1 1, 8, .inl u.1)), (h3, .inr (0, [.int h3_slices, .int h3_inside, .ref hpa, .ref h3_bidders, .ref h3_bidCoins, .int h3_bidCount, .int h3_seen, .int h3_spent])), (hpa, .inl (g.2.1 1, 8, .inl pa))])) := by
  refine pz_ofAt (by decide +kernel) (Nat.le_of_ble_eq_true rfl) (fun B F Rt hme => ?_)
  obtain ⟨hn, hs⟩ := hpre
  subst hs
  refine sgX4_give_0 F Rt c h0 hp hd (nI n) pu du h3 h3_slices h3_inside hpa h3_bidders h3_bidCoins h3_bidCount h3_seen h3_spent pa n _ (fun i d1 p1 h => lpX4_give_8 F Rt c h0 hp hd (nI n) pu du h3 h3_slices h3_inside hpa h3_bidders h3_bidCoins h3_bidCount h3_seen h3_spent pa n (fun m i d1 p1 => ∃ j, j + m = n ∧ i = nI j ∧ (∀ a, a < n → d1 a = dv_f pa n c a) ∧ (∀ a, a < 8 → p1 a = if a < j then pu a + dv_f pa n c a else pu a)) ?_ n i d1 p1 h) ⟨⟨hn, rfl⟩, fun d1 hd1 => ⟨0, by omega, nI_0.symm, hd1, fun a _ => by rw [if_neg (by omega)]⟩⟩
  rintro m i d1 p1 ⟨j, hj, rfl, hd, hp1⟩ TT rfl
  refine ⟨fun q => ?_, fun q => ?_⟩
  · have h1 := pu_ge (by omega) q
    exact ⟨(d1, p1), rfl, rfl, hd, fun a ha => by
      show p1 a = _
      rw [hp1 a ha]
      by_cases h2 : a < n
      · rw [if_pos (by omega), if_pos h2]
      · rw [if_neg (by omega), if_neg h2]⟩
  · have h1 := pu_lt (by omega) (by omega) q
    have hin : vp_in (nI j) 8 := vp_in_nI (by omega) (by omega)
    refine ⟨hin, hin, ?_⟩
    rintro x rfl
    refine ⟨hin, ?_⟩
    rintro f rfl y rfl
    rw [nI_clamp (by omega)]
    refine ⟨m - 1, by omega, j + 1, by omega, nI_1 j, hd, fun a ha => ?_⟩
    by_cases hj2 : a = j
    · rw [hj2, pk_us, if_pos (by omega), hp1 j (by omega), if_neg (by omega), hd j h1]
    · rw [pk_un hj2, hp1 a ha]
      by_cases h2 : a < j
      · rw [if_pos h2, if_pos (by omega)]
      · rw [if_neg h2, if_neg (by omega)]
abbrev rmX4_take : Room := { frames := 1, cells := 0, slots := 0, locals := 24 }
abbrev paX4_take_8 (B : pz_B) (g : pz_G) (c : Int32) (h0 : Nat) (hp : Nat) (hd : Nat) (sz : Int32) (pu : Nat → Int32) (du : Nat → Int32) (h3 : Nat) (h3_slices : Int32) (h3_inside : Int32) (hpa : Nat) (h3_bidders : Nat) (h3_bidCoins : Nat) (h3_bidCount : Int32) (h3_seen : Int32) (h3_spent : Int32) (pa : Nat → Int32) (n : Nat) (i : Int32) (d1 : Nat → Int32) (p1 : Nat → Int32) : Prop := pz_At B 0 0 8 [(0, .ref h0), (1, .ref h3), (2, .int c), (3, .int i)] [] [(h0, .inr (3, [.ref hp, .ref hd, .int sz])), (hp, .inl (g.2.1 1, 8, .inl p1)), (hd, .inl (g.2.1 1, 8, .inl d1)), (h3, .inr (0, [.int h3_slices, .int h3_inside, .ref hpa, .ref h3_bidders, .ref h3_bidCoins, .int h3_bidCount, .int h3_seen, .int h3_spent])), (hpa, .inl (g.2.1 1, 8, .inl pa))]
set_option maxHeartbeats 4000000 in
set_option maxRecDepth 100000 in
theorem sgX4_take_0 {B : pz_B} {g : pz_G} {wc : va_W} {Post : Option Value → va_W → Prop} (F : pz_F B cX4_take 4 none yX4_take.cls g rmX4_take) (Rt : pz_Rt B g wc Post rmX4_take) (c : Int32) (h0 : Nat) (hp : Nat) (hd : Nat) (sz : Int32) (pu : Nat → Int32) (du : Nat → Int32) (h3 : Nat) (h3_slices : Int32) (h3_inside : Int32) (hpa : Nat) (h3_bidders : Nat) (h3_bidCoins : Nat) (h3_bidCount : Int32) (h3_seen : Int32) (h3_spent : Int32) (pa : Nat → Int32) (n : Nat) (T8 : Int32 → (Nat → Int32) → (Nat → Int32) → Prop) (hT8 : ∀ (i : Int32) (d1 : Nat → Int32) (p1 : Nat → Int32), T8 i d1 p1 → paX4_take_8 B g c h0 hp hd sz pu du h3 h3_slices h3_inside hpa h3_bidders h3_bidCoins h3_bidCount h3_seen h3_spent pa n i d1 p1)  (vc : (n ≤ 8 ∧ sz = nI n) ∧ ∀ du2_2 : Nat → Int32, ∀ _ : (∀ a, a < n → du2_2 a = dv_f pa n c a), T8 0 du2_2 pu) : pz_At B 0 0 0 [(0, .ref h0), (1, .ref h3), (2, .int c)] [] [(h0, .inr (3, [.ref hp, .ref hd, .int sz])), (hp, .inl (g.2.1 1, 8, .inl pu)), (hd, .inl (g.2.1 1, 8, .inl du)), (h3, .inr (0, [.int h3_slices, .int h3_inside, .ref hpa, .ref h3_bidders, .ref h3_bidCoins, .int h3_bidCount, .int h3_seen, .int h3_spent])), (hpa, .inl (g.2.1 1, 8, .inl pa))] := by
  refine pz_aload_n 0 F rfl dX4_take_0 rfl ?_
  refine pz_aload_n 1 F rfl dX4_take_1 rfl ?_
  refine pz_iload_n 2 F rfl dX4_take_2 rfl ?_
  obtain ⟨h_1, vc⟩ := vc
  refine pz_callV (nA := 2) (ci := 3) (C := RX4) (T := TX4) (N := 3) (As := [.ref h3, .int c]) (rest := []) (wr := [(hp, .inl (g.2.1 1, 8, .inl pu))]) F (ctX4_divide _ g c h0 hp hd sz du h3 h3_slices h3_inside hpa h3_bidders h3_bidCoins h3_bidCount h3_seen h3_spent pa n h_1) 0 rfl rfl pw_554 pw_556 pv_19 pw_6 pw_557 (by decide +kernel) (by decide) (by decide) rfl rfl (Nat.le_of_ble_eq_true rfl) [0, 2, 3, 4] [1] rfl rfl rfl rfl (by decide) dX4_take_3 (fun r0 w0 hp0 => ?_)
  obtain ⟨du2_2, rfl, rfl, hq_3⟩ := hp0
  replace vc := vc du2_2 hq_3
  refine pz_eq (st' := []) (ws' := [(hp, .inl (g.2.1 1, 8, .inl pu)), (h0, .inr (3, [.ref hp, .ref hd, .int sz])), (hd, .inl (g.2.1 1, 8, .inl du2_2)), (h3, .inr (0, [.int h3_slices, .int h3_inside, .ref hpa, .ref h3_bidders, .ref h3_bidCoins, .int h3_bidCount, .int h3_seen, .int h3_spent])), (hpa, .inl (g.2.1 1, 8, .inl pa))]) rfl rfl ?_
  refine pz_iconst (v := 0) F dX4_take_6 rfl ?_
  refine pz_istore_n (lv' := [(3, .int 0), (0, .ref h0), (1, .ref h3), (2, .int c)]) F dX4_take_7 rfl (by decide) rfl ?_
  exact pz_sub [1, 2, 3, 0] [1, 0, 2, 3, 4] rfl rfl rfl (hT8 0 du2_2 pu vc)
set_option maxHeartbeats 4000000 in
set_option maxRecDepth 100000 in
theorem sgX4_take_8 {B : pz_B} {g : pz_G} {wc : va_W} {Post : Option Value → va_W → Prop} (F : pz_F B cX4_take 4 none yX4_take.cls g rmX4_take) (Rt : pz_Rt B g wc Post rmX4_take) (c : Int32) (h0 : Nat) (hp : Nat) (hd : Nat) (sz : Int32) (pu : Nat → Int32) (du : Nat → Int32) (h3 : Nat) (h3_slices : Int32) (h3_inside : Int32) (hpa : Nat) (h3_bidders : Nat) (h3_bidCoins : Nat) (h3_bidCount : Int32) (h3_seen : Int32) (h3_spent : Int32) (pa : Nat → Int32) (n : Nat) (T8 : Int32 → (Nat → Int32) → (Nat → Int32) → Prop) (hT8 : ∀ (i : Int32) (d1 : Nat → Int32) (p1 : Nat → Int32), T8 i d1 p1 → paX4_take_8 B g c h0 hp hd sz pu du h3 h3_slices h3_inside hpa h3_bidders h3_bidCoins h3_bidCount h3_seen h3_spent pa n i d1 p1) (i : Int32) (d1 : Nat → Int32) (p1 : Nat → Int32) (vc : ((sz ≤ i → Post none [(h0, .inr (3, [.ref hp, .ref hd, .int sz])), (hp, .inl (g.2.1 1, 8, .inl p1)), (hd, .inl (g.2.1 1, 8, .inl d1)), (h3, .inr (0, [.int h3_slices, .int h3_inside, .ref hpa, .ref h3_bidders, .ref h3_bidCoins, .int h3_bidCount, .int h3_seen, .int h3_spent])), (hpa, .inl (g.2.1 1, 8, .inl pa))]) ∧ (¬ sz ≤ i → vp_in i 8 ∧ vp_in i 8 ∧ ∀ x_4 : Int32, x_4 = ((p1 i.toNatClampNeg) - (d1 i.toNatClampNeg)) → vp_in i 8 ∧ ∀ f_6 : Nat → Int32, f_6 = upd p1 i.toNatClampNeg x_4 → ∀ x_7 : Int32, x_7 = i + 1 → T8 x_7 d1 f_6))) : pz_At B 0 0 8 [(0, .ref h0), (1, .ref h3), (2, .int c), (3, .int i)] [] [(h0, .inr (3, [.ref hp, .ref hd, .int sz])), (hp, .inl (g.2.1 1, 8, .inl p1)), (hd, .inl (g.2.1 1, 8, .inl d1)), (h3, .inr (0, [.int h3_slices, .int h3_inside, .ref hpa, .ref h3_bidders, .ref h3_bidCoins, .int h3_bidCount, .int h3_seen, .int h3_spent])), (hpa, .inl (g.2.1 1, 8, .inl pa))] := by
  refine pz_iload_n 3 F rfl dX4_take_8 rfl ?_
  refine pz_aload_n 0 F rfl dX4_take_9 rfl ?_
  refine pz_get (ci := 3) (C := RX4) (T := TX4) (N := 3) (v := .int sz) 0 F rfl rfl pz_inX4 2 (by decide) pw_167 rfl dX4_take_10 ?_
  refine pz_icmp_ge (tgt := 37) F dX4_take_13 (by decide) (fun q_1 => ?_) (fun q_1 => ?_)
  · replace vc := vc.1 q_1
    exact pz_return (w1 := [(h0, .inr (3, [.ref hp, .ref hd, .int sz])), (hp, .inl (g.2.1 1, 8, .inl p1)), (hd, .inl (g.2.1 1, 8, .inl d1)), (h3, .inr (0, [.int h3_slices, .int h3_inside, .ref hpa, .ref h3_bidders, .ref h3_bidCoins, .int h3_bidCount, .int h3_seen, .int h3_spent])), (hpa, .inl (g.2.1 1, 8, .inl pa))]) F Rt (by decide) (by decide) dX4_take_37 [0, 1, 2, 3, 4] rfl rfl vc
  · replace vc := vc.2 q_1
    refine pz_aload_n 0 F rfl dX4_take_16 rfl ?_
    refine pz_get (ci := 3) (C := RX4) (T := TX4) (N := 3) (v := .ref hp) 0 F rfl rfl pz_inX4 0 (by decide) pw_163 rfl dX4_take_17 ?_
    refine pz_iload_n 3 F rfl dX4_take_20 rfl ?_
    refine pz_dup2 F dX4_take_21 rfl rfl ?_
    obtain ⟨h_2, vc⟩ := vc
    refine pz_iaload 1 F rfl h_2 dX4_take_22 ?_
    refine pz_aload_n 0 F rfl dX4_take_23 rfl ?_
    refine pz_get (ci := 3) (C := RX4) (T := TX4) (N := 3) (v := .ref hd) 0 F rfl rfl pz_inX4 1 (by decide) pw_166 rfl dX4_take_24 ?_
    refine pz_iload_n 3 F rfl dX4_take_27 rfl ?_
    obtain ⟨h_3, vc⟩ := vc
    refine pz_iaload 2 F rfl h_3 dX4_take_28 ?_
    refine pz_isub F dX4_take_29 ?_
    refine pz_topi (fun x_4 ex_4 => ?_)
    replace vc := vc x_4 ex_4
    obtain ⟨h_5, vc⟩ := vc
    obtain ⟨f_6, ef_6⟩ : ∃ z : Nat → Int32, z = upd p1 i.toNatClampNeg x_4 := ⟨_, rfl⟩
    replace vc := vc f_6 ef_6
    refine pz_iastore (ws' := [(h0, .inr (3, [.ref hp, .ref hd, .int sz])), (hp, .inl (g.2.1 1, 8, .inl f_6)), (hd, .inl (g.2.1 1, 8, .inl d1)), (h3, .inr (0, [.int h3_slices, .int h3_inside, .ref hpa, .ref h3_bidders, .ref h3_bidCoins, .int h3_bidCount, .int h3_seen, .int h3_spent])), (hpa, .inl (g.2.1 1, 8, .inl pa))]) F 1 rfl h_5 dX4_take_30 (by rw [ef_6]; rfl) ?_
    obtain ⟨x_7, ex_7⟩ : ∃ z : Int32, z = i + 1 := ⟨_, rfl⟩
    replace vc := vc x_7 ex_7
    refine pz_iinc (v := x_7) (lv' := [(3, .int x_7), (0, .ref h0), (1, .ref h3), (2, .int c)]) 3 F rfl dX4_take_31 (by rw [ex_7]; rfl) (by decide) rfl ?_
    refine pz_goto (tgt := 8) F dX4_take_34 (by decide) ?_
    exact pz_sub [1, 2, 3, 0] [0, 1, 2, 3, 4] rfl rfl rfl (hT8 x_7 d1 f_6 vc)
theorem lpX4_take_8 {B : pz_B} {g : pz_G} {wc : va_W} {Post : Option Value → va_W → Prop} (F : pz_F B cX4_take 4 none yX4_take.cls g rmX4_take) (Rt : pz_Rt B g wc Post rmX4_take) (c : Int32) (h0 : Nat) (hp : Nat) (hd : Nat) (sz : Int32) (pu : Nat → Int32) (du : Nat → Int32) (h3 : Nat) (h3_slices : Int32) (h3_inside : Int32) (hpa : Nat) (h3_bidders : Nat) (h3_bidCoins : Nat) (h3_bidCount : Int32) (h3_seen : Int32) (h3_spent : Int32) (pa : Nat → Int32) (n : Nat) (Inv : Nat → Int32 → (Nat → Int32) → (Nat → Int32) → Prop) (step : ∀ (mz : Nat) (i : Int32) (d1 : Nat → Int32) (p1 : Nat → Int32), Inv mz i d1 p1 → ∀ TT : Int32 → (Nat → Int32) → (Nat → Int32) → Prop, TT = (fun i d1 p1 => ∃ mz', mz' < mz ∧ Inv mz' i d1 p1) → ((sz ≤ i → Post none [(h0, .inr (3, [.ref hp, .ref hd, .int sz])), (hp, .inl (g.2.1 1, 8, .inl p1)), (hd, .inl (g.2.1 1, 8, .inl d1)), (h3, .inr (0, [.int h3_slices, .int h3_inside, .ref hpa, .ref h3_bidders, .ref h3_bidCoins, .int h3_bidCount, .int h3_seen, .int h3_spent])), (hpa, .inl (g.2.1 1, 8, .inl pa))]) ∧ (¬ sz ≤ i → vp_in i 8 ∧ vp_in i 8 ∧ ∀ x_4 : Int32, x_4 = ((p1 i.toNatClampNeg) - (d1 i.toNatClampNeg)) → vp_in i 8 ∧ ∀ f_6 : Nat → Int32, f_6 = upd p1 i.toNatClampNeg x_4 → ∀ x_7 : Int32, x_7 = i + 1 → TT x_7 d1 f_6))) : ∀ (mz : Nat) (i : Int32) (d1 : Nat → Int32) (p1 : Nat → Int32), Inv mz i d1 p1 → paX4_take_8 B g c h0 hp hd sz pu du h3 h3_slices h3_inside hpa h3_bidders h3_bidCoins h3_bidCount h3_seen h3_spent pa n i d1 p1 := by
  intro mz
  induction mz using Nat.strongRecOn with
  | _ mz ih =>
    intro i d1 p1 hI
    exact sgX4_take_8 F Rt c h0 hp hd sz pu du h3 h3_slices h3_inside hpa h3_bidders h3_bidCoins h3_bidCount h3_seen h3_spent pa n (fun i d1 p1 => ∃ mz', mz' < mz ∧ Inv mz' i d1 p1) (fun i d1 p1 ⟨mz', h1, h2⟩ => ih mz' h1 i d1 p1 h2) i d1 p1 (step mz i d1 p1 hI _ rfl)
set_option maxHeartbeats 4000000 in
set_option maxRecDepth 100000 in
theorem ctX4_take (l : Launch) (g : pz_G) (c : Int32) (h0 : Nat) (hp : Nat) (hd : Nat) (sz : Int32) (pu : Nat → Int32) (du : Nat → Int32) (h3 : Nat) (h3_slices : Int32) (h3_inside : Int32) (hpa : Nat) (h3_bidders : Nat) (h3_bidCoins : Nat) (h3_bidCount : Int32) (h3_seen : Int32) (h3_spent : Int32) (pa : Nat → Int32) (n : Nat) (hpre : n ≤ 8 ∧ sz = nI n) : pz_Ct l g yX4_take cX4_take 4 none rmX4_take [.ref h0, .ref h3, .int c] [(h0, .inr (3, [.ref hp, .ref hd, .int sz])), (hp, .inl (g.2.1 1, 8, .inl pu)), (hd, .inl (g.2.1 1, 8, .inl du)), (h3, .inr (0, [.int h3_slices, .int h3_inside, .ref hpa, .ref h3_bidders, .ref h3_bidCoins, .int h3_bidCount, .int h3_seen, .int h3_spent])), (hpa, .inl (g.2.1 1, 8, .inl pa))] (pz_pv (fun (u : (Nat → Int32) × (Nat → Int32)) => (∀ a, a < n → u.1 a = dv_f pa n c a) ∧ (∀ a, a < 8 → u.2 a = if a < n then pu a - dv_f pa n c a else pu a)) (fun (u : (Nat → Int32) × (Nat → Int32)) => [(h0, .inr (3, [.ref hp, .ref hd, .int sz])), (hp, .inl (g.2.1 1, 8, .inl u.2)), (hd, .inl (g.2.1 1, 8, .inl u.1)), (h3, .inr (0, [.int h3_slices, .int h3_inside, .ref hpa, .ref h3_bidders, .ref h3_bidCoins, .int h3_bidCount, .int h3_seen, .int h3_spent])), (hpa, .inl (g.2.1 1, 8, .inl pa))])) := by
  refine pz_ofAt (by decide +kernel) (Nat.le_of_ble_eq_true rfl) (fun B F Rt hme => ?_)
  obtain ⟨hn, hs⟩ := hpre
  subst hs
  refine sgX4_take_0 F Rt c h0 hp hd (nI n) pu du h3 h3_slices h3_inside hpa h3_bidders h3_bidCoins h3_bidCount h3_seen h3_spent pa n _ (fun i d1 p1 h => lpX4_take_8 F Rt c h0 hp hd (nI n) pu du h3 h3_slices h3_inside hpa h3_bidders h3_bidCoins h3_bidCount h3_seen h3_spent pa n (fun m i d1 p1 => ∃ j, j + m = n ∧ i = nI j ∧ (∀ a, a < n → d1 a = dv_f pa n c a) ∧ (∀ a, a < 8 → p1 a = if a < j then pu a - dv_f pa n c a else pu a)) ?_ n i d1 p1 h) ⟨⟨hn, rfl⟩, fun d1 hd1 => ⟨0, by omega, nI_0.symm, hd1, fun a _ => by rw [if_neg (by omega)]⟩⟩
  rintro m i d1 p1 ⟨j, hj, rfl, hd, hp1⟩ TT rfl
  refine ⟨fun q => ?_, fun q => ?_⟩
  · have h1 := pu_ge (by omega) q
    exact ⟨(d1, p1), rfl, rfl, hd, fun a ha => by
      show p1 a = _
      rw [hp1 a ha]
      by_cases h2 : a < n
      · rw [if_pos (by omega), if_pos h2]
      · rw [if_neg (by omega), if_neg h2]⟩
  · have h1 := pu_lt (by omega) (by omega) q
    have hin : vp_in (nI j) 8 := vp_in_nI (by omega) (by omega)
    refine ⟨hin, hin, ?_⟩
    rintro x rfl
    refine ⟨hin, ?_⟩
    rintro f rfl y rfl
    rw [nI_clamp (by omega)]
    refine ⟨m - 1, by omega, j + 1, by omega, nI_1 j, hd, fun a ha => ?_⟩
    by_cases hj2 : a = j
    · rw [hj2, pk_us, if_pos (by omega), hp1 j (by omega), if_neg (by omega), hd j h1]
    · rw [pk_un hj2, hp1 a ha]
      by_cases h2 : a < j
      · rw [if_pos h2, if_pos (by omega)]
      · rw [if_neg h2, if_neg (by omega)]
abbrev rmX4_canPay : Room := { frames := 1, cells := 0, slots := 0, locals := 24 }
abbrev paX4_canPay_8 (B : pz_B) (g : pz_G) (c : Int32) (h0 : Nat) (hp : Nat) (hd : Nat) (sz : Int32) (pu : Nat → Int32) (du : Nat → Int32) (h3 : Nat) (h3_slices : Int32) (h3_inside : Int32) (hpa : Nat) (h3_bidders : Nat) (h3_bidCoins : Nat) (h3_bidCount : Int32) (h3_seen : Int32) (h3_spent : Int32) (pa : Nat → Int32) (n : Nat) (i : Int32) (d1 : Nat → Int32) : Prop := pz_At B 0 0 8 [(0, .ref h0), (1, .ref h3), (2, .int c), (3, .int i)] [] [(h0, .inr (3, [.ref hp, .ref hd, .int sz])), (hp, .inl (g.2.1 1, 8, .inl pu)), (hd, .inl (g.2.1 1, 8, .inl d1)), (h3, .inr (0, [.int h3_slices, .int h3_inside, .ref hpa, .ref h3_bidders, .ref h3_bidCoins, .int h3_bidCount, .int h3_seen, .int h3_spent])), (hpa, .inl (g.2.1 1, 8, .inl pa))]
set_option maxHeartbeats 4000000 in
set_option maxRecDepth 100000 in
theorem sgX4_canPay_0 {B : pz_B} {g : pz_G} {wc : va_W} {Post : Option Value → va_W → Prop} (F : pz_F B cX4_canPay 4 (some .boolean) yX4_canPay.cls g rmX4_canPay) (Rt : pz_Rt B g wc Post rmX4_canPay) (c : Int32) (h0 : Nat) (hp : Nat) (hd : Nat) (sz : Int32) (pu : Nat → Int32) (du : Nat → Int32) (h3 : Nat) (h3_slices : Int32) (h3_inside : Int32) (hpa : Nat) (h3_bidders : Nat) (h3_bidCoins : Nat) (h3_bidCount : Int32) (h3_seen : Int32) (h3_spent : Int32) (pa : Nat → Int32) (n : Nat) (T8 : Int32 → (Nat → Int32) → Prop) (hT8 : ∀ (i : Int32) (d1 : Nat → Int32), T8 i d1 → paX4_canPay_8 B g c h0 hp hd sz pu du h3 h3_slices h3_inside hpa h3_bidders h3_bidCoins h3_bidCount h3_seen h3_spent pa n i d1)  (vc : (n ≤ 8 ∧ sz = nI n) ∧ ∀ du2_2 : Nat → Int32, ∀ _ : (∀ a, a < n → du2_2 a = dv_f pa n c a), T8 0 du2_2) : pz_At B 0 0 0 [(0, .ref h0), (1, .ref h3), (2, .int c)] [] [(h0, .inr (3, [.ref hp, .ref hd, .int sz])), (hp, .inl (g.2.1 1, 8, .inl pu)), (hd, .inl (g.2.1 1, 8, .inl du)), (h3, .inr (0, [.int h3_slices, .int h3_inside, .ref hpa, .ref h3_bidders, .ref h3_bidCoins, .int h3_bidCount, .int h3_seen, .int h3_spent])), (hpa, .inl (g.2.1 1, 8, .inl pa))] := by
  refine pz_aload_n 0 F rfl dX4_canPay_0 rfl ?_
  refine pz_aload_n 1 F rfl dX4_canPay_1 rfl ?_
  refine pz_iload_n 2 F rfl dX4_canPay_2 rfl ?_
  obtain ⟨h_1, vc⟩ := vc
  refine pz_callV (nA := 2) (ci := 3) (C := RX4) (T := TX4) (N := 3) (As := [.ref h3, .int c]) (rest := []) (wr := [(hp, .inl (g.2.1 1, 8, .inl pu))]) F (ctX4_divide _ g c h0 hp hd sz du h3 h3_slices h3_inside hpa h3_bidders h3_bidCoins h3_bidCount h3_seen h3_spent pa n h_1) 0 rfl rfl pw_554 pw_556 pv_19 pw_6 pw_557 (by decide +kernel) (by decide) (by decide) rfl rfl (Nat.le_of_ble_eq_true rfl) [0, 2, 3, 4] [1] rfl rfl rfl rfl (by decide) dX4_canPay_3 (fun r0 w0 hp0 => ?_)
  obtain ⟨du2_2, rfl, rfl, hq_3⟩ := hp0
  replace vc := vc du2_2 hq_3
  refine pz_eq (st' := []) (ws' := [(hp, .inl (g.2.1 1, 8, .inl pu)), (h0, .inr (3, [.ref hp, .ref hd, .int sz])), (hd, .inl (g.2.1 1, 8, .inl du2_2)), (h3, .inr (0, [.int h3_slices, .int h3_inside, .ref hpa, .ref h3_bidders, .ref h3_bidCoins, .int h3_bidCount, .int h3_seen, .int h3_spent])), (hpa, .inl (g.2.1 1, 8, .inl pa))]) rfl rfl ?_
  refine pz_iconst (v := 0) F dX4_canPay_6 rfl ?_
  refine pz_istore_n (lv' := [(3, .int 0), (0, .ref h0), (1, .ref h3), (2, .int c)]) F dX4_canPay_7 rfl (by decide) rfl ?_
  exact pz_sub [1, 2, 3, 0] [1, 0, 2, 3, 4] rfl rfl rfl (hT8 0 du2_2 vc)
set_option maxHeartbeats 4000000 in
set_option maxRecDepth 100000 in
theorem sgX4_canPay_8 {B : pz_B} {g : pz_G} {wc : va_W} {Post : Option Value → va_W → Prop} (F : pz_F B cX4_canPay 4 (some .boolean) yX4_canPay.cls g rmX4_canPay) (Rt : pz_Rt B g wc Post rmX4_canPay) (c : Int32) (h0 : Nat) (hp : Nat) (hd : Nat) (sz : Int32) (pu : Nat → Int32) (du : Nat → Int32) (h3 : Nat) (h3_slices : Int32) (h3_inside : Int32) (hpa : Nat) (h3_bidders : Nat) (h3_bidCoins : Nat) (h3_bidCount : Int32) (h3_seen : Int32) (h3_spent : Int32) (pa : Nat → Int32) (n : Nat) (T8 : Int32 → (Nat → Int32) → Prop) (hT8 : ∀ (i : Int32) (d1 : Nat → Int32), T8 i d1 → paX4_canPay_8 B g c h0 hp hd sz pu du h3 h3_slices h3_inside hpa h3_bidders h3_bidCoins h3_bidCount h3_seen h3_spent pa n i d1) (i : Int32) (d1 : Nat → Int32) (vc : ((sz ≤ i → Post (some (.int 1)) [(h0, .inr (3, [.ref hp, .ref hd, .int sz])), (hp, .inl (g.2.1 1, 8, .inl pu)), (hd, .inl (g.2.1 1, 8, .inl d1)), (h3, .inr (0, [.int h3_slices, .int h3_inside, .ref hpa, .ref h3_bidders, .ref h3_bidCoins, .int h3_bidCount, .int h3_seen, .int h3_spent])), (hpa, .inl (g.2.1 1, 8, .inl pa))]) ∧ (¬ sz ≤ i → vp_in i 8 ∧ vp_in i 8 ∧ (((d1 i.toNatClampNeg) ≤ (pu i.toNatClampNeg) → ∀ x_5 : Int32, x_5 = i + 1 → T8 x_5 d1) ∧ (¬ (d1 i.toNatClampNeg) ≤ (pu i.toNatClampNeg) → Post (some (.int 0)) [(h0, .inr (3, [.ref hp, .ref hd, .int sz])), (hp, .inl (g.2.1 1, 8, .inl pu)), (hd, .inl (g.2.1 1, 8, .inl d1)), (h3, .inr (0, [.int h3_slices, .int h3_inside, .ref hpa, .ref h3_bidders, .ref h3_bidCoins, .int h3_bidCount, .int h3_seen, .int h3_spent])), (hpa, .inl (g.2.1 1, 8, .inl pa))]))))) : pz_At B 0 0 8 [(0, .ref h0), (1, .ref h3), (2, .int c), (3, .int i)] [] [(h0, .inr (3, [.ref hp, .ref hd, .int sz])), (hp, .inl (g.2.1 1, 8, .inl pu)), (hd, .inl (g.2.1 1, 8, .inl d1)), (h3, .inr (0, [.int h3_slices, .int h3_inside, .ref hpa, .ref h3_bidders, .ref h3_bidCoins, .int h3_bidCount, .int h3_seen, .int h3_spent])), (hpa, .inl (g.2.1 1, 8, .inl pa))] := by
  refine pz_iload_n 3 F rfl dX4_canPay_8 rfl ?_
  refine pz_aload_n 0 F rfl dX4_canPay_9 rfl ?_
  refine pz_get (ci := 3) (C := RX4) (T := TX4) (N := 3) (v := .int sz) 0 F rfl rfl pz_inX4 2 (by decide) pw_167 rfl dX4_canPay_10 ?_
  refine pz_icmp_ge (tgt := 39) F dX4_canPay_13 (by decide) (fun q_1 => ?_) (fun q_1 => ?_)
  · replace vc := vc.1 q_1
    refine pz_iconst (v := 1) F dX4_canPay_39 rfl ?_
    exact pz_ireturn (w1 := [(h0, .inr (3, [.ref hp, .ref hd, .int sz])), (hp, .inl (g.2.1 1, 8, .inl pu)), (hd, .inl (g.2.1 1, 8, .inl d1)), (h3, .inr (0, [.int h3_slices, .int h3_inside, .ref hpa, .ref h3_bidders, .ref h3_bidCoins, .int h3_bidCount, .int h3_seen, .int h3_spent])), (hpa, .inl (g.2.1 1, 8, .inl pa))]) F Rt (by decide) (by decide) dX4_canPay_40 [0, 1, 2, 3, 4] rfl rfl rfl vc
  · replace vc := vc.2 q_1
    refine pz_aload_n 0 F rfl dX4_canPay_16 rfl ?_
    refine pz_get (ci := 3) (C := RX4) (T := TX4) (N := 3) (v := .ref hp) 0 F rfl rfl pz_inX4 0 (by decide) pw_163 rfl dX4_canPay_17 ?_
    refine pz_iload_n 3 F rfl dX4_canPay_20 rfl ?_
    obtain ⟨h_2, vc⟩ := vc
    refine pz_iaload 1 F rfl h_2 dX4_canPay_21 ?_
    refine pz_aload_n 0 F rfl dX4_canPay_22 rfl ?_
    refine pz_get (ci := 3) (C := RX4) (T := TX4) (N := 3) (v := .ref hd) 0 F rfl rfl pz_inX4 1 (by decide) pw_166 rfl dX4_canPay_23 ?_
    refine pz_iload_n 3 F rfl dX4_canPay_26 rfl ?_
    obtain ⟨h_3, vc⟩ := vc
    refine pz_iaload 2 F rfl h_3 dX4_canPay_27 ?_
    refine pz_icmp_ge (tgt := 33) F dX4_canPay_28 (by decide) (fun q_4 => ?_) (fun q_4 => ?_)
    · replace vc := vc.1 q_4
      obtain ⟨x_5, ex_5⟩ : ∃ z : Int32, z = i + 1 := ⟨_, rfl⟩
      replace vc := vc x_5 ex_5
      refine pz_iinc (v := x_5) (lv' := [(3, .int x_5), (0, .ref h0), (1, .ref h3), (2, .int c)]) 3 F rfl dX4_canPay_33 (by rw [ex_5]; rfl) (by decide) rfl ?_
      refine pz_goto (tgt := 8) F dX4_canPay_36 (by decide) ?_
      exact pz_sub [1, 2, 3, 0] [0, 1, 2, 3, 4] rfl rfl rfl (hT8 x_5 d1 vc)
    · replace vc := vc.2 q_4
      refine pz_iconst (v := 0) F dX4_canPay_31 rfl ?_
      exact pz_ireturn (w1 := [(h0, .inr (3, [.ref hp, .ref hd, .int sz])), (hp, .inl (g.2.1 1, 8, .inl pu)), (hd, .inl (g.2.1 1, 8, .inl d1)), (h3, .inr (0, [.int h3_slices, .int h3_inside, .ref hpa, .ref h3_bidders, .ref h3_bidCoins, .int h3_bidCount, .int h3_seen, .int h3_spent])), (hpa, .inl (g.2.1 1, 8, .inl pa))]) F Rt (by decide) (by decide) dX4_canPay_32 [0, 1, 2, 3, 4] rfl rfl rfl vc
theorem lpX4_canPay_8 {B : pz_B} {g : pz_G} {wc : va_W} {Post : Option Value → va_W → Prop} (F : pz_F B cX4_canPay 4 (some .boolean) yX4_canPay.cls g rmX4_canPay) (Rt : pz_Rt B g wc Post rmX4_canPay) (c : Int32) (h0 : Nat) (hp : Nat) (hd : Nat) (sz : Int32) (pu : Nat → Int32) (du : Nat → Int32) (h3 : Nat) (h3_slices : Int32) (h3_inside : Int32) (hpa : Nat) (h3_bidders : Nat) (h3_bidCoins : Nat) (h3_bidCount : Int32) (h3_seen : Int32) (h3_spent : Int32) (pa : Nat → Int32) (n : Nat) (Inv : Nat → Int32 → (Nat → Int32) → Prop) (step : ∀ (mz : Nat) (i : Int32) (d1 : Nat → Int32), Inv mz i d1 → ∀ TT : Int32 → (Nat → Int32) → Prop, TT = (fun i d1 => ∃ mz', mz' < mz ∧ Inv mz' i d1) → ((sz ≤ i → Post (some (.int 1)) [(h0, .inr (3, [.ref hp, .ref hd, .int sz])), (hp, .inl (g.2.1 1, 8, .inl pu)), (hd, .inl (g.2.1 1, 8, .inl d1)), (h3, .inr (0, [.int h3_slices, .int h3_inside, .ref hpa, .ref h3_bidders, .ref h3_bidCoins, .int h3_bidCount, .int h3_seen, .int h3_spent])), (hpa, .inl (g.2.1 1, 8, .inl pa))]) ∧ (¬ sz ≤ i → vp_in i 8 ∧ vp_in i 8 ∧ (((d1 i.toNatClampNeg) ≤ (pu i.toNatClampNeg) → ∀ x_5 : Int32, x_5 = i + 1 → TT x_5 d1) ∧ (¬ (d1 i.toNatClampNeg) ≤ (pu i.toNatClampNeg) → Post (some (.int 0)) [(h0, .inr (3, [.ref hp, .ref hd, .int sz])), (hp, .inl (g.2.1 1, 8, .inl pu)), (hd, .inl (g.2.1 1, 8, .inl d1)), (h3, .inr (0, [.int h3_slices, .int h3_inside, .ref hpa, .ref h3_bidders, .ref h3_bidCoins, .int h3_bidCount, .int h3_seen, .int h3_spent])), (hpa, .inl (g.2.1 1, 8, .inl pa))]))))) : ∀ (mz : Nat) (i : Int32) (d1 : Nat → Int32), Inv mz i d1 → paX4_canPay_8 B g c h0 hp hd sz pu du h3 h3_slices h3_inside hpa h3_bidders h3_bidCoins h3_bidCount h3_seen h3_spent pa n i d1 := by
  intro mz
  induction mz using Nat.strongRecOn with
  | _ mz ih =>
    intro i d1 hI
    exact sgX4_canPay_8 F Rt c h0 hp hd sz pu du h3 h3_slices h3_inside hpa h3_bidders h3_bidCoins h3_bidCount h3_seen h3_spent pa n (fun i d1 => ∃ mz', mz' < mz ∧ Inv mz' i d1) (fun i d1 ⟨mz', h1, h2⟩ => ih mz' h1 i d1 h2) i d1 (step mz i d1 hI _ rfl)
set_option maxHeartbeats 4000000 in
set_option maxRecDepth 100000 in
theorem ctX4_canPay (l : Launch) (g : pz_G) (c : Int32) (h0 : Nat) (hp : Nat) (hd : Nat) (sz : Int32) (pu : Nat → Int32) (du : Nat → Int32) (h3 : Nat) (h3_slices : Int32) (h3_inside : Int32) (hpa : Nat) (h3_bidders : Nat) (h3_bidCoins : Nat) (h3_bidCount : Int32) (h3_seen : Int32) (h3_spent : Int32) (pa : Nat → Int32) (n : Nat) (hpre : n ≤ 8 ∧ sz = nI n) : pz_Ct l g yX4_canPay cX4_canPay 4 (some .boolean) rmX4_canPay [.ref h0, .ref h3, .int c] [(h0, .inr (3, [.ref hp, .ref hd, .int sz])), (hp, .inl (g.2.1 1, 8, .inl pu)), (hd, .inl (g.2.1 1, 8, .inl du)), (h3, .inr (0, [.int h3_slices, .int h3_inside, .ref hpa, .ref h3_bidders, .ref h3_bidCoins, .int h3_bidCount, .int h3_seen, .int h3_spent])), (hpa, .inl (g.2.1 1, 8, .inl pa))] (pz_pi (fun (r : Int32) (u : (Nat → Int32)) => (∀ a, a < n → u a = dv_f pa n c a) ∧ r = if (∃ a, a < n ∧ pu a < dv_f pa n c a) then 0 else 1) (fun (u : (Nat → Int32)) => [(h0, .inr (3, [.ref hp, .ref hd, .int sz])), (hp, .inl (g.2.1 1, 8, .inl pu)), (hd, .inl (g.2.1 1, 8, .inl u)), (h3, .inr (0, [.int h3_slices, .int h3_inside, .ref hpa, .ref h3_bidders, .ref h3_bidCoins, .int h3_bidCount, .int h3_seen, .int h3_spent])), (hpa, .inl (g.2.1 1, 8, .inl pa))])) := by
  refine pz_ofAt (by decide +kernel) (Nat.le_of_ble_eq_true rfl) (fun B F Rt hme => ?_)
  obtain ⟨hn, hs⟩ := hpre
  subst hs
  refine sgX4_canPay_0 F Rt c h0 hp hd (nI n) pu du h3 h3_slices h3_inside hpa h3_bidders h3_bidCoins h3_bidCount h3_seen h3_spent pa n _ (fun i d1 h => lpX4_canPay_8 F Rt c h0 hp hd (nI n) pu du h3 h3_slices h3_inside hpa h3_bidders h3_bidCoins h3_bidCount h3_seen h3_spent pa n (fun m i d1 => ∃ j, j + m = n ∧ i = nI j ∧ (∀ a, a < n → d1 a = dv_f pa n c a) ∧ (∀ a, a < j → ¬ pu a < dv_f pa n c a)) ?_ n i d1 h) ⟨⟨hn, rfl⟩, fun d1 hd1 => ⟨0, by omega, nI_0.symm, hd1, fun a ha => absurd ha (by omega)⟩⟩
  rintro m i d1 ⟨j, hj, rfl, hd, hp1⟩ TT rfl
  refine ⟨fun q => ?_, fun q => ?_⟩
  · have h1 := pu_ge (by omega) q
    exact ⟨_, d1, rfl, rfl, hd, by rw [if_neg (fun ⟨a, ha, hb⟩ => hp1 a (by omega) hb)]⟩
  · have h1 := pu_lt (by omega) (by omega) q
    have hin : vp_in (nI j) 8 := vp_in_nI (by omega) (by omega)
    refine ⟨hin, hin, ?_⟩
    rw [nI_clamp (by omega), hd j h1]
    refine ⟨fun q2 => ?_, fun q2 => ?_⟩
    · rintro y rfl
      refine ⟨m - 1, by omega, j + 1, by omega, nI_1 j, hd, fun a ha => ?_⟩
      by_cases hj2 : a = j
      · rw [hj2]; exact Int32.not_lt.mpr q2
      · exact hp1 a (by omega)
    · exact ⟨_, d1, rfl, rfl, hd, by rw [if_pos ⟨j, h1, Int32.not_le.mp q2⟩]⟩
abbrev rmX0_placeBid : Room := { frames := 0, cells := 0, slots := 0, locals := 0 }
abbrev paX0_placeBid_2 (B : pz_B) (g : pz_G) (m : Int32) (c : Int32) (h0 : Nat) (h0_slices : Int32) (h0_inside : Int32) (h0_parts : Nat) (h0_bidders : Nat) (h0_bidCoins : Nat) (h0_bidCount : Int32) (h0_seen : Int32) (h0_spent : Int32) (bb : Nat → Int32) (bc : Nat → Int32) (b : Nat) (i : Int32) : Prop := pz_At B 0 0 2 [(0, .ref h0), (1, .int m), (2, .int c), (3, .int i)] [] [(h0, .inr (0, [.int h0_slices, .int h0_inside, .ref h0_parts, .ref h0_bidders, .ref h0_bidCoins, .int h0_bidCount, .int h0_seen, .int h0_spent])), (h0_bidders, .inl (g.2.1 1, 8, .inl bb)), (h0_bidCoins, .inl (g.2.1 1, 8, .inl bc))]
set_option maxHeartbeats 4000000 in
set_option maxRecDepth 100000 in
theorem sgX0_placeBid_0 {B : pz_B} {g : pz_G} {wc : va_W} {Post : Option Value → va_W → Prop} (F : pz_F B cX0_placeBid 4 none yX0_placeBid.cls g rmX0_placeBid) (Rt : pz_Rt B g wc Post rmX0_placeBid) (m : Int32) (c : Int32) (h0 : Nat) (h0_slices : Int32) (h0_inside : Int32) (h0_parts : Nat) (h0_bidders : Nat) (h0_bidCoins : Nat) (h0_bidCount : Int32) (h0_seen : Int32) (h0_spent : Int32) (bb : Nat → Int32) (bc : Nat → Int32) (b : Nat) (T2 : Int32 → Prop) (hT2 : ∀ (i : Int32), T2 i → paX0_placeBid_2 B g m c h0 h0_slices h0_inside h0_parts h0_bidders h0_bidCoins h0_bidCount h0_seen h0_spent bb bc b i)  (vc : T2 0) : pz_At B 0 0 0 [(0, .ref h0), (1, .int m), (2, .int c)] [] [(h0, .inr (0, [.int h0_slices, .int h0_inside, .ref h0_parts, .ref h0_bidders, .ref h0_bidCoins, .int h0_bidCount, .int h0_seen, .int h0_spent])), (h0_bidders, .inl (g.2.1 1, 8, .inl bb)), (h0_bidCoins, .inl (g.2.1 1, 8, .inl bc))] := by
  refine pz_iconst (v := 0) F dX0_placeBid_0 rfl ?_
  refine pz_istore_n (lv' := [(3, .int 0), (0, .ref h0), (1, .int m), (2, .int c)]) F dX0_placeBid_1 rfl (by decide) rfl ?_
  exact pz_sub [1, 2, 3, 0] [0, 1, 2] rfl rfl rfl (hT2 0 vc)
set_option maxHeartbeats 4000000 in
set_option maxRecDepth 100000 in
theorem sgX0_placeBid_2 {B : pz_B} {g : pz_G} {wc : va_W} {Post : Option Value → va_W → Prop} (F : pz_F B cX0_placeBid 4 none yX0_placeBid.cls g rmX0_placeBid) (Rt : pz_Rt B g wc Post rmX0_placeBid) (m : Int32) (c : Int32) (h0 : Nat) (h0_slices : Int32) (h0_inside : Int32) (h0_parts : Nat) (h0_bidders : Nat) (h0_bidCoins : Nat) (h0_bidCount : Int32) (h0_seen : Int32) (h0_spent : Int32) (bb : Nat → Int32) (bc : Nat → Int32) (b : Nat) (T2 : Int32 → Prop) (hT2 : ∀ (i : Int32), T2 i → paX0_placeBid_2 B g m c h0 h0_slices h0_inside h0_parts h0_bidders h0_bidCoins h0_bidCount h0_seen h0_spent bb bc b i) (i : Int32) (vc : ((h0_bidCount ≤ i → (((8 : Int32) ≤ h0_bidCount → Post none [(h0, .inr (0, [.int h0_slices, .int h0_inside, .ref h0_parts, .ref h0_bidders, .ref h0_bidCoins, .int h0_bidCount, .int h0_seen, .int h0_spent])), (h0_bidders, .inl (g.2.1 1, 8, .inl bb)), (h0_bidCoins, .inl (g.2.1 1, 8, .inl bc))]) ∧ (¬ (8 : Int32) ≤ h0_bidCount → vp_in h0_bidCount 8 ∧ ∀ f_4 : Nat → Int32, f_4 = upd bb h0_bidCount.toNatClampNeg m → vp_in h0_bidCount 8 ∧ ∀ f_6 : Nat → Int32, f_6 = upd bc h0_bidCount.toNatClampNeg c → ∀ x_7 : Int32, x_7 = (h0_bidCount + 1) → Post none [(h0, .inr (0, [.int h0_slices, .int h0_inside, .ref h0_parts, .ref h0_bidders, .ref h0_bidCoins, .int x_7, .int h0_seen, .int h0_spent])), (h0_bidders, .inl (g.2.1 1, 8, .inl f_4)), (h0_bidCoins, .inl (g.2.1 1, 8, .inl f_6))]))) ∧ (¬ h0_bidCount ≤ i → vp_in i 8 ∧ ((¬ (bb i.toNatClampNeg) = m → ∀ x_10 : Int32, x_10 = i + 1 → T2 x_10) ∧ ((bb i.toNatClampNeg) = m → vp_in i 8 ∧ ∀ f_12 : Nat → Int32, f_12 = upd bc i.toNatClampNeg c → Post none [(h0, .inr (0, [.int h0_slices, .int h0_inside, .ref h0_parts, .ref h0_bidders, .ref h0_bidCoins, .int h0_bidCount, .int h0_seen, .int h0_spent])), (h0_bidders, .inl (g.2.1 1, 8, .inl bb)), (h0_bidCoins, .inl (g.2.1 1, 8, .inl f_12))]))))) : pz_At B 0 0 2 [(0, .ref h0), (1, .int m), (2, .int c), (3, .int i)] [] [(h0, .inr (0, [.int h0_slices, .int h0_inside, .ref h0_parts, .ref h0_bidders, .ref h0_bidCoins, .int h0_bidCount, .int h0_seen, .int h0_spent])), (h0_bidders, .inl (g.2.1 1, 8, .inl bb)), (h0_bidCoins, .inl (g.2.1 1, 8, .inl bc))] := by
  refine pz_iload_n 3 F rfl dX0_placeBid_2 rfl ?_
  refine pz_aload_n 0 F rfl dX0_placeBid_3 rfl ?_
  refine pz_get (ci := 0) (C := RX0) (T := TX0) (N := 8) (v := .int h0_bidCount) 0 F rfl rfl pz_inX0 5 (by decide) pw_453 rfl dX0_placeBid_4 ?_
  refine pz_icmp_ge (tgt := 34) F dX0_placeBid_7 (by decide) (fun q_1 => ?_) (fun q_1 => ?_)
  · replace vc := vc.1 q_1
    refine pz_aload_n 0 F rfl dX0_placeBid_34 rfl ?_
    refine pz_get (ci := 0) (C := RX0) (T := TX0) (N := 8) (v := .int h0_bidCount) 0 F rfl rfl pz_inX0 5 (by decide) pw_453 rfl dX0_placeBid_35 ?_
    refine pz_bipush (v := 8) F dX0_placeBid_38 rfl ?_
    refine pz_icmp_ge (tgt := 73) F dX0_placeBid_40 (by decide) (fun q_2 => ?_) (fun q_2 => ?_)
    · replace vc := vc.1 q_2
      exact pz_return (w1 := [(h0, .inr (0, [.int h0_slices, .int h0_inside, .ref h0_parts, .ref h0_bidders, .ref h0_bidCoins, .int h0_bidCount, .int h0_seen, .int h0_spent])), (h0_bidders, .inl (g.2.1 1, 8, .inl bb)), (h0_bidCoins, .inl (g.2.1 1, 8, .inl bc))]) F Rt (by decide) (by decide) dX0_placeBid_73 [0, 1, 2] rfl rfl vc
    · replace vc := vc.2 q_2
      refine pz_aload_n 0 F rfl dX0_placeBid_43 rfl ?_
      refine pz_get (ci := 0) (C := RX0) (T := TX0) (N := 8) (v := .ref h0_bidders) 0 F rfl rfl pz_inX0 3 (by decide) pw_448 rfl dX0_placeBid_44 ?_
      refine pz_aload_n 0 F rfl dX0_placeBid_47 rfl ?_
      refine pz_get (ci := 0) (C := RX0) (T := TX0) (N := 8) (v := .int h0_bidCount) 0 F rfl rfl pz_inX0 5 (by decide) pw_453 rfl dX0_placeBid_48 ?_
      refine pz_iload_n 1 F rfl dX0_placeBid_51 rfl ?_
      obtain ⟨h_3, vc⟩ := vc
      obtain ⟨f_4, ef_4⟩ : ∃ z : Nat → Int32, z = upd bb h0_bidCount.toNatClampNeg m := ⟨_, rfl⟩
      replace vc := vc f_4 ef_4
      refine pz_iastore (ws' := [(h0, .inr (0, [.int h0_slices, .int h0_inside, .ref h0_parts, .ref h0_bidders, .ref h0_bidCoins, .int h0_bidCount, .int h0_seen, .int h0_spent])), (h0_bidders, .inl (g.2.1 1, 8, .inl f_4)), (h0_bidCoins, .inl (g.2.1 1, 8, .inl bc))]) F 1 rfl h_3 dX0_placeBid_52 (by rw [ef_4]; rfl) ?_
      refine pz_aload_n 0 F rfl dX0_placeBid_53 rfl ?_
      refine pz_get (ci := 0) (C := RX0) (T := TX0) (N := 8) (v := .ref h0_bidCoins) 0 F rfl rfl pz_inX0 4 (by decide) pw_450 rfl dX0_placeBid_54 ?_
      refine pz_aload_n 0 F rfl dX0_placeBid_57 rfl ?_
      refine pz_get (ci := 0) (C := RX0) (T := TX0) (N := 8) (v := .int h0_bidCount) 0 F rfl rfl pz_inX0 5 (by decide) pw_453 rfl dX0_placeBid_58 ?_
      refine pz_iload_n 2 F rfl dX0_placeBid_61 rfl ?_
      obtain ⟨h_5, vc⟩ := vc
      obtain ⟨f_6, ef_6⟩ : ∃ z : Nat → Int32, z = upd bc h0_bidCount.toNatClampNeg c := ⟨_, rfl⟩
      replace vc := vc f_6 ef_6
      refine pz_iastore (ws' := [(h0, .inr (0, [.int h0_slices, .int h0_inside, .ref h0_parts, .ref h0_bidders, .ref h0_bidCoins, .int h0_bidCount, .int h0_seen, .int h0_spent])), (h0_bidders, .inl (g.2.1 1, 8, .inl f_4)), (h0_bidCoins, .inl (g.2.1 1, 8, .inl f_6))]) F 2 rfl h_5 dX0_placeBid_62 (by rw [ef_6]; rfl) ?_
      refine pz_aload_n 0 F rfl dX0_placeBid_63 rfl ?_
      refine pz_dup F dX0_placeBid_64 rfl ?_
      refine pz_get (ci := 0) (C := RX0) (T := TX0) (N := 8) (v := .int h0_bidCount) 0 F rfl rfl pz_inX0 5 (by decide) pw_453 rfl dX0_placeBid_65 ?_
      refine pz_iconst (v := 1) F dX0_placeBid_68 rfl ?_
      refine pz_iadd F dX0_placeBid_69 ?_
      refine pz_topi (fun x_7 ex_7 => ?_)
      replace vc := vc x_7 ex_7
      refine pz_put (ws' := [(h0, .inr (0, [.int h0_slices, .int h0_inside, .ref h0_parts, .ref h0_bidders, .ref h0_bidCoins, .int x_7, .int h0_seen, .int h0_spent])), (h0_bidders, .inl (g.2.1 1, 8, .inl f_4)), (h0_bidCoins, .inl (g.2.1 1, 8, .inl f_6))]) (ci := 0) (C := RX0) (T := TX0) (N := 8) (v := .int x_7) (ty := .int) 0 F rfl rfl pz_inX0 5 (by decide) pw_453 tyX0_ok nmX0 rfl rfl rfl rfl (Nat.le_of_ble_eq_true rfl) dX0_placeBid_70 rfl ?_
      exact pz_return (w1 := [(h0, .inr (0, [.int h0_slices, .int h0_inside, .ref h0_parts, .ref h0_bidders, .ref h0_bidCoins, .int x_7, .int h0_seen, .int h0_spent])), (h0_bidders, .inl (g.2.1 1, 8, .inl f_4)), (h0_bidCoins, .inl (g.2.1 1, 8, .inl f_6))]) F Rt (by decide) (by decide) dX0_placeBid_73 [0, 1, 2] rfl rfl vc
  · replace vc := vc.2 q_1
    refine pz_aload_n 0 F rfl dX0_placeBid_10 rfl ?_
    refine pz_get (ci := 0) (C := RX0) (T := TX0) (N := 8) (v := .ref h0_bidders) 0 F rfl rfl pz_inX0 3 (by decide) pw_448 rfl dX0_placeBid_11 ?_
    refine pz_iload_n 3 F rfl dX0_placeBid_14 rfl ?_
    obtain ⟨h_8, vc⟩ := vc
    refine pz_iaload 1 F rfl h_8 dX0_placeBid_15 ?_
    refine pz_iload_n 1 F rfl dX0_placeBid_16 rfl ?_
    refine pz_icmp_ne (tgt := 28) F dX0_placeBid_17 (by decide) (fun q_9 => ?_) (fun q_9 => ?_)
    · replace vc := vc.1 q_9
      obtain ⟨x_10, ex_10⟩ : ∃ z : Int32, z = i + 1 := ⟨_, rfl⟩
      replace vc := vc x_10 ex_10
      refine pz_iinc (v := x_10) (lv' := [(3, .int x_10), (0, .ref h0), (1, .int m), (2, .int c)]) 3 F rfl dX0_placeBid_28 (by rw [ex_10]; rfl) (by decide) rfl ?_
      refine pz_goto (tgt := 2) F dX0_placeBid_31 (by decide) ?_
      exact pz_sub [1, 2, 3, 0] [0, 1, 2] rfl rfl rfl (hT2 x_10 vc)
    · replace vc := vc.2 q_9
      refine pz_aload_n 0 F rfl dX0_placeBid_20 rfl ?_
      refine pz_get (ci := 0) (C := RX0) (T := TX0) (N := 8) (v := .ref h0_bidCoins) 0 F rfl rfl pz_inX0 4 (by decide) pw_450 rfl dX0_placeBid_21 ?_
      refine pz_iload_n 3 F rfl dX0_placeBid_24 rfl ?_
      refine pz_iload_n 2 F rfl dX0_placeBid_25 rfl ?_
      obtain ⟨h_11, vc⟩ := vc
      obtain ⟨f_12, ef_12⟩ : ∃ z : Nat → Int32, z = upd bc i.toNatClampNeg c := ⟨_, rfl⟩
      replace vc := vc f_12 ef_12
      refine pz_iastore (ws' := [(h0, .inr (0, [.int h0_slices, .int h0_inside, .ref h0_parts, .ref h0_bidders, .ref h0_bidCoins, .int h0_bidCount, .int h0_seen, .int h0_spent])), (h0_bidders, .inl (g.2.1 1, 8, .inl bb)), (h0_bidCoins, .inl (g.2.1 1, 8, .inl f_12))]) F 2 rfl h_11 dX0_placeBid_26 (by rw [ef_12]; rfl) ?_
      exact pz_return (w1 := [(h0, .inr (0, [.int h0_slices, .int h0_inside, .ref h0_parts, .ref h0_bidders, .ref h0_bidCoins, .int h0_bidCount, .int h0_seen, .int h0_spent])), (h0_bidders, .inl (g.2.1 1, 8, .inl bb)), (h0_bidCoins, .inl (g.2.1 1, 8, .inl f_12))]) F Rt (by decide) (by decide) dX0_placeBid_27 [0, 1, 2] rfl rfl vc
theorem lpX0_placeBid_2 {B : pz_B} {g : pz_G} {wc : va_W} {Post : Option Value → va_W → Prop} (F : pz_F B cX0_placeBid 4 none yX0_placeBid.cls g rmX0_placeBid) (Rt : pz_Rt B g wc Post rmX0_placeBid) (m : Int32) (c : Int32) (h0 : Nat) (h0_slices : Int32) (h0_inside : Int32) (h0_parts : Nat) (h0_bidders : Nat) (h0_bidCoins : Nat) (h0_bidCount : Int32) (h0_seen : Int32) (h0_spent : Int32) (bb : Nat → Int32) (bc : Nat → Int32) (b : Nat) (Inv : Nat → Int32 → Prop) (step : ∀ (mz : Nat) (i : Int32), Inv mz i → ∀ TT : Int32 → Prop, TT = (fun i => ∃ mz', mz' < mz ∧ Inv mz' i) → ((h0_bidCount ≤ i → (((8 : Int32) ≤ h0_bidCount → Post none [(h0, .inr (0, [.int h0_slices, .int h0_inside, .ref h0_parts, .ref h0_bidders, .ref h0_bidCoins, .int h0_bidCount, .int h0_seen, .int h0_spent])), (h0_bidders, .inl (g.2.1 1, 8, .inl bb)), (h0_bidCoins, .inl (g.2.1 1, 8, .inl bc))]) ∧ (¬ (8 : Int32) ≤ h0_bidCount → vp_in h0_bidCount 8 ∧ ∀ f_4 : Nat → Int32, f_4 = upd bb h0_bidCount.toNatClampNeg m → vp_in h0_bidCount 8 ∧ ∀ f_6 : Nat → Int32, f_6 = upd bc h0_bidCount.toNatClampNeg c → ∀ x_7 : Int32, x_7 = (h0_bidCount + 1) → Post none [(h0, .inr (0, [.int h0_slices, .int h0_inside, .ref h0_parts, .ref h0_bidders, .ref h0_bidCoins, .int x_7, .int h0_seen, .int h0_spent])), (h0_bidders, .inl (g.2.1 1, 8, .inl f_4)), (h0_bidCoins, .inl (g.2.1 1, 8, .inl f_6))]))) ∧ (¬ h0_bidCount ≤ i → vp_in i 8 ∧ ((¬ (bb i.toNatClampNeg) = m → ∀ x_10 : Int32, x_10 = i + 1 → TT x_10) ∧ ((bb i.toNatClampNeg) = m → vp_in i 8 ∧ ∀ f_12 : Nat → Int32, f_12 = upd bc i.toNatClampNeg c → Post none [(h0, .inr (0, [.int h0_slices, .int h0_inside, .ref h0_parts, .ref h0_bidders, .ref h0_bidCoins, .int h0_bidCount, .int h0_seen, .int h0_spent])), (h0_bidders, .inl (g.2.1 1, 8, .inl bb)), (h0_bidCoins, .inl (g.2.1 1, 8, .inl f_12))]))))) : ∀ (mz : Nat) (i : Int32), Inv mz i → paX0_placeBid_2 B g m c h0 h0_slices h0_inside h0_parts h0_bidders h0_bidCoins h0_bidCount h0_seen h0_spent bb bc b i := by
  intro mz
  induction mz using Nat.strongRecOn with
  | _ mz ih =>
    intro i hI
    exact sgX0_placeBid_2 F Rt m c h0 h0_slices h0_inside h0_parts h0_bidders h0_bidCoins h0_bidCount h0_seen h0_spent bb bc b (fun i => ∃ mz', mz' < mz ∧ Inv mz' i) (fun i ⟨mz', h1, h2⟩ => ih mz' h1 i h2) i (step mz i hI _ rfl)
set_option maxHeartbeats 4000000 in
set_option maxRecDepth 100000 in
theorem ctX0_placeBid (l : Launch) (g : pz_G) (m : Int32) (c : Int32) (h0 : Nat) (h0_slices : Int32) (h0_inside : Int32) (h0_parts : Nat) (h0_bidders : Nat) (h0_bidCoins : Nat) (h0_bidCount : Int32) (h0_seen : Int32) (h0_spent : Int32) (bb : Nat → Int32) (bc : Nat → Int32) (b : Nat) (hpre : b ≤ 8 ∧ h0_bidCount = nI b) : pz_Ct l g yX0_placeBid cX0_placeBid 4 none rmX0_placeBid [.ref h0, .int m, .int c] [(h0, .inr (0, [.int h0_slices, .int h0_inside, .ref h0_parts, .ref h0_bidders, .ref h0_bidCoins, .int h0_bidCount, .int h0_seen, .int h0_spent])), (h0_bidders, .inl (g.2.1 1, 8, .inl bb)), (h0_bidCoins, .inl (g.2.1 1, 8, .inl bc))] (pz_pv (fun (u : (Nat → Int32) × (Nat → Int32) × Int32) => (∃ j, j < b ∧ bb j = m ∧ (∀ a, a < j → bb a ≠ m) ∧ u.1 = bb ∧ u.2.1 = upd bc j c ∧ u.2.2 = nI b) ∨ ((∀ a, a < b → bb a ≠ m) ∧ b < 8 ∧ u.1 = upd bb b m ∧ u.2.1 = upd bc b c ∧ u.2.2 = nI (b + 1)) ∨ ((∀ a, a < b → bb a ≠ m) ∧ b = 8 ∧ u.1 = bb ∧ u.2.1 = bc ∧ u.2.2 = nI b)) (fun (u : (Nat → Int32) × (Nat → Int32) × Int32) => [(h0, .inr (0, [.int h0_slices, .int h0_inside, .ref h0_parts, .ref h0_bidders, .ref h0_bidCoins, .int u.2.2, .int h0_seen, .int h0_spent])), (h0_bidders, .inl (g.2.1 1, 8, .inl u.1)), (h0_bidCoins, .inl (g.2.1 1, 8, .inl u.2.1))])) := by
  refine pz_ofAt (by decide +kernel) (Nat.le_of_ble_eq_true rfl) (fun B F Rt hme => ?_)
  obtain ⟨hb, hs⟩ := hpre
  subst hs
  refine sgX0_placeBid_0 F Rt m c h0 h0_slices h0_inside h0_parts h0_bidders h0_bidCoins (nI b) h0_seen h0_spent bb bc b _ (fun i h => lpX0_placeBid_2 F Rt m c h0 h0_slices h0_inside h0_parts h0_bidders h0_bidCoins (nI b) h0_seen h0_spent bb bc b (fun z i => ∃ j, j + z = b ∧ i = nI j ∧ (∀ a, a < j → bb a ≠ m)) ?_ b i h) ⟨0, by omega, nI_0.symm, fun a ha => absurd ha (by omega)⟩
  rintro z i ⟨j, hj, rfl, hp1⟩ TT rfl
  refine ⟨fun q => ?_, fun q => ?_⟩
  · have h1 := pu_ge (by omega) q
    have hp2 : ∀ a, a < b → bb a ≠ m := fun a ha => hp1 a (by omega)
    refine ⟨fun q2 => ?_, fun q2 => ?_⟩
    · have h3 : b = 8 := by
        have := pu_ge (n := 8) (j := b) (by omega) q2
        omega
      exact ⟨(_, _, _), rfl, rfl, Or.inr (Or.inr ⟨hp2, h3, rfl, rfl, rfl⟩)⟩
    · have h3 : b < 8 := pu_lt (n := 8) (j := b) (by omega) (by omega) q2
      have hin : vp_in (nI b) 8 := vp_in_nI (by omega) (by omega)
      refine ⟨hin, ?_⟩
      rintro f rfl
      refine ⟨hin, ?_⟩
      rintro f2 rfl x rfl
      rw [nI_clamp (by omega)]
      exact ⟨(_, _, _), rfl, rfl, Or.inr (Or.inl ⟨hp2, h3, rfl, rfl, nI_1 b⟩)⟩
  · have h1 := pu_lt (by omega) (by omega) q
    have hin : vp_in (nI j) 8 := vp_in_nI (by omega) (by omega)
    refine ⟨hin, ?_⟩
    rw [nI_clamp (by omega)]
    refine ⟨fun q2 => ?_, fun q2 => ?_⟩
    · rintro y rfl
      refine ⟨z - 1, by omega, j + 1, by omega, nI_1 j, fun a ha => ?_⟩
      by_cases hj2 : a = j
      · rw [hj2]; exact q2
      · exact hp1 a (by omega)
    · refine ⟨hin, ?_⟩
      rintro f rfl
      exact ⟨(_, _, _), rfl, rfl, Or.inl ⟨j, h1, q2, hp1, rfl, rfl, rfl⟩⟩
abbrev rmX7_hasRoom : Room := { frames := 0, cells := 0, slots := 0, locals := 0 }
set_option maxHeartbeats 4000000 in
set_option maxRecDepth 100000 in
theorem sgX7_hasRoom_0 {B : pz_B} {g : pz_G} {wc : va_W} {Post : Option Value → va_W → Prop} (F : pz_F B cX7_hasRoom 1 (some .boolean) yX7_hasRoom.cls g rmX7_hasRoom) (Rt : pz_Rt B g wc Post rmX7_hasRoom) (h0 : Nat) (hb : Nat) (ts : Int32)  (vc : (((400 : Int32) < (ts + 20) → Post (some (.int 0)) [(h0, .inr (6, [.ref hb, .int ts]))]) ∧ (¬ (400 : Int32) < (ts + 20) → Post (some (.int 1)) [(h0, .inr (6, [.ref hb, .int ts]))]))) : pz_At B 0 0 0 [(0, .ref h0)] [] [(h0, .inr (6, [.ref hb, .int ts]))] := by
  refine pz_aload_n 0 F rfl dX7_hasRoom_0 rfl ?_
  refine pz_get (ci := 6) (C := RX7) (T := TX7) (N := 2) (v := .int ts) 0 F rfl rfl pz_inX7 1 (by decide) pw_40 rfl dX7_hasRoom_1 ?_
  refine pz_bipush (v := 20) F dX7_hasRoom_4 rfl ?_
  refine pz_iadd F dX7_hasRoom_6 ?_
  refine pz_sipush (v := 400) F dX7_hasRoom_7 rfl ?_
  refine pz_icmp_gt (tgt := 17) F dX7_hasRoom_10 (by decide) (fun q_1 => ?_) (fun q_1 => ?_)
  · replace vc := vc.1 q_1
    refine pz_iconst (v := 0) F dX7_hasRoom_17 rfl ?_
    exact pz_ireturn (w1 := [(h0, .inr (6, [.ref hb, .int ts]))]) F Rt (by decide) (by decide) dX7_hasRoom_18 [0] rfl rfl rfl vc
  · replace vc := vc.2 q_1
    refine pz_iconst (v := 1) F dX7_hasRoom_13 rfl ?_
    refine pz_goto (tgt := 18) F dX7_hasRoom_14 (by decide) ?_
    exact pz_ireturn (w1 := [(h0, .inr (6, [.ref hb, .int ts]))]) F Rt (by decide) (by decide) dX7_hasRoom_18 [0] rfl rfl rfl vc
set_option maxHeartbeats 4000000 in
set_option maxRecDepth 100000 in
theorem ctX7_hasRoom (l : Launch) (g : pz_G) (h0 : Nat) (hb : Nat) (ts : Int32) : pz_Ct l g yX7_hasRoom cX7_hasRoom 1 (some .boolean) rmX7_hasRoom [.ref h0] [(h0, .inr (6, [.ref hb, .int ts]))] (pz_pi (fun (r : Int32) (u : Unit) => r = if 400 < ts + 20 then 0 else 1) (fun (u : Unit) => [(h0, .inr (6, [.ref hb, .int ts]))])) := by
  refine pz_ofAt (by decide +kernel) (Nat.le_of_ble_eq_true rfl) (fun B F Rt hme => ?_)
  refine sgX7_hasRoom_0 F Rt h0 hb ts ?_
  clear F Rt hme
  repeat' (first | apply And.intro | intro _)
  all_goals (try subst_vars)
  all_goals (first | exact ⟨_, (), rfl, rfl, rfl⟩ | exact ⟨_, (), rfl, rfl, by simp only [*, reduceIte, and_self, and_true, true_and, not_false_eq_true]⟩)
abbrev rmX7_append : Room := { frames := 0, cells := 0, slots := 0, locals := 0 }
abbrev paX7_append_3 (B : pz_B) (g : pz_G) (w : Int32) (h0 : Nat) (hb : Nat) (ts : Int32) (byt : Nat → Int32) (t : Nat) (i : Int32) (ts1 : Int32) (f1 : Nat → Int32) : Prop := pz_At B 0 0 3 [(0, .ref h0), (1, .int w), (2, .int i)] [] [(h0, .inr (6, [.ref hb, .int ts1])), (hb, .inl (g.2.1 0, 400, .inl f1))]
set_option maxHeartbeats 4000000 in
set_option maxRecDepth 100000 in
theorem sgX7_append_0 {B : pz_B} {g : pz_G} {wc : va_W} {Post : Option Value → va_W → Prop} (F : pz_F B cX7_append 3 none yX7_append.cls g rmX7_append) (Rt : pz_Rt B g wc Post rmX7_append) (w : Int32) (h0 : Nat) (hb : Nat) (ts : Int32) (byt : Nat → Int32) (t : Nat) (T3 : Int32 → Int32 → (Nat → Int32) → Prop) (hT3 : ∀ (i : Int32) (ts1 : Int32) (f1 : Nat → Int32), T3 i ts1 f1 → paX7_append_3 B g w h0 hb ts byt t i ts1 f1)  (vc : T3 24 ts byt) : pz_At B 0 0 0 [(0, .ref h0), (1, .int w)] [] [(h0, .inr (6, [.ref hb, .int ts])), (hb, .inl (g.2.1 0, 400, .inl byt))] := by
  refine pz_bipush (v := 24) F dX7_append_0 rfl ?_
  refine pz_istore_n (lv' := [(2, .int 24), (0, .ref h0), (1, .int w)]) F dX7_append_2 rfl (by decide) rfl ?_
  exact pz_sub [1, 2, 0] [0, 1] rfl rfl rfl (hT3 24 ts byt vc)
set_option maxHeartbeats 4000000 in
set_option maxRecDepth 100000 in
theorem sgX7_append_3 {B : pz_B} {g : pz_G} {wc : va_W} {Post : Option Value → va_W → Prop} (F : pz_F B cX7_append 3 none yX7_append.cls g rmX7_append) (Rt : pz_Rt B g wc Post rmX7_append) (w : Int32) (h0 : Nat) (hb : Nat) (ts : Int32) (byt : Nat → Int32) (t : Nat) (T3 : Int32 → Int32 → (Nat → Int32) → Prop) (hT3 : ∀ (i : Int32) (ts1 : Int32) (f1 : Nat → Int32), T3 i ts1 f1 → paX7_append_3 B g w h0 hb ts byt t i ts1 f1) (i : Int32) (ts1 : Int32) (f1 : Nat → Int32) (vc : ((i < 0 → Post none [(h0, .inr (6, [.ref hb, .int ts1])), (hb, .inl (g.2.1 0, 400, .inl f1))]) ∧ (¬ i < 0 → (((400 : Int32) ≤ ts1 → Post none [(h0, .inr (6, [.ref hb, .int ts1])), (hb, .inl (g.2.1 0, 400, .inl f1))]) ∧ (¬ (400 : Int32) ≤ ts1 → ∀ x_3 : Int32, x_3 = ((w >>> (i &&& 31)).toInt8.toInt32) → vp_in ts1 400 ∧ ∀ f_5 : Nat → Int32, f_5 = upd f1 ts1.toNatClampNeg (vp_nar .byte x_3) → ∀ x_6 : Int32, x_6 = (ts1 + 1) → ∀ x_7 : Int32, x_7 = i + (-8) → T3 x_7 x_6 f_5))))) : pz_At B 0 0 3 [(0, .ref h0), (1, .int w), (2, .int i)] [] [(h0, .inr (6, [.ref hb, .int ts1])), (hb, .inl (g.2.1 0, 400, .inl f1))] := by
  refine pz_iload_n 2 F rfl dX7_append_3 rfl ?_
  refine pz_if_lt (tgt := 46) F dX7_append_4 (by decide) (fun q_1 => ?_) (fun q_1 => ?_)
  · replace vc := vc.1 q_1
    exact pz_return (w1 := [(h0, .inr (6, [.ref hb, .int ts1])), (hb, .inl (g.2.1 0, 400, .inl f1))]) F Rt (by decide) (by decide) dX7_append_46 [0, 1] rfl rfl vc
  · replace vc := vc.2 q_1
    refine pz_aload_n 0 F rfl dX7_append_7 rfl ?_
    refine pz_get (ci := 6) (C := RX7) (T := TX7) (N := 2) (v := .int ts1) 0 F rfl rfl pz_inX7 1 (by decide) pw_40 rfl dX7_append_8 ?_
    refine pz_sipush (v := 400) F dX7_append_11 rfl ?_
    refine pz_icmp_ge (tgt := 46) F dX7_append_14 (by decide) (fun q_2 => ?_) (fun q_2 => ?_)
    · replace vc := vc.1 q_2
      exact pz_return (w1 := [(h0, .inr (6, [.ref hb, .int ts1])), (hb, .inl (g.2.1 0, 400, .inl f1))]) F Rt (by decide) (by decide) dX7_append_46 [0, 1] rfl rfl vc
    · replace vc := vc.2 q_2
      refine pz_aload_n 0 F rfl dX7_append_17 rfl ?_
      refine pz_get (ci := 6) (C := RX7) (T := TX7) (N := 2) (v := .ref hb) 0 F rfl rfl pz_inX7 0 (by decide) pw_38 rfl dX7_append_18 ?_
      refine pz_aload_n 0 F rfl dX7_append_21 rfl ?_
      refine pz_get (ci := 6) (C := RX7) (T := TX7) (N := 2) (v := .int ts1) 0 F rfl rfl pz_inX7 1 (by decide) pw_40 rfl dX7_append_22 ?_
      refine pz_iload_n 1 F rfl dX7_append_25 rfl ?_
      refine pz_iload_n 2 F rfl dX7_append_26 rfl ?_
      refine pz_ishr F dX7_append_27 ?_
      refine pz_i2b F dX7_append_28 ?_
      refine pz_topi (fun x_3 ex_3 => ?_)
      replace vc := vc x_3 ex_3
      obtain ⟨h_4, vc⟩ := vc
      obtain ⟨f_5, ef_5⟩ : ∃ z : Nat → Int32, z = upd f1 ts1.toNatClampNeg (vp_nar .byte x_3) := ⟨_, rfl⟩
      replace vc := vc f_5 ef_5
      refine pz_bastore (ws' := [(h0, .inr (6, [.ref hb, .int ts1])), (hb, .inl (g.2.1 0, 400, .inl f_5))]) F 1 rfl h_4 dX7_append_29 (by rw [ef_5]; rfl) ?_
      refine pz_aload_n 0 F rfl dX7_append_30 rfl ?_
      refine pz_dup F dX7_append_31 rfl ?_
      refine pz_get (ci := 6) (C := RX7) (T := TX7) (N := 2) (v := .int ts1) 0 F rfl rfl pz_inX7 1 (by decide) pw_40 rfl dX7_append_32 ?_
      refine pz_iconst (v := 1) F dX7_append_35 rfl ?_
      refine pz_iadd F dX7_append_36 ?_
      refine pz_topi (fun x_6 ex_6 => ?_)
      replace vc := vc x_6 ex_6
      refine pz_put (ws' := [(h0, .inr (6, [.ref hb, .int x_6])), (hb, .inl (g.2.1 0, 400, .inl f_5))]) (ci := 6) (C := RX7) (T := TX7) (N := 2) (v := .int x_6) (ty := .int) 0 F rfl rfl pz_inX7 1 (by decide) pw_40 tyX7_ok nmX7 rfl rfl rfl rfl (Nat.le_of_ble_eq_true rfl) dX7_append_37 rfl ?_
      obtain ⟨x_7, ex_7⟩ : ∃ z : Int32, z = i + (-8) := ⟨_, rfl⟩
      replace vc := vc x_7 ex_7
      refine pz_iinc (v := x_7) (lv' := [(2, .int x_7), (0, .ref h0), (1, .int w)]) 2 F rfl dX7_append_40 (by rw [ex_7]; rfl) (by decide) rfl ?_
      refine pz_goto (tgt := 3) F dX7_append_43 (by decide) ?_
      exact pz_sub [1, 2, 0] [0, 1] rfl rfl rfl (hT3 x_7 x_6 f_5 vc)
theorem lpX7_append_3 {B : pz_B} {g : pz_G} {wc : va_W} {Post : Option Value → va_W → Prop} (F : pz_F B cX7_append 3 none yX7_append.cls g rmX7_append) (Rt : pz_Rt B g wc Post rmX7_append) (w : Int32) (h0 : Nat) (hb : Nat) (ts : Int32) (byt : Nat → Int32) (t : Nat) (Inv : Nat → Int32 → Int32 → (Nat → Int32) → Prop) (step : ∀ (mz : Nat) (i : Int32) (ts1 : Int32) (f1 : Nat → Int32), Inv mz i ts1 f1 → ∀ TT : Int32 → Int32 → (Nat → Int32) → Prop, TT = (fun i ts1 f1 => ∃ mz', mz' < mz ∧ Inv mz' i ts1 f1) → ((i < 0 → Post none [(h0, .inr (6, [.ref hb, .int ts1])), (hb, .inl (g.2.1 0, 400, .inl f1))]) ∧ (¬ i < 0 → (((400 : Int32) ≤ ts1 → Post none [(h0, .inr (6, [.ref hb, .int ts1])), (hb, .inl (g.2.1 0, 400, .inl f1))]) ∧ (¬ (400 : Int32) ≤ ts1 → ∀ x_3 : Int32, x_3 = ((w >>> (i &&& 31)).toInt8.toInt32) → vp_in ts1 400 ∧ ∀ f_5 : Nat → Int32, f_5 = upd f1 ts1.toNatClampNeg (vp_nar .byte x_3) → ∀ x_6 : Int32, x_6 = (ts1 + 1) → ∀ x_7 : Int32, x_7 = i + (-8) → TT x_7 x_6 f_5))))) : ∀ (mz : Nat) (i : Int32) (ts1 : Int32) (f1 : Nat → Int32), Inv mz i ts1 f1 → paX7_append_3 B g w h0 hb ts byt t i ts1 f1 := by
  intro mz
  induction mz using Nat.strongRecOn with
  | _ mz ih =>
    intro i ts1 f1 hI
    exact sgX7_append_3 F Rt w h0 hb ts byt t (fun i ts1 f1 => ∃ mz', mz' < mz ∧ Inv mz' i ts1 f1) (fun i ts1 f1 ⟨mz', h1, h2⟩ => ih mz' h1 i ts1 f1 h2) i ts1 f1 (step mz i ts1 f1 hI _ rfl)
set_option maxHeartbeats 4000000 in
set_option maxRecDepth 100000 in
theorem ctX7_append (l : Launch) (g : pz_G) (w : Int32) (h0 : Nat) (hb : Nat) (ts : Int32) (byt : Nat → Int32) (t : Nat) (hpre : t + 4 ≤ 400 ∧ ts = nI t) : pz_Ct l g yX7_append cX7_append 3 none rmX7_append [.ref h0, .int w] [(h0, .inr (6, [.ref hb, .int ts])), (hb, .inl (g.2.1 0, 400, .inl byt))] (pz_pv (fun (u : Int32 × (Nat → Int32)) => u.1 = nI (t + 4) ∧ ∀ a, a < 400 → u.2 a = if a < t then byt a else if a < t + 4 then ((w >>> (nI (24 - 8 * (a - t)) &&& 31)).toInt8.toInt32) else byt a) (fun (u : Int32 × (Nat → Int32)) => [(h0, .inr (6, [.ref hb, .int u.1])), (hb, .inl (g.2.1 0, 400, .inl u.2))])) := by
  refine pz_ofAt (by decide +kernel) (Nat.le_of_ble_eq_true rfl) (fun B F Rt hme => ?_)
  obtain ⟨h4b, hs⟩ := hpre
  subst hs
  refine sgX7_append_0 F Rt w h0 hb (nI t) byt t _ (fun i ts1 f1 h => lpX7_append_3 F Rt w h0 hb (nI t) byt t (fun z i ts1 f1 => ∃ j, j + z = 4 ∧ (i = if j < 4 then nI (24 - 8 * j) else -8) ∧ ts1 = nI (t + j) ∧ (∀ a, a < 400 → f1 a = if a < t then byt a else if a < t + j then ((w >>> (nI (24 - 8 * (a - t)) &&& 31)).toInt8.toInt32) else byt a)) ?_ 4 i ts1 f1 h) ⟨0, by omega, rfl, rfl, fun a _ => by by_cases h : a < t <;> simp [h]⟩
  rintro z i ts1 f1 ⟨j, hj, hi, rfl, hf⟩ TT rfl
  by_cases hj4 : j < 4
  · rw [if_pos hj4] at hi
    subst hi
    have h0 : ¬ nI (24 - 8 * j) < 0 := nI_pos (by omega)
    refine ⟨fun q => absurd q h0, fun q => ⟨fun q2 => ?_, fun q2 => ?_⟩⟩
    · exact absurd (pu_ge (n := 400) (by omega) q2) (by omega)
    · have hin : vp_in (nI (t + j)) 400 := vp_in_nI (by omega) (by omega)
      rintro x rfl
      refine ⟨hin, ?_⟩
      rintro f rfl y rfl u rfl
      rw [nI_clamp (by omega)]
      refine ⟨z - 1, by omega, j + 1, by omega, ?_, by rw [nI_1]; rfl, fun a ha => ?_⟩
      · by_cases h3 : j + 1 < 4
        · rw [if_pos h3]
          have e : (-8 : Int32) = -nI 8 := rfl
          rw [show nI (24 - 8 * j) + (-8) = nI (24 - 8 * j) - nI 8 from by rw [e, Int32.sub_eq_add_neg], pk_sub (by omega)]
          congr 1
        · rw [if_neg h3, show j = 3 by omega]
          decide
      · by_cases hj2 : a = t + j
        · rw [hj2, pk_us, if_neg (by omega), if_pos (by omega), pk_vb, show t + j - t = j by omega]
        · rw [pk_un hj2, hf a ha]
          by_cases h5 : a < t
          · rw [if_pos h5, if_pos h5]
          · rw [if_neg h5, if_neg h5]
            by_cases h6 : a < t + j
            · rw [if_pos h6, if_pos (by omega)]
            · rw [if_neg h6, if_neg (by omega)]
  · have h4 : j = 4 := by omega
    subst h4
    rw [if_neg (by omega)] at hi
    subst hi
    refine ⟨fun q => ?_, fun q => absurd (by decide) q⟩
    exact ⟨(_, _), rfl, rfl, rfl, fun a ha => hf a ha⟩
