
abbrev rmX4_has : Room := { frames := 0, cells := 0, slots := 0, locals := 0 }
set_option maxHeartbeats 4000000 in
set_option maxRecDepth 100000 in
theorem sgX4_has_0 {B : pz_B} {g : pz_G} {wc : va_W} {Post : Option Value → va_W → Prop} (F : pz_F B cX4_has 2 (some .boolean) yX4_has.cls g rmX4_has) (Rt : pz_Rt B g wc Post rmX4_has) (h0 : Nat) (m : Int32) (hp : Nat) (hd : Nat) (sz : Int32)  (vc : ((m < 0 → Post (some (.int 0)) [(h0, .inr (3, [.ref hp, .ref hd, .int sz]))]) ∧ (¬ m < 0 → ((sz ≤ m → Post (some (.int 0)) [(h0, .inr (3, [.ref hp, .ref hd, .int sz]))]) ∧ (¬ sz ≤ m → Post (some (.int 1)) [(h0, .inr (3, [.ref hp, .ref hd, .int sz]))]))))) : pz_At B 0 0 0 [(0, .ref h0), (1, .int m)] [] [(h0, .inr (3, [.ref hp, .ref hd, .int sz]))] := by
  refine pz_iload_n 1 F rfl dX4_has_0 rfl ?_
  refine pz_if_lt (tgt := 16) F dX4_has_1 (by decide) (fun q_1 => ?_) (fun q_1 => ?_)
  · replace vc := vc.1 q_1
    refine pz_iconst (v := 0) F dX4_has_16 rfl ?_
    exact pz_ireturn (w1 := [(h0, .inr (3, [.ref hp, .ref hd, .int sz]))]) F Rt (by decide) (by decide) dX4_has_17 [0] rfl rfl rfl vc
  · replace vc := vc.2 q_1
    refine pz_iload_n 1 F rfl dX4_has_4 rfl ?_
    refine pz_aload_n 0 F rfl dX4_has_5 rfl ?_
    refine pz_get (ci := 3) (C := RX4) (T := TX4) (N := 3) (v := .int sz) 0 F rfl rfl pz_inX4 2 (by decide) pw_167 rfl dX4_has_6 ?_
    refine pz_icmp_ge (tgt := 16) F dX4_has_9 (by decide) (fun q_2 => ?_) (fun q_2 => ?_)
    · replace vc := vc.1 q_2
      refine pz_iconst (v := 0) F dX4_has_16 rfl ?_
      exact pz_ireturn (w1 := [(h0, .inr (3, [.ref hp, .ref hd, .int sz]))]) F Rt (by decide) (by decide) dX4_has_17 [0] rfl rfl rfl vc
    · replace vc := vc.2 q_2
      refine pz_iconst (v := 1) F dX4_has_12 rfl ?_
      refine pz_goto (tgt := 17) F dX4_has_13 (by decide) ?_
      exact pz_ireturn (w1 := [(h0, .inr (3, [.ref hp, .ref hd, .int sz]))]) F Rt (by decide) (by decide) dX4_has_17 [0] rfl rfl rfl vc
set_option maxHeartbeats 4000000 in
set_option maxRecDepth 100000 in
theorem ctX4_has (l : Launch) (g : pz_G) (h0 : Nat) (m : Int32) (hp : Nat) (hd : Nat) (sz : Int32) : pz_Ct l g yX4_has cX4_has 2 (some .boolean) rmX4_has [.ref h0, .int m] [(h0, .inr (3, [.ref hp, .ref hd, .int sz]))] (pz_pi (fun (r : Int32) (u : Unit) => r = if m < 0 then 0 else if sz ≤ m then 0 else 1) (fun (u : Unit) => [(h0, .inr (3, [.ref hp, .ref hd, .int sz]))])) := by
  refine pz_ofAt rfl (Nat.le_of_ble_eq_true rfl) (fun B F Rt hme => ?_)
  refine sgX4_has_0 F Rt h0 m hp hd sz ?_
  clear F Rt hme
  repeat' (first | apply And.intro | intro _)
  all_goals (first | exact ⟨_, (), rfl, rfl, rfl⟩ | exact ⟨_, (), rfl, rfl, by simp only [*, reduceIte, and_self, and_true, true_and, not_false_eq_true]⟩ | exact ⟨_, (), rfl, rfl, by subst_vars; simp only [*, reduceIte, and_self, and_true, true_and, not_false_eq_true]⟩)
abbrev rmX4_divide : Room := { frames := 0, cells := 0, slots := 0, locals := 0 }
abbrev paX4_divide_5 (B : pz_B) (g : pz_G) (c : Int32) (h0 : Nat) (hp : Nat) (hd : Nat) (sz : Int32) (du : Nat → Int32) (h3 : Nat) (h3_slices : Int32) (h3_inside : Int32) (hpa : Nat) (h3_bidders : Nat) (h3_bidCoins : Nat) (h3_bidCount : Int32) (h3_seen : Int32) (h3_spent : Int32) (pa : Nat → Int32) (n : Nat) (ov : Int32) (i : Int32) (d1 : Nat → Int32) : Prop := pz_At B 0 0 5 [(0, .ref h0), (1, .ref h3), (2, .int c), (3, .int ov), (4, .int i)] [] [(h0, .inr (3, [.ref hp, .ref hd, .int sz])), (hd, .inl (g.2.1 1, 8, .inl d1)), (h3, .inr (0, [.int h3_slices, .int h3_inside, .ref hpa, .ref h3_bidders, .ref h3_bidCoins, .int h3_bidCount, .int h3_seen, .int h3_spent])), (hpa, .inl (g.2.1 1, 8, .inl pa))]
abbrev paX4_divide_52 (B : pz_B) (g : pz_G) (c : Int32) (h0 : Nat) (hp : Nat) (hd : Nat) (sz : Int32) (du : Nat → Int32) (h3 : Nat) (h3_slices : Int32) (h3_inside : Int32) (hpa : Nat) (h3_bidders : Nat) (h3_bidCoins : Nat) (h3_bidCount : Int32) (h3_seen : Int32) (h3_spent : Int32) (pa : Nat → Int32) (n : Nat) (ov : Int32) (i : Int32) (d1 : Nat → Int32) : Prop := pz_At B 0 0 52 [(0, .ref h0), (1, .ref h3), (2, .int c), (3, .int ov), (4, .int i)] [] [(h0, .inr (3, [.ref hp, .ref hd, .int sz])), (hd, .inl (g.2.1 1, 8, .inl d1)), (h3, .inr (0, [.int h3_slices, .int h3_inside, .ref hpa, .ref h3_bidders, .ref h3_bidCoins, .int h3_bidCount, .int h3_seen, .int h3_spent])), (hpa, .inl (g.2.1 1, 8, .inl pa))]
set_option maxHeartbeats 4000000 in
set_option maxRecDepth 100000 in
theorem sgX4_divide_0 {B : pz_B} {g : pz_G} {wc : va_W} {Post : Option Value → va_W → Prop} (F : pz_F B cX4_divide 5 none yX4_divide.cls g rmX4_divide) (Rt : pz_Rt B g wc Post rmX4_divide) (c : Int32) (h0 : Nat) (hp : Nat) (hd : Nat) (sz : Int32) (du : Nat → Int32) (h3 : Nat) (h3_slices : Int32) (h3_inside : Int32) (hpa : Nat) (h3_bidders : Nat) (h3_bidCoins : Nat) (h3_bidCount : Int32) (h3_seen : Int32) (h3_spent : Int32) (pa : Nat → Int32) (n : Nat) (T5 : Int32 → Int32 → (Nat → Int32) → Prop) (hT5 : ∀ (ov : Int32) (i : Int32) (d1 : Nat → Int32), T5 ov i d1 → paX4_divide_5 B g c h0 hp hd sz du h3 h3_slices h3_inside hpa h3_bidders h3_bidCoins h3_bidCount h3_seen h3_spent pa n ov i d1)  (vc : T5 c 0 du) : pz_At B 0 0 0 [(0, .ref h0), (1, .ref h3), (2, .int c)] [] [(h0, .inr (3, [.ref hp, .ref hd, .int sz])), (hd, .inl (g.2.1 1, 8, .inl du)), (h3, .inr (0, [.int h3_slices, .int h3_inside, .ref hpa, .ref h3_bidders, .ref h3_bidCoins, .int h3_bidCount, .int h3_seen, .int h3_spent])), (hpa, .inl (g.2.1 1, 8, .inl pa))] := by
  refine pz_iload_n 2 F rfl dX4_divide_0 rfl ?_
  refine pz_istore_n (lv' := [(3, .int c), (0, .ref h0), (1, .ref h3), (2, .int c)]) F dX4_divide_1 rfl (by decide) rfl ?_
  refine pz_iconst (v := 0) F dX4_divide_2 rfl ?_
  refine pz_istore (lv' := [(4, .int 0), (3, .int c), (0, .ref h0), (1, .ref h3), (2, .int c)]) F dX4_divide_3 (by decide) rfl ?_
  exact pz_sub [2, 3, 4, 1, 0] [0, 1, 2, 3] rfl rfl rfl (hT5 c 0 du vc)
set_option maxHeartbeats 4000000 in
set_option maxRecDepth 100000 in
theorem sgX4_divide_5 {B : pz_B} {g : pz_G} {wc : va_W} {Post : Option Value → va_W → Prop} (F : pz_F B cX4_divide 5 none yX4_divide.cls g rmX4_divide) (Rt : pz_Rt B g wc Post rmX4_divide) (c : Int32) (h0 : Nat) (hp : Nat) (hd : Nat) (sz : Int32) (du : Nat → Int32) (h3 : Nat) (h3_slices : Int32) (h3_inside : Int32) (hpa : Nat) (h3_bidders : Nat) (h3_bidCoins : Nat) (h3_bidCount : Int32) (h3_seen : Int32) (h3_spent : Int32) (pa : Nat → Int32) (n : Nat) (T5 : Int32 → Int32 → (Nat → Int32) → Prop) (hT5 : ∀ (ov : Int32) (i : Int32) (d1 : Nat → Int32), T5 ov i d1 → paX4_divide_5 B g c h0 hp hd sz du h3 h3_slices h3_inside hpa h3_bidders h3_bidCoins h3_bidCount h3_seen h3_spent pa n ov i d1) (T52 : Int32 → Int32 → (Nat → Int32) → Prop) (hT52 : ∀ (ov : Int32) (i : Int32) (d1 : Nat → Int32), T52 ov i d1 → paX4_divide_52 B g c h0 hp hd sz du h3 h3_slices h3_inside hpa h3_bidders h3_bidCoins h3_bidCount h3_seen h3_spent pa n ov i d1) (ov : Int32) (i : Int32) (d1 : Nat → Int32) (vc : ((sz ≤ i → T52 ov 0 d1) ∧ (¬ sz ≤ i → vp_in i 8 ∧ ∀ x_3 : Int32, x_3 = ((pa i.toNatClampNeg) * c) / 16 → vp_in i 8 ∧ ∀ f_5 : Nat → Int32, f_5 = upd d1 i.toNatClampNeg x_3 → vp_in i 8 ∧ ∀ x_7 : Int32, x_7 = ov - (f_5 i.toNatClampNeg) → ∀ x_8 : Int32, x_8 = i + 1 → T5 x_7 x_8 f_5))) : pz_At B 0 0 5 [(0, .ref h0), (1, .ref h3), (2, .int c), (3, .int ov), (4, .int i)] [] [(h0, .inr (3, [.ref hp, .ref hd, .int sz])), (hd, .inl (g.2.1 1, 8, .inl d1)), (h3, .inr (0, [.int h3_slices, .int h3_inside, .ref hpa, .ref h3_bidders, .ref h3_bidCoins, .int h3_bidCount, .int h3_seen, .int h3_spent])), (hpa, .inl (g.2.1 1, 8, .inl pa))] := by
  refine pz_iload 4 F rfl dX4_divide_5 ?_
  refine pz_aload_n 0 F rfl dX4_divide_7 rfl ?_
  refine pz_get (ci := 3) (C := RX4) (T := TX4) (N := 3) (v := .int sz) 0 F rfl rfl pz_inX4 2 (by decide) pw_167 rfl dX4_divide_8 ?_
  refine pz_icmp_ge (tgt := 49) F dX4_divide_11 (by decide) (fun q_1 => ?_) (fun q_1 => ?_)
  · replace vc := vc.1 q_1
    refine pz_iconst (v := 0) F dX4_divide_49 rfl ?_
    refine pz_istore (lv' := [(4, .int 0), (0, .ref h0), (1, .ref h3), (2, .int c), (3, .int ov)]) F dX4_divide_50 (by decide) rfl ?_
    exact pz_sub [1, 2, 3, 4, 0] [0, 1, 2, 3] rfl rfl rfl (hT52 ov 0 d1 vc)
  · replace vc := vc.2 q_1
    refine pz_aload_n 0 F rfl dX4_divide_14 rfl ?_
    refine pz_get (ci := 3) (C := RX4) (T := TX4) (N := 3) (v := .ref hd) 0 F rfl rfl pz_inX4 1 (by decide) pw_166 rfl dX4_divide_15 ?_
    refine pz_iload 4 F rfl dX4_divide_18 ?_
    refine pz_aload_n 1 F rfl dX4_divide_20 rfl ?_
    refine pz_get (ci := 0) (C := RX0) (T := TX0) (N := 8) (v := .ref hpa) 2 F rfl rfl pz_inX0 2 (by decide) pw_446 rfl dX4_divide_21 ?_
    refine pz_iload 4 F rfl dX4_divide_24 ?_
    obtain ⟨h_2, vc⟩ := vc
    refine pz_iaload 3 F rfl h_2 dX4_divide_26 ?_
    refine pz_iload_n 2 F rfl dX4_divide_27 rfl ?_
    refine pz_imul F dX4_divide_28 ?_
    refine pz_bipush (v := 16) F dX4_divide_29 rfl ?_
    refine pz_idiv F (by decide) dX4_divide_31 ?_
    refine pz_topi (fun x_3 ex_3 => ?_)
    replace vc := vc x_3 ex_3
    obtain ⟨h_4, vc⟩ := vc
    obtain ⟨f_5, ef_5⟩ : ∃ z : Nat → Int32, z = upd d1 i.toNatClampNeg x_3 := ⟨_, rfl⟩
    replace vc := vc f_5 ef_5
    refine pz_iastore (ws' := [(h0, .inr (3, [.ref hp, .ref hd, .int sz])), (hd, .inl (g.2.1 1, 8, .inl f_5)), (h3, .inr (0, [.int h3_slices, .int h3_inside, .ref hpa, .ref h3_bidders, .ref h3_bidCoins, .int h3_bidCount, .int h3_seen, .int h3_spent])), (hpa, .inl (g.2.1 1, 8, .inl pa))]) F 1 rfl h_4 dX4_divide_32 (by rw [ef_5]; rfl) ?_
    refine pz_iload_n 3 F rfl dX4_divide_33 rfl ?_
    refine pz_aload_n 0 F rfl dX4_divide_34 rfl ?_
    refine pz_get (ci := 3) (C := RX4) (T := TX4) (N := 3) (v := .ref hd) 0 F rfl rfl pz_inX4 1 (by decide) pw_166 rfl dX4_divide_35 ?_
    refine pz_iload 4 F rfl dX4_divide_38 ?_
    obtain ⟨h_6, vc⟩ := vc
    refine pz_iaload 1 F rfl h_6 dX4_divide_40 ?_
    refine pz_isub F dX4_divide_41 ?_
    refine pz_topi (fun x_7 ex_7 => ?_)
    replace vc := vc x_7 ex_7
    refine pz_istore_n (lv' := [(3, .int x_7), (0, .ref h0), (1, .ref h3), (2, .int c), (4, .int i)]) F dX4_divide_42 rfl (by decide) rfl ?_
    obtain ⟨x_8, ex_8⟩ : ∃ z : Int32, z = i + 1 := ⟨_, rfl⟩
    replace vc := vc x_8 ex_8
    refine pz_iinc (v := x_8) (lv' := [(4, .int x_8), (3, .int x_7), (0, .ref h0), (1, .ref h3), (2, .int c)]) 4 F rfl dX4_divide_43 (by rw [ex_8]; rfl) (by decide) rfl ?_
    refine pz_goto (tgt := 5) F dX4_divide_46 (by decide) ?_
    exact pz_sub [2, 3, 4, 1, 0] [0, 1, 2, 3] rfl rfl rfl (hT5 x_7 x_8 f_5 vc)
theorem lpX4_divide_5 {B : pz_B} {g : pz_G} {wc : va_W} {Post : Option Value → va_W → Prop} (F : pz_F B cX4_divide 5 none yX4_divide.cls g rmX4_divide) (Rt : pz_Rt B g wc Post rmX4_divide) (c : Int32) (h0 : Nat) (hp : Nat) (hd : Nat) (sz : Int32) (du : Nat → Int32) (h3 : Nat) (h3_slices : Int32) (h3_inside : Int32) (hpa : Nat) (h3_bidders : Nat) (h3_bidCoins : Nat) (h3_bidCount : Int32) (h3_seen : Int32) (h3_spent : Int32) (pa : Nat → Int32) (n : Nat) (T52 : Int32 → Int32 → (Nat → Int32) → Prop) (hT52 : ∀ (ov : Int32) (i : Int32) (d1 : Nat → Int32), T52 ov i d1 → paX4_divide_52 B g c h0 hp hd sz du h3 h3_slices h3_inside hpa h3_bidders h3_bidCoins h3_bidCount h3_seen h3_spent pa n ov i d1) (Inv : Nat → Int32 → Int32 → (Nat → Int32) → Prop) (step : ∀ (m : Nat) (ov : Int32) (i : Int32) (d1 : Nat → Int32), Inv m ov i d1 → ∀ TT : Int32 → Int32 → (Nat → Int32) → Prop, TT = (fun ov i d1 => ∃ m', m' < m ∧ Inv m' ov i d1) → ((sz ≤ i → T52 ov 0 d1) ∧ (¬ sz ≤ i → vp_in i 8 ∧ ∀ x_3 : Int32, x_3 = ((pa i.toNatClampNeg) * c) / 16 → vp_in i 8 ∧ ∀ f_5 : Nat → Int32, f_5 = upd d1 i.toNatClampNeg x_3 → vp_in i 8 ∧ ∀ x_7 : Int32, x_7 = ov - (f_5 i.toNatClampNeg) → ∀ x_8 : Int32, x_8 = i + 1 → TT x_7 x_8 f_5))) : ∀ (m : Nat) (ov : Int32) (i : Int32) (d1 : Nat → Int32), Inv m ov i d1 → paX4_divide_5 B g c h0 hp hd sz du h3 h3_slices h3_inside hpa h3_bidders h3_bidCoins h3_bidCount h3_seen h3_spent pa n ov i d1 := by
  intro m
  induction m using Nat.strongRecOn with
  | _ m ih =>
    intro ov i d1 hI
    exact sgX4_divide_5 F Rt c h0 hp hd sz du h3 h3_slices h3_inside hpa h3_bidders h3_bidCoins h3_bidCount h3_seen h3_spent pa n (fun ov i d1 => ∃ m', m' < m ∧ Inv m' ov i d1) (fun ov i d1 ⟨m', h1, h2⟩ => ih m' h1 ov i d1 h2) T52 hT52 ov i d1 (step m ov i d1 hI _ rfl)
set_option maxHeartbeats 4000000 in
set_option maxRecDepth 100000 in
theorem sgX4_divide_52 {B : pz_B} {g : pz_G} {wc : va_W} {Post : Option Value → va_W → Prop} (F : pz_F B cX4_divide 5 none yX4_divide.cls g rmX4_divide) (Rt : pz_Rt B g wc Post rmX4_divide) (c : Int32) (h0 : Nat) (hp : Nat) (hd : Nat) (sz : Int32) (du : Nat → Int32) (h3 : Nat) (h3_slices : Int32) (h3_inside : Int32) (hpa : Nat) (h3_bidders : Nat) (h3_bidCoins : Nat) (h3_bidCount : Int32) (h3_seen : Int32) (h3_spent : Int32) (pa : Nat → Int32) (n : Nat) (T52 : Int32 → Int32 → (Nat → Int32) → Prop) (hT52 : ∀ (ov : Int32) (i : Int32) (d1 : Nat → Int32), T52 ov i d1 → paX4_divide_52 B g c h0 hp hd sz du h3 h3_slices h3_inside hpa h3_bidders h3_bidCoins h3_bidCount h3_seen h3_spent pa n ov i d1) (ov : Int32) (i : Int32) (d1 : Nat → Int32) (vc : ((sz ≤ i → Post none [(h0, .inr (3, [.ref hp, .ref hd, .int sz])), (hd, .inl (g.2.1 1, 8, .inl d1)), (h3, .inr (0, [.int h3_slices, .int h3_inside, .ref hpa, .ref h3_bidders, .ref h3_bidCoins, .int h3_bidCount, .int h3_seen, .int h3_spent])), (hpa, .inl (g.2.1 1, 8, .inl pa))]) ∧ (¬ sz ≤ i → ((ov ≤ 0 → Post none [(h0, .inr (3, [.ref hp, .ref hd, .int sz])), (hd, .inl (g.2.1 1, 8, .inl d1)), (h3, .inr (0, [.int h3_slices, .int h3_inside, .ref hpa, .ref h3_bidders, .ref h3_bidCoins, .int h3_bidCount, .int h3_seen, .int h3_spent])), (hpa, .inl (g.2.1 1, 8, .inl pa))]) ∧ (¬ ov ≤ 0 → vp_in i 8 ∧ (((pa i.toNatClampNeg) ≤ 0 → ∀ x_5 : Int32, x_5 = i + 1 → T52 ov x_5 d1) ∧ (¬ (pa i.toNatClampNeg) ≤ 0 → vp_in i 8 ∧ ∀ x_7 : Int32, x_7 = (d1 i.toNatClampNeg) + 1 → vp_in i 8 ∧ ∀ f_9 : Nat → Int32, f_9 = upd d1 i.toNatClampNeg x_7 → ∀ x_10 : Int32, x_10 = ov + (-1) → ∀ x_11 : Int32, x_11 = i + 1 → T52 x_10 x_11 f_9))))))) : pz_At B 0 0 52 [(0, .ref h0), (1, .ref h3), (2, .int c), (3, .int ov), (4, .int i)] [] [(h0, .inr (3, [.ref hp, .ref hd, .int sz])), (hd, .inl (g.2.1 1, 8, .inl d1)), (h3, .inr (0, [.int h3_slices, .int h3_inside, .ref hpa, .ref h3_bidders, .ref h3_bidCoins, .int h3_bidCount, .int h3_seen, .int h3_spent])), (hpa, .inl (g.2.1 1, 8, .inl pa))] := by
  refine pz_iload 4 F rfl dX4_divide_52 ?_
  refine pz_aload_n 0 F rfl dX4_divide_54 rfl ?_
  refine pz_get (ci := 3) (C := RX4) (T := TX4) (N := 3) (v := .int sz) 0 F rfl rfl pz_inX4 2 (by decide) pw_167 rfl dX4_divide_55 ?_
  refine pz_icmp_ge (tgt := 95) F dX4_divide_58 (by decide) (fun q_1 => ?_) (fun q_1 => ?_)
  · replace vc := vc.1 q_1
    exact pz_return (w1 := [(h0, .inr (3, [.ref hp, .ref hd, .int sz])), (hd, .inl (g.2.1 1, 8, .inl d1)), (h3, .inr (0, [.int h3_slices, .int h3_inside, .ref hpa, .ref h3_bidders, .ref h3_bidCoins, .int h3_bidCount, .int h3_seen, .int h3_spent])), (hpa, .inl (g.2.1 1, 8, .inl pa))]) F Rt (by decide) (by decide) dX4_divide_95 [0, 1, 2, 3] rfl rfl vc
  · replace vc := vc.2 q_1
    refine pz_iload_n 3 F rfl dX4_divide_61 rfl ?_
    refine pz_if_le (tgt := 95) F dX4_divide_62 (by decide) (fun q_2 => ?_) (fun q_2 => ?_)
    · replace vc := vc.1 q_2
      exact pz_return (w1 := [(h0, .inr (3, [.ref hp, .ref hd, .int sz])), (hd, .inl (g.2.1 1, 8, .inl d1)), (h3, .inr (0, [.int h3_slices, .int h3_inside, .ref hpa, .ref h3_bidders, .ref h3_bidCoins, .int h3_bidCount, .int h3_seen, .int h3_spent])), (hpa, .inl (g.2.1 1, 8, .inl pa))]) F Rt (by decide) (by decide) dX4_divide_95 [0, 1, 2, 3] rfl rfl vc
    · replace vc := vc.2 q_2
      refine pz_aload_n 1 F rfl dX4_divide_65 rfl ?_
      refine pz_get (ci := 0) (C := RX0) (T := TX0) (N := 8) (v := .ref hpa) 2 F rfl rfl pz_inX0 2 (by decide) pw_446 rfl dX4_divide_66 ?_
      refine pz_iload 4 F rfl dX4_divide_69 ?_
      obtain ⟨h_3, vc⟩ := vc
      refine pz_iaload 3 F rfl h_3 dX4_divide_71 ?_
      refine pz_if_le (tgt := 89) F dX4_divide_72 (by decide) (fun q_4 => ?_) (fun q_4 => ?_)
      · replace vc := vc.1 q_4
        obtain ⟨x_5, ex_5⟩ : ∃ z : Int32, z = i + 1 := ⟨_, rfl⟩
        replace vc := vc x_5 ex_5
        refine pz_iinc (v := x_5) (lv' := [(4, .int x_5), (0, .ref h0), (1, .ref h3), (2, .int c), (3, .int ov)]) 4 F rfl dX4_divide_89 (by rw [ex_5]; rfl) (by decide) rfl ?_
        refine pz_goto (tgt := 52) F dX4_divide_92 (by decide) ?_
        exact pz_sub [1, 2, 3, 4, 0] [0, 1, 2, 3] rfl rfl rfl (hT52 ov x_5 d1 vc)
      · replace vc := vc.2 q_4
        refine pz_aload_n 0 F rfl dX4_divide_75 rfl ?_
        refine pz_get (ci := 3) (C := RX4) (T := TX4) (N := 3) (v := .ref hd) 0 F rfl rfl pz_inX4 1 (by decide) pw_166 rfl dX4_divide_76 ?_
        refine pz_iload 4 F rfl dX4_divide_79 ?_
        refine pz_dup2 F dX4_divide_81 rfl rfl ?_
        obtain ⟨h_6, vc⟩ := vc
        refine pz_iaload 1 F rfl h_6 dX4_divide_82 ?_
        refine pz_iconst (v := 1) F dX4_divide_83 rfl ?_
        refine pz_iadd F dX4_divide_84 ?_
        refine pz_topi (fun x_7 ex_7 => ?_)
        replace vc := vc x_7 ex_7
        obtain ⟨h_8, vc⟩ := vc
        obtain ⟨f_9, ef_9⟩ : ∃ z : Nat → Int32, z = upd d1 i.toNatClampNeg x_7 := ⟨_, rfl⟩
        replace vc := vc f_9 ef_9
        refine pz_iastore (ws' := [(h0, .inr (3, [.ref hp, .ref hd, .int sz])), (hd, .inl (g.2.1 1, 8, .inl f_9)), (h3, .inr (0, [.int h3_slices, .int h3_inside, .ref hpa, .ref h3_bidders, .ref h3_bidCoins, .int h3_bidCount, .int h3_seen, .int h3_spent])), (hpa, .inl (g.2.1 1, 8, .inl pa))]) F 1 rfl h_8 dX4_divide_85 (by rw [ef_9]; rfl) ?_
        obtain ⟨x_10, ex_10⟩ : ∃ z : Int32, z = ov + (-1) := ⟨_, rfl⟩
        replace vc := vc x_10 ex_10
        refine pz_iinc (v := x_10) (lv' := [(3, .int x_10), (0, .ref h0), (1, .ref h3), (2, .int c), (4, .int i)]) 3 F rfl dX4_divide_86 (by rw [ex_10]; rfl) (by decide) rfl ?_
        obtain ⟨x_11, ex_11⟩ : ∃ z : Int32, z = i + 1 := ⟨_, rfl⟩
        replace vc := vc x_11 ex_11
        refine pz_iinc (v := x_11) (lv' := [(4, .int x_11), (3, .int x_10), (0, .ref h0), (1, .ref h3), (2, .int c)]) 4 F rfl dX4_divide_89 (by rw [ex_11]; rfl) (by decide) rfl ?_
        refine pz_goto (tgt := 52) F dX4_divide_92 (by decide) ?_
        exact pz_sub [2, 3, 4, 1, 0] [0, 1, 2, 3] rfl rfl rfl (hT52 x_10 x_11 f_9 vc)
theorem lpX4_divide_52 {B : pz_B} {g : pz_G} {wc : va_W} {Post : Option Value → va_W → Prop} (F : pz_F B cX4_divide 5 none yX4_divide.cls g rmX4_divide) (Rt : pz_Rt B g wc Post rmX4_divide) (c : Int32) (h0 : Nat) (hp : Nat) (hd : Nat) (sz : Int32) (du : Nat → Int32) (h3 : Nat) (h3_slices : Int32) (h3_inside : Int32) (hpa : Nat) (h3_bidders : Nat) (h3_bidCoins : Nat) (h3_bidCount : Int32) (h3_seen : Int32) (h3_spent : Int32) (pa : Nat → Int32) (n : Nat) (Inv : Nat → Int32 → Int32 → (Nat → Int32) → Prop) (step : ∀ (m : Nat) (ov : Int32) (i : Int32) (d1 : Nat → Int32), Inv m ov i d1 → ∀ TT : Int32 → Int32 → (Nat → Int32) → Prop, TT = (fun ov i d1 => ∃ m', m' < m ∧ Inv m' ov i d1) → ((sz ≤ i → Post none [(h0, .inr (3, [.ref hp, .ref hd, .int sz])), (hd, .inl (g.2.1 1, 8, .inl d1)), (h3, .inr (0, [.int h3_slices, .int h3_inside, .ref hpa, .ref h3_bidders, .ref h3_bidCoins, .int h3_bidCount, .int h3_seen, .int h3_spent])), (hpa, .inl (g.2.1 1, 8, .inl pa))]) ∧ (¬ sz ≤ i → ((ov ≤ 0 → Post none [(h0, .inr (3, [.ref hp, .ref hd, .int sz])), (hd, .inl (g.2.1 1, 8, .inl d1)), (h3, .inr (0, [.int h3_slices, .int h3_inside, .ref hpa, .ref h3_bidders, .ref h3_bidCoins, .int h3_bidCount, .int h3_seen, .int h3_spent])), (hpa, .inl (g.2.1 1, 8, .inl pa))]) ∧ (¬ ov ≤ 0 → vp_in i 8 ∧ (((pa i.toNatClampNeg) ≤ 0 → ∀ x_5 : Int32, x_5 = i + 1 → TT ov x_5 d1) ∧ (¬ (pa i.toNatClampNeg) ≤ 0 → vp_in i 8 ∧ ∀ x_7 : Int32, x_7 = (d1 i.toNatClampNeg) + 1 → vp_in i 8 ∧ ∀ f_9 : Nat → Int32, f_9 = upd d1 i.toNatClampNeg x_7 → ∀ x_10 : Int32, x_10 = ov + (-1) → ∀ x_11 : Int32, x_11 = i + 1 → TT x_10 x_11 f_9))))))) : ∀ (m : Nat) (ov : Int32) (i : Int32) (d1 : Nat → Int32), Inv m ov i d1 → paX4_divide_52 B g c h0 hp hd sz du h3 h3_slices h3_inside hpa h3_bidders h3_bidCoins h3_bidCount h3_seen h3_spent pa n ov i d1 := by
  intro m
  induction m using Nat.strongRecOn with
  | _ m ih =>
    intro ov i d1 hI
    exact sgX4_divide_52 F Rt c h0 hp hd sz du h3 h3_slices h3_inside hpa h3_bidders h3_bidCoins h3_bidCount h3_seen h3_spent pa n (fun ov i d1 => ∃ m', m' < m ∧ Inv m' ov i d1) (fun ov i d1 ⟨m', h1, h2⟩ => ih m' h1 ov i d1 h2) ov i d1 (step m ov i d1 hI _ rfl)
set_option maxHeartbeats 4000000 in
set_option maxRecDepth 100000 in
theorem ctX4_divide (l : Launch) (g : pz_G) (c : Int32) (h0 : Nat) (hp : Nat) (hd : Nat) (sz : Int32) (du : Nat → Int32) (h3 : Nat) (h3_slices : Int32) (h3_inside : Int32) (hpa : Nat) (h3_bidders : Nat) (h3_bidCoins : Nat) (h3_bidCount : Int32) (h3_seen : Int32) (h3_spent : Int32) (pa : Nat → Int32) (n : Nat) (hpre : n ≤ 8 ∧ sz = nI n) : pz_Ct l g yX4_divide cX4_divide 5 none rmX4_divide [.ref h0, .ref h3, .int c] [(h0, .inr (3, [.ref hp, .ref hd, .int sz])), (hd, .inl (g.2.1 1, 8, .inl du)), (h3, .inr (0, [.int h3_slices, .int h3_inside, .ref hpa, .ref h3_bidders, .ref h3_bidCoins, .int h3_bidCount, .int h3_seen, .int h3_spent])), (hpa, .inl (g.2.1 1, 8, .inl pa))] (pz_pv (fun (u : (Nat → Int32)) => ∀ a, a < n → u a = dv_f pa n c a) (fun (u : (Nat → Int32)) => [(h0, .inr (3, [.ref hp, .ref hd, .int sz])), (hd, .inl (g.2.1 1, 8, .inl u)), (h3, .inr (0, [.int h3_slices, .int h3_inside, .ref hpa, .ref h3_bidders, .ref h3_bidCoins, .int h3_bidCount, .int h3_seen, .int h3_spent])), (hpa, .inl (g.2.1 1, 8, .inl pa))])) := by
  refine pz_ofAt rfl (Nat.le_of_ble_eq_true rfl) (fun B F Rt hme => ?_)
  obtain ⟨hn, hs⟩ := hpre
  subst hs
  have h52 := lpX4_divide_52 F Rt c h0 hp hd (nI n) du h3 h3_slices h3_inside hpa h3_bidders h3_bidCoins h3_bidCount h3_seen h3_spent pa n (fun m ov i d => ∃ j, j + m = n ∧ i = nI j ∧ ov = dv_x pa (dv_o pa c n) j ∧ ∀ a, a < n → d a = if a < j then dv_f pa n c a else dv_q pa c a) (by
    rintro m ov i d ⟨j, hj, rfl, rfl, hd⟩ TT rfl
    refine ⟨fun q => ?_, fun q => ?_⟩
    · have hjn : j = n := by
        rcases Nat.lt_or_ge j n with h | h
        · exact absurd q (nI_ge h (by omega))
        · omega
      exact ⟨d, rfl, rfl, fun a ha => by rw [hd a ha, if_pos (by omega)]⟩
    · have hjn : j < n := by
        rcases Nat.lt_or_ge j n with h | h
        · exact h
        · exact absurd (nI_le h (by omega)) q
      have hin : vp_in (nI j) 8 := vp_in_nI (by omega) (by omega)
      have hcl : (nI j).toNatClampNeg = j := nI_clamp (by omega)
      refine ⟨fun q2 => ?_, fun q2 => ⟨hin, ⟨fun q3 => ?_, fun q3 => ?_⟩⟩⟩
      · refine ⟨d, rfl, rfl, fun a ha => ?_⟩
        rw [hd a ha]
        by_cases haj : a < j
        · rw [if_pos haj]
        · rw [if_neg haj]
          have hx : ∀ b, j ≤ b → dv_x pa (dv_o pa c n) b = dv_x pa (dv_o pa c n) j := by
            intro b hb
            induction b with
            | zero => rw [show j = 0 by omega]
            | succ b ih =>
              rcases Nat.lt_or_ge b j with h | h
              · rw [show j = b + 1 by omega]
              · rw [dv_x, ih h, if_neg (fun h => absurd h.1 (Int32.not_lt.mpr q2))]
          unfold dv_f
          rw [hx a (by omega), if_neg (fun h => absurd h.1 (Int32.not_lt.mpr q2))]
      · rintro x rfl
        refine ⟨m - 1, by omega, j + 1, by omega, nI_1 j, ?_, fun a ha => ?_⟩
        · rw [dv_x, if_neg (fun h => absurd h.2 (Int32.not_lt.mpr (by rw [hcl] at q3; exact q3)))]
        · rw [hd a ha]
          by_cases haj : a < j
          · rw [if_pos haj, if_pos (by omega)]
          · rw [if_neg haj]
            by_cases hj2 : a = j
            · rw [if_pos (by omega), hj2, dv_f, if_neg (fun h => absurd h.2 (Int32.not_lt.mpr (by rw [hcl] at q3; exact q3)))]
            · rw [if_neg (by omega)]
      · refine ⟨hin, ?_⟩
        rintro x rfl
        refine ⟨hin, ?_⟩
        rintro f rfl y rfl z rfl
        rw [hcl] at q3 ⊢
        have hc : 0 < dv_x pa (dv_o pa c n) j ∧ 0 < pa j := ⟨Int32.not_le.mp q2, Int32.not_le.mp q3⟩
        refine ⟨m - 1, by omega, j + 1, by omega, nI_1 j, ?_, fun a ha => ?_⟩
        · rw [dv_x, if_pos hc]
        · by_cases hj2 : a = j
          · rw [hj2, pk_us, if_pos (by omega), hd j hjn, if_neg (by omega), dv_f, if_pos hc]
          · rw [pk_un hj2, hd a ha]
            by_cases haj : a < j
            · rw [if_pos haj, if_pos (by omega)]
            · rw [if_neg haj, if_neg (by omega)])
  have h5 := lpX4_divide_5 F Rt c h0 hp hd (nI n) du h3 h3_slices h3_inside hpa h3_bidders h3_bidCoins h3_bidCount h3_seen h3_spent pa n (fun ov i d => ∃ j m, j + m = n ∧ i = nI j ∧ ov = dv_x pa (dv_o pa c n) j ∧ ∀ a, a < n → d a = if a < j then dv_f pa n c a else dv_q pa c a) (fun ov i d ⟨j, m, h⟩ => h52 m ov i d ⟨j, h⟩) (fun m ov i d => ∃ j, j + m = n ∧ i = nI j ∧ ov = dv_o pa c j ∧ ∀ a, a < j → d a = dv_q pa c a) (by
    rintro m ov i d ⟨j, hj, rfl, rfl, hd⟩ TT rfl
    refine ⟨fun q => ?_, fun q => ?_⟩
    · have hjn : j = n := by
        rcases Nat.lt_or_ge j n with h | h
        · exact absurd q (nI_ge h (by omega))
        · omega
      exact ⟨0, n, by omega, nI_0.symm, by rw [hjn]; rfl, fun a ha => by rw [if_neg (by omega)]; exact hd a (by omega)⟩
    · have hjn : j < n := by
        rcases Nat.lt_or_ge j n with h | h
        · exact h
        · exact absurd (nI_le h (by omega)) q
      have hin : vp_in (nI j) 8 := vp_in_nI (by omega) (by omega)
      have hcl : (nI j).toNatClampNeg = j := nI_clamp (by omega)
      refine ⟨hin, ?_⟩
      rintro x rfl
      refine ⟨hin, ?_⟩
      rintro f rfl
      refine ⟨hin, ?_⟩
      rintro y rfl z rfl
      rw [hcl]
      refine ⟨m - 1, by omega, j + 1, by omega, nI_1 j, by rw [pk_us]; rfl, fun a ha => ?_⟩
      by_cases hj2 : a = j
      · rw [hj2, pk_us]; rfl
      · rw [pk_un hj2]; exact hd a (by omega))
  exact sgX4_divide_0 F Rt c h0 hp hd (nI n) du h3 h3_slices h3_inside hpa h3_bidders h3_bidCoins h3_bidCount h3_seen h3_spent pa n _ (fun ov i d => h5 n ov i d) ⟨0, by omega, nI_0.symm, rfl, fun a ha => absurd ha (by omega)⟩
