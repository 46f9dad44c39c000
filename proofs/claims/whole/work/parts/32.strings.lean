
abbrev rmJ3_checkIndex_8e157n : Room := { frames := 0, cells := 0, slots := 0, locals := 0 }
set_option maxHeartbeats 4000000 in
set_option maxRecDepth 100000 in
theorem sgJ3_checkIndex_8e157n_0 {B : pz_B} {g : pz_G} {wc : va_W} {Post : Option Value → va_W → Prop} (F : pz_F B cJ3_checkIndex_8e157 3 (some .int) yJ3_checkIndex_8e157.cls g rmJ3_checkIndex_8e157n) (Rt : pz_Rt B g wc Post rmJ3_checkIndex_8e157n) (x : Int32) (y : Int32)  (vc : ((x < 0 → False) ∧ (¬ x < 0 → ((x < y → Post (some (.int x)) []) ∧ (¬ x < y → False))))) : pz_At B 0 0 0 [(0, .int x), (1, .int y), (2, .null)] [] [] := by
  refine pz_iload_n 0 F rfl dJ3_checkIndex_8e157_0 rfl ?_
  refine pz_if_lt (tgt := 9) F dJ3_checkIndex_8e157_1 (by decide) (fun q_1 => ?_) (fun q_1 => ?_)
  · replace vc := vc.1 q_1
    exact vc.elim
  · replace vc := vc.2 q_1
    refine pz_iload_n 0 F rfl dJ3_checkIndex_8e157_4 rfl ?_
    refine pz_iload_n 1 F rfl dJ3_checkIndex_8e157_5 rfl ?_
    refine pz_icmp_lt (tgt := 16) F dJ3_checkIndex_8e157_6 (by decide) (fun q_2 => ?_) (fun q_2 => ?_)
    · replace vc := vc.1 q_2
      refine pz_iload_n 0 F rfl dJ3_checkIndex_8e157_16 rfl ?_
      exact pz_ireturn (w1 := []) F Rt (by decide) (by decide) dJ3_checkIndex_8e157_17 [] rfl rfl rfl vc
    · replace vc := vc.2 q_2
      exact vc.elim
set_option maxHeartbeats 4000000 in
set_option maxRecDepth 100000 in
theorem ctJ3_checkIndex_8e157n (l : Launch) (g : pz_G) (x : Int32) (y : Int32) (hpre : ¬ x < 0 ∧ x < y) : pz_Ct l g yJ3_checkIndex_8e157 cJ3_checkIndex_8e157 3 (some .int) rmJ3_checkIndex_8e157n [.int x, .int y, .null] [] (pz_pi (fun (r : Int32) (u : Unit) => True) (fun (u : Unit) => [])) := by
  refine pz_ofAt (by decide +kernel) (Nat.le_of_ble_eq_true rfl) (fun B F Rt hme => ?_)
  refine sgJ3_checkIndex_8e157n_0 F Rt x y ?_
  exact ⟨fun q => absurd q hpre.1, fun _ => ⟨fun _ => ⟨_, (), rfl, rfl, trivial⟩, fun q => absurd hpre.2 q⟩⟩
abbrev rmJ3_checkIndex_8e157r : Room := { frames := 0, cells := 0, slots := 0, locals := 0 }
set_option maxHeartbeats 4000000 in
set_option maxRecDepth 100000 in
theorem sgJ3_checkIndex_8e157r_0 {B : pz_B} {g : pz_G} {wc : va_W} {Post : Option Value → va_W → Prop} (F : pz_F B cJ3_checkIndex_8e157 3 (some .int) yJ3_checkIndex_8e157.cls g rmJ3_checkIndex_8e157r) (Rt : pz_Rt B g wc Post rmJ3_checkIndex_8e157r) (x : Int32) (y : Int32) (q : Nat)  (vc : ((x < 0 → False) ∧ (¬ x < 0 → ((x < y → Post (some (.int x)) []) ∧ (¬ x < y → False))))) : pz_At B 0 0 0 [(0, .int x), (1, .int y), (2, .ref q)] [] [] := by
  refine pz_iload_n 0 F rfl dJ3_checkIndex_8e157_0 rfl ?_
  refine pz_if_lt (tgt := 9) F dJ3_checkIndex_8e157_1 (by decide) (fun q_1 => ?_) (fun q_1 => ?_)
  · replace vc := vc.1 q_1
    exact vc.elim
  · replace vc := vc.2 q_1
    refine pz_iload_n 0 F rfl dJ3_checkIndex_8e157_4 rfl ?_
    refine pz_iload_n 1 F rfl dJ3_checkIndex_8e157_5 rfl ?_
    refine pz_icmp_lt (tgt := 16) F dJ3_checkIndex_8e157_6 (by decide) (fun q_2 => ?_) (fun q_2 => ?_)
    · replace vc := vc.1 q_2
      refine pz_iload_n 0 F rfl dJ3_checkIndex_8e157_16 rfl ?_
      exact pz_ireturn (w1 := []) F Rt (by decide) (by decide) dJ3_checkIndex_8e157_17 [] rfl rfl rfl vc
    · replace vc := vc.2 q_2
      exact vc.elim
set_option maxHeartbeats 4000000 in
set_option maxRecDepth 100000 in
theorem ctJ3_checkIndex_8e157r (l : Launch) (g : pz_G) (x : Int32) (y : Int32) (q : Nat) (hpre : ¬ x < 0 ∧ x < y) : pz_Ct l g yJ3_checkIndex_8e157 cJ3_checkIndex_8e157 3 (some .int) rmJ3_checkIndex_8e157r [.int x, .int y, .ref q] [] (pz_pi (fun (r : Int32) (u : Unit) => True) (fun (u : Unit) => [])) := by
  refine pz_ofAt (by decide +kernel) (Nat.le_of_ble_eq_true rfl) (fun B F Rt hme => ?_)
  refine sgJ3_checkIndex_8e157r_0 F Rt x y q ?_
  exact ⟨fun q => absurd q hpre.1, fun _ => ⟨fun _ => ⟨_, (), rfl, rfl, trivial⟩, fun q => absurd hpre.2 q⟩⟩
abbrev rmJ0_checkIndex_df160 : Room := { frames := 1, cells := 0, slots := 0, locals := 22 }
set_option maxHeartbeats 4000000 in
set_option maxRecDepth 100000 in
theorem sgJ0_checkIndex_df160_0 {B : pz_B} {g : pz_G} {wc : va_W} {Post : Option Value → va_W → Prop} (F : pz_F B cJ0_checkIndex_df160 2 none yJ0_checkIndex_df160.cls g rmJ0_checkIndex_df160) (Rt : pz_Rt B g wc Post rmJ0_checkIndex_df160) (x : Int32) (y : Int32)  (vc : (((¬ x < 0 ∧ x < y) ∧ ∀ r_3 : Int32, ∀ _ : (True), Post none []) ∧ (∀ t_1 : Nat, (¬ x < 0 ∧ x < y) ∧ ∀ r_6 : Int32, ∀ _ : (True), Post none []))) : pz_At B 0 0 0 [(0, .int x), (1, .int y)] [] [] := by
  refine pz_iload_n 0 F rfl dJ0_checkIndex_df160_0 rfl ?_
  refine pz_iload_n 1 F rfl dJ0_checkIndex_df160_1 rfl ?_
  rcases pz_SIOO F with hZ | ⟨t_1, hZ⟩
  · replace vc := vc.1
    refine pz_gets F hZ pw_334 dJ0_checkIndex_df160_2 ?_
    obtain ⟨h_2, vc⟩ := vc
    refine pz_callS (nA := 3) (As := [.int x, .int y, .null]) (rest := []) (wr := []) F (ctJ3_checkIndex_8e157n _ g x y h_2) pw_336 pw_337 pw_12 pw_338 (by decide +kernel) (by decide) (by decide) rfl rfl (Nat.le_of_ble_eq_true rfl) [] [] rfl rfl rfl rfl (by decide) dJ0_checkIndex_df160_5 (fun r0 w0 hp0 => ?_)
    obtain ⟨r_3, _, rfl, rfl, hq_4⟩ := hp0
    replace vc := vc r_3  hq_4
    refine pz_eq (st' := [.int r_3]) (ws' := []) rfl rfl ?_
    refine pz_pop F dJ0_checkIndex_df160_8 rfl ?_
    exact pz_return (w1 := []) F Rt (by decide) (by decide) dJ0_checkIndex_df160_9 [] rfl rfl vc
  · replace vc := vc.2 t_1
    refine pz_gets F hZ pw_334 dJ0_checkIndex_df160_2 ?_
    obtain ⟨h_5, vc⟩ := vc
    refine pz_callS (nA := 3) (As := [.int x, .int y, .ref t_1]) (rest := []) (wr := []) F (ctJ3_checkIndex_8e157r _ g x y t_1 h_5) pw_336 pw_337 pw_12 pw_338 (by decide +kernel) (by decide) (by decide) rfl rfl (Nat.le_of_ble_eq_true rfl) [] [] rfl rfl rfl rfl (by decide) dJ0_checkIndex_df160_5 (fun r0 w0 hp0 => ?_)
    obtain ⟨r_6, _, rfl, rfl, hq_7⟩ := hp0
    replace vc := vc r_6  hq_7
    refine pz_eq (st' := [.int r_6]) (ws' := []) rfl rfl ?_
    refine pz_pop F dJ0_checkIndex_df160_8 rfl ?_
    exact pz_return (w1 := []) F Rt (by decide) (by decide) dJ0_checkIndex_df160_9 [] rfl rfl vc
set_option maxHeartbeats 4000000 in
set_option maxRecDepth 100000 in
theorem ctJ0_checkIndex_df160 (l : Launch) (g : pz_G) (x : Int32) (y : Int32) (hpre : ¬ x < 0 ∧ x < y) : pz_Ct l g yJ0_checkIndex_df160 cJ0_checkIndex_df160 2 none rmJ0_checkIndex_df160 [.int x, .int y] [] (pz_pv (fun (u : Unit) => True) (fun (u : Unit) => [])) := by
  refine pz_ofAt (by decide +kernel) (Nat.le_of_ble_eq_true rfl) (fun B F Rt hme => ?_)
  refine sgJ0_checkIndex_df160_0 F Rt x y ?_
  exact ⟨⟨hpre, fun _ _ => ⟨(), rfl, rfl, trivial⟩⟩, fun _ => ⟨hpre, fun _ _ => ⟨(), rfl, rfl, trivial⟩⟩⟩
abbrev rmJ1_charAt_3b067 : Room := { frames := 2, cells := 0, slots := 0, locals := 43 }
set_option maxHeartbeats 4000000 in
set_option maxRecDepth 100000 in
theorem sgJ1_charAt_3b067_0 {B : pz_B} {g : pz_G} {wc : va_W} {Post : Option Value → va_W → Prop} (F : pz_F B cJ1_charAt_3b067 2 (some .char) yJ1_charAt_3b067.cls g rmJ1_charAt_3b067) (Rt : pz_Rt B g wc Post rmJ1_charAt_3b067) (si : Nat) (x : Int32)  (vc : si < 14 ∧ (¬ x < 0 ∧ x < (nI (pz_ln si))) ∧ ∀ _ : (True), si < 14 ∧ vp_in x (pz_ln si) ∧ ∀ x_6 : Int32, x_6 = ((((pz_by si x.toNatClampNeg) &&& 255).toUInt32 % 65536).toInt32) → narrow .char (.int x_6) = .int x_6 ∧ Post (some (.int x_6)) []) : pz_At B 0 0 0 [(0, .ref (g.2.2 (60 + si))), (1, .int x)] [] [] := by
  refine pz_iload_n 1 F rfl dJ1_charAt_3b067_0 rfl ?_
  refine pz_aload_n 0 F rfl dJ1_charAt_3b067_1 rfl ?_
  obtain ⟨h_1, vc⟩ := vc
  refine pz_tlen (v := (nI (pz_ln si))) F (pz_strT F (i := si) h_1) rfl dJ1_charAt_3b067_2 ?_
  obtain ⟨h_2, vc⟩ := vc
  refine pz_callS (nA := 2) (As := [.int x, .int (nI (pz_ln si))]) (rest := []) (wr := []) F (ctJ0_checkIndex_df160 _ g x (nI (pz_ln si)) h_2) pw_331 pw_332 pw_10 pw_333 (by decide +kernel) (by decide) (by decide) rfl rfl (Nat.le_of_ble_eq_true rfl) [] [] rfl rfl rfl rfl (by decide) dJ1_charAt_3b067_3 (fun r0 w0 hp0 => ?_)
  obtain ⟨_, rfl, rfl, hq_3⟩ := hp0
  replace vc := vc  hq_3
  refine pz_eq (st' := []) (ws' := []) rfl rfl ?_
  refine pz_aload_n 0 F rfl dJ1_charAt_3b067_6 rfl ?_
  refine pz_iload_n 1 F rfl dJ1_charAt_3b067_7 rfl ?_
  obtain ⟨h_4, vc⟩ := vc
  obtain ⟨h_5, vc⟩ := vc
  refine pz_tb F (pz_strT F (i := si) h_4) h_5 rfl dJ1_charAt_3b067_8 ?_
  show pz_At B 0 0 9 [(0, .ref (g.2.2 (60 + si))), (1, .int x)] [.int (pz_by si x.toNatClampNeg)] []
  refine pz_sipush (v := 255) F dJ1_charAt_3b067_9 rfl ?_
  refine pz_iand F dJ1_charAt_3b067_12 ?_
  refine pz_i2c F dJ1_charAt_3b067_13 ?_
  refine pz_topi (fun x_6 ex_6 => ?_)
  replace vc := vc x_6 ex_6
  obtain ⟨h_7, vc⟩ := vc
  exact pz_ireturn (w1 := []) F Rt (by decide) (by decide) dJ1_charAt_3b067_14 [] rfl rfl h_7 vc
set_option maxHeartbeats 4000000 in
set_option maxRecDepth 100000 in
theorem ctJ1_charAt_3b067 (l : Launch) (g : pz_G) (si : Nat) (x : Int32) (hpre : si < 14 ∧ ¬ x < 0 ∧ x < nI (pz_ln si)) : pz_Ct l g yJ1_charAt_3b067 cJ1_charAt_3b067 2 (some .char) rmJ1_charAt_3b067 [.ref (g.2.2 (60 + si)), .int x] [] (pz_pi (fun (r : Int32) (u : Unit) => r = ((pz_by si x.toNatClampNeg &&& 255).toUInt32 % 65536).toInt32) (fun (u : Unit) => [])) := by
  refine pz_ofAt (by decide +kernel) (Nat.le_of_ble_eq_true rfl) (fun B F Rt hme => ?_)
  obtain ⟨h1, h2, h3⟩ := hpre
  refine sgJ1_charAt_3b067_0 F Rt si x ?_
  have hl : pz_ln si < 2 ^ 31 := by
    have : ∀ i, i < 14 → pz_ln i < 8 := by decide
    have := this si h1
    omega
  refine ⟨h1, ⟨h2, h3⟩, fun _ => ⟨h1, pu_in2 h2 h3 (nI_toInt hl), ?_⟩⟩
  rintro x rfl
  exact ⟨pk_nc _, _, (), rfl, rfl, rfl⟩
abbrev rmJ0_coder_7d493 : Room := { frames := 0, cells := 0, slots := 0, locals := 0 }
set_option maxHeartbeats 4000000 in
set_option maxRecDepth 100000 in
theorem sgJ0_coder_7d493_0 {B : pz_B} {g : pz_G} {wc : va_W} {Post : Option Value → va_W → Prop} (F : pz_F B cJ0_coder_7d493 1 (some .byte) yJ0_coder_7d493.cls g rmJ0_coder_7d493) (Rt : pz_Rt B g wc Post rmJ0_coder_7d493) (si : Nat)  (vc : (((1 : Int32) = 0 → False) ∧ (¬ (1 : Int32) = 0 → si < 14 ∧ Post (some (.int 0)) []))) : pz_At B 0 0 0 [(0, .ref (g.2.2 (30 + si)))] [] [] := by
  refine pz_gets F (pz_COMP F) pw_318 dJ0_coder_7d493_0 ?_
  refine pz_if_eq (tgt := 13) F dJ0_coder_7d493_3 (by decide) (fun q_1 => ?_) (fun q_1 => ?_)
  · replace vc := vc.1 q_1
    exact vc.elim
  · replace vc := vc.2 q_1
    refine pz_aload_n 0 F rfl dJ0_coder_7d493_6 rfl ?_
    obtain ⟨h_2, vc⟩ := vc
    refine pz_getO F (pz_strC F (i := si) h_2) pw_1152 dJ0_coder_7d493_7 ?_
    show pz_At B 0 0 10 [(0, .ref (g.2.2 (30 + si)))] [.int 0] []
    refine pz_goto (tgt := 14) F dJ0_coder_7d493_10 (by decide) ?_
    exact pz_ireturn (w1 := []) F Rt (by decide) (by decide) dJ0_coder_7d493_14 [] rfl rfl rfl vc
set_option maxHeartbeats 4000000 in
set_option maxRecDepth 100000 in
theorem ctJ0_coder_7d493 (l : Launch) (g : pz_G) (si : Nat) (hpre : si < 14) : pz_Ct l g yJ0_coder_7d493 cJ0_coder_7d493 1 (some .byte) rmJ0_coder_7d493 [.ref (g.2.2 (30 + si))] [] (pz_pi (fun (r : Int32) (u : Unit) => r = 0) (fun (u : Unit) => [])) := by
  refine pz_ofAt (by decide +kernel) (Nat.le_of_ble_eq_true rfl) (fun B F Rt hme => ?_)
  refine sgJ0_coder_7d493_0 F Rt si ?_
  exact ⟨fun q => absurd q (by decide), fun _ => ⟨hpre, _, (), rfl, rfl, rfl⟩⟩
abbrev rmJ0_isLatin1_aae02 : Room := { frames := 0, cells := 0, slots := 0, locals := 0 }
set_option maxHeartbeats 4000000 in
set_option maxRecDepth 100000 in
theorem sgJ0_isLatin1_aae02_0 {B : pz_B} {g : pz_G} {wc : va_W} {Post : Option Value → va_W → Prop} (F : pz_F B cJ0_isLatin1_aae02 1 (some .boolean) yJ0_isLatin1_aae02.cls g rmJ0_isLatin1_aae02) (Rt : pz_Rt B g wc Post rmJ0_isLatin1_aae02) (si : Nat)  (vc : (((1 : Int32) = 0 → Post (some (.int 0)) []) ∧ (¬ (1 : Int32) = 0 → si < 14 ∧ ((¬ (0 : Int32) = 0 → Post (some (.int 0)) []) ∧ ((0 : Int32) = 0 → Post (some (.int 1)) []))))) : pz_At B 0 0 0 [(0, .ref (g.2.2 (30 + si)))] [] [] := by
  refine pz_gets F (pz_COMP F) pw_318 dJ0_isLatin1_aae02_0 ?_
  refine pz_if_eq (tgt := 17) F dJ0_isLatin1_aae02_3 (by decide) (fun q_1 => ?_) (fun q_1 => ?_)
  · replace vc := vc.1 q_1
    refine pz_iconst (v := 0) F dJ0_isLatin1_aae02_17 rfl ?_
    exact pz_ireturn (w1 := []) F Rt (by decide) (by decide) dJ0_isLatin1_aae02_18 [] rfl rfl rfl vc
  · replace vc := vc.2 q_1
    refine pz_aload_n 0 F rfl dJ0_isLatin1_aae02_6 rfl ?_
    obtain ⟨h_2, vc⟩ := vc
    refine pz_getO F (pz_strC F (i := si) h_2) pw_1152 dJ0_isLatin1_aae02_7 ?_
    show pz_At B 0 0 10 [(0, .ref (g.2.2 (30 + si)))] [.int 0] []
    refine pz_if_ne (tgt := 17) F dJ0_isLatin1_aae02_10 (by decide) (fun q_3 => ?_) (fun q_3 => ?_)
    · replace vc := vc.1 q_3
      refine pz_iconst (v := 0) F dJ0_isLatin1_aae02_17 rfl ?_
      exact pz_ireturn (w1 := []) F Rt (by decide) (by decide) dJ0_isLatin1_aae02_18 [] rfl rfl rfl vc
    · replace vc := vc.2 q_3
      refine pz_iconst (v := 1) F dJ0_isLatin1_aae02_13 rfl ?_
      refine pz_goto (tgt := 18) F dJ0_isLatin1_aae02_14 (by decide) ?_
      exact pz_ireturn (w1 := []) F Rt (by decide) (by decide) dJ0_isLatin1_aae02_18 [] rfl rfl rfl vc
set_option maxHeartbeats 4000000 in
set_option maxRecDepth 100000 in
theorem ctJ0_isLatin1_aae02 (l : Launch) (g : pz_G) (si : Nat) (hpre : si < 14) : pz_Ct l g yJ0_isLatin1_aae02 cJ0_isLatin1_aae02 1 (some .boolean) rmJ0_isLatin1_aae02 [.ref (g.2.2 (30 + si))] [] (pz_pi (fun (r : Int32) (u : Unit) => r = 1) (fun (u : Unit) => [])) := by
  refine pz_ofAt (by decide +kernel) (Nat.le_of_ble_eq_true rfl) (fun B F Rt hme => ?_)
  refine sgJ0_isLatin1_aae02_0 F Rt si ?_
  exact ⟨fun q => absurd q (by decide), fun _ => ⟨hpre, fun q => absurd rfl q, fun _ => ⟨_, (), rfl, rfl, rfl⟩⟩⟩
abbrev rmJ0_length_8abf5 : Room := { frames := 1, cells := 0, slots := 0, locals := 20 }
set_option maxHeartbeats 4000000 in
set_option maxRecDepth 100000 in
theorem sgJ0_length_8abf5_0 {B : pz_B} {g : pz_G} {wc : va_W} {Post : Option Value → va_W → Prop} (F : pz_F B cJ0_length_8abf5 1 (some .int) yJ0_length_8abf5.cls g rmJ0_length_8abf5) (Rt : pz_Rt B g wc Post rmJ0_length_8abf5) (si : Nat)  (vc : si < 14 ∧ si < 14 ∧ (si < 14) ∧ si < 14 ∧ ∀ r_4 : Int32, ∀ _ : (r_4 = 0), ∀ x_7 : Int32, x_7 = ((nI (pz_ln si)) >>> (r_4 &&& 31)) → Post (some (.int x_7)) []) : pz_At B 0 0 0 [(0, .ref (g.2.2 (30 + si)))] [] [] := by
  refine pz_aload_n 0 F rfl dJ0_length_8abf5_0 rfl ?_
  obtain ⟨h_1, vc⟩ := vc
  refine pz_getO F (pz_strV F (i := si) h_1) pw_1151 dJ0_length_8abf5_1 ?_
  show pz_At B 0 0 4 [(0, .ref (g.2.2 (30 + si)))] [.ref (g.2.2 (60 + si))] []
  obtain ⟨h_2, vc⟩ := vc
  refine pz_tlen (v := (nI (pz_ln si))) F (pz_strT F (i := si) h_2) rfl dJ0_length_8abf5_4 ?_
  refine pz_aload_n 0 F rfl dJ0_length_8abf5_5 rfl ?_
  obtain ⟨h_3, vc⟩ := vc
  obtain ⟨h_5, vc⟩ := vc
  refine pz_callVr (nA := 0) (As := []) (rest := [.int (nI (pz_ln si))]) (wr := []) F (ctJ0_coder_7d493 _ g si h_3) (pz_strO F (i := si) h_5) pw_314 pw_315 pw_316 pw_10 pw_317 (by decide +kernel) (by decide) (by decide) rfl rfl (Nat.le_of_ble_eq_true rfl) [] [] rfl rfl rfl rfl (by decide) dJ0_length_8abf5_6 (fun r0 w0 hp0 => ?_)
  obtain ⟨r_4, _, rfl, rfl, hq_6⟩ := hp0
  replace vc := vc r_4  hq_6
  refine pz_eq (st' := [.int r_4, .int (nI (pz_ln si))]) (ws' := []) rfl rfl ?_
  refine pz_ishr F dJ0_length_8abf5_9 ?_
  refine pz_topi (fun x_7 ex_7 => ?_)
  replace vc := vc x_7 ex_7
  exact pz_ireturn (w1 := []) F Rt (by decide) (by decide) dJ0_length_8abf5_10 [] rfl rfl rfl vc
set_option maxHeartbeats 4000000 in
set_option maxRecDepth 100000 in
theorem ctJ0_length_8abf5 (l : Launch) (g : pz_G) (si : Nat) (hpre : si < 14) : pz_Ct l g yJ0_length_8abf5 cJ0_length_8abf5 1 (some .int) rmJ0_length_8abf5 [.ref (g.2.2 (30 + si))] [] (pz_pi (fun (r : Int32) (u : Unit) => r = nI (pz_ln si)) (fun (u : Unit) => [])) := by
  refine pz_ofAt (by decide +kernel) (Nat.le_of_ble_eq_true rfl) (fun B F Rt hme => ?_)
  refine sgJ0_length_8abf5_0 F Rt si ?_
  refine ⟨hpre, hpre, hpre, hpre, fun r hr => ?_⟩
  rintro x rfl
  exact ⟨_, (), rfl, rfl, by rw [hr]; exact sb_shr0 _⟩
abbrev rmJ0_isEmpty_aae02 : Room := { frames := 0, cells := 0, slots := 0, locals := 0 }
set_option maxHeartbeats 4000000 in
set_option maxRecDepth 100000 in
theorem sgJ0_isEmpty_aae02_0 {B : pz_B} {g : pz_G} {wc : va_W} {Post : Option Value → va_W → Prop} (F : pz_F B cJ0_isEmpty_aae02 1 (some .boolean) yJ0_isEmpty_aae02.cls g rmJ0_isEmpty_aae02) (Rt : pz_Rt B g wc Post rmJ0_isEmpty_aae02) (si : Nat)  (vc : si < 14 ∧ si < 14 ∧ ((¬ (nI (pz_ln si)) = 0 → Post (some (.int 0)) []) ∧ ((nI (pz_ln si)) = 0 → Post (some (.int 1)) []))) : pz_At B 0 0 0 [(0, .ref (g.2.2 (30 + si)))] [] [] := by
  refine pz_aload_n 0 F rfl dJ0_isEmpty_aae02_0 rfl ?_
  obtain ⟨h_1, vc⟩ := vc
  refine pz_getO F (pz_strV F (i := si) h_1) pw_1151 dJ0_isEmpty_aae02_1 ?_
  show pz_At B 0 0 4 [(0, .ref (g.2.2 (30 + si)))] [.ref (g.2.2 (60 + si))] []
  obtain ⟨h_2, vc⟩ := vc
  refine pz_tlen (v := (nI (pz_ln si))) F (pz_strT F (i := si) h_2) rfl dJ0_isEmpty_aae02_4 ?_
  refine pz_if_ne (tgt := 12) F dJ0_isEmpty_aae02_5 (by decide) (fun q_3 => ?_) (fun q_3 => ?_)
  · replace vc := vc.1 q_3
    refine pz_iconst (v := 0) F dJ0_isEmpty_aae02_12 rfl ?_
    exact pz_ireturn (w1 := []) F Rt (by decide) (by decide) dJ0_isEmpty_aae02_13 [] rfl rfl rfl vc
  · replace vc := vc.2 q_3
    refine pz_iconst (v := 1) F dJ0_isEmpty_aae02_8 rfl ?_
    refine pz_goto (tgt := 13) F dJ0_isEmpty_aae02_9 (by decide) ?_
    exact pz_ireturn (w1 := []) F Rt (by decide) (by decide) dJ0_isEmpty_aae02_13 [] rfl rfl rfl vc
set_option maxHeartbeats 4000000 in
set_option maxRecDepth 100000 in
theorem ctJ0_isEmpty_aae02 (l : Launch) (g : pz_G) (si : Nat) (hpre : si < 14) : pz_Ct l g yJ0_isEmpty_aae02 cJ0_isEmpty_aae02 1 (some .boolean) rmJ0_isEmpty_aae02 [.ref (g.2.2 (30 + si))] [] (pz_pi (fun (r : Int32) (u : Unit) => r = if pz_ln si = 0 then 1 else 0) (fun (u : Unit) => [])) := by
  refine pz_ofAt (by decide +kernel) (Nat.le_of_ble_eq_true rfl) (fun B F Rt hme => ?_)
  refine sgJ0_isEmpty_aae02_0 F Rt si ?_
  have hl : pz_ln si < 2 ^ 31 := by
    have : ∀ i, i < 14 → pz_ln i < 8 := by decide
    have := this si hpre
    omega
  refine ⟨hpre, hpre, fun q => ⟨_, (), rfl, rfl, ?_⟩, fun q => ⟨_, (), rfl, rfl, ?_⟩⟩
  · rw [if_neg (fun e => q (by rw [e]; rfl))]
  · rw [if_pos]
    rcases Nat.eq_zero_or_pos (pz_ln si) with h | h
    · exact h
    · exact absurd q (nI_ne0 h hl)
abbrev rmJ0_charAt_5068e : Room := { frames := 3, cells := 0, slots := 0, locals := 64 }
set_option maxHeartbeats 4000000 in
set_option maxRecDepth 100000 in
theorem sgJ0_charAt_5068e_0 {B : pz_B} {g : pz_G} {wc : va_W} {Post : Option Value → va_W → Prop} (F : pz_F B cJ0_charAt_5068e 2 (some .char) yJ0_charAt_5068e.cls g rmJ0_charAt_5068e) (Rt : pz_Rt B g wc Post rmJ0_charAt_5068e) (si : Nat) (x : Int32)  (vc : (si < 14) ∧ si < 14 ∧ ∀ r_2 : Int32, ∀ _ : (r_2 = 1), ((r_2 = 0 → False) ∧ (¬ r_2 = 0 → si < 14 ∧ (si < 14 ∧ ¬ x < 0 ∧ x < nI (pz_ln si)) ∧ ∀ r_8 : Int32, ∀ _ : (r_8 = ((pz_by si x.toNatClampNeg &&& 255).toUInt32 % 65536).toInt32), narrow .char (.int r_8) = .int r_8 ∧ Post (some (.int r_8)) []))) : pz_At B 0 0 0 [(0, .ref (g.2.2 (30 + si))), (1, .int x)] [] [] := by
  refine pz_aload_n 0 F rfl dJ0_charAt_5068e_0 rfl ?_
  obtain ⟨h_1, vc⟩ := vc
  obtain ⟨h_3, vc⟩ := vc
  refine pz_callVr (nA := 0) (As := []) (rest := []) (wr := []) F (ctJ0_isLatin1_aae02 _ g si h_1) (pz_strO F (i := si) h_3) pw_324 pw_325 pw_326 pw_10 pw_327 (by decide +kernel) (by decide) (by decide) rfl rfl (Nat.le_of_ble_eq_true rfl) [] [] rfl rfl rfl rfl (by decide) dJ0_charAt_5068e_1 (fun r0 w0 hp0 => ?_)
  obtain ⟨r_2, _, rfl, rfl, hq_4⟩ := hp0
  replace vc := vc r_2  hq_4
  refine pz_eq (st' := [.int r_2]) (ws' := []) rfl rfl ?_
  refine pz_if_eq (tgt := 16) F dJ0_charAt_5068e_4 (by decide) (fun q_5 => ?_) (fun q_5 => ?_)
  · replace vc := vc.1 q_5
    exact vc.elim
  · replace vc := vc.2 q_5
    refine pz_aload_n 0 F rfl dJ0_charAt_5068e_7 rfl ?_
    obtain ⟨h_6, vc⟩ := vc
    refine pz_getO F (pz_strV F (i := si) h_6) pw_1151 dJ0_charAt_5068e_8 ?_
    show pz_At B 0 0 11 [(0, .ref (g.2.2 (30 + si))), (1, .int x)] [.ref (g.2.2 (60 + si))] []
    refine pz_iload_n 1 F rfl dJ0_charAt_5068e_11 rfl ?_
    obtain ⟨h_7, vc⟩ := vc
    refine pz_callS (nA := 2) (As := [.ref (g.2.2 (60 + si)), .int x]) (rest := []) (wr := []) F (ctJ1_charAt_3b067 _ g si x h_7) pw_328 pw_329 pw_11 pw_330 (by decide +kernel) (by decide) (by decide) rfl rfl (Nat.le_of_ble_eq_true rfl) [] [] rfl rfl rfl rfl (by decide) dJ0_charAt_5068e_12 (fun r0 w0 hp0 => ?_)
    obtain ⟨r_8, _, rfl, rfl, hq_9⟩ := hp0
    replace vc := vc r_8  hq_9
    refine pz_eq (st' := [.int r_8]) (ws' := []) rfl rfl ?_
    obtain ⟨h_10, vc⟩ := vc
    exact pz_ireturn (w1 := []) F Rt (by decide) (by decide) dJ0_charAt_5068e_15 [] rfl rfl h_10 vc
set_option maxHeartbeats 4000000 in
set_option maxRecDepth 100000 in
theorem ctJ0_charAt_5068e (l : Launch) (g : pz_G) (si : Nat) (x : Int32) (hpre : si < 14 ∧ ¬ x < 0 ∧ x < nI (pz_ln si)) : pz_Ct l g yJ0_charAt_5068e cJ0_charAt_5068e 2 (some .char) rmJ0_charAt_5068e [.ref (g.2.2 (30 + si)), .int x] [] (pz_pi (fun (r : Int32) (u : Unit) => r = ((pz_by si x.toNatClampNeg &&& 255).toUInt32 % 65536).toInt32) (fun (u : Unit) => [])) := by
  refine pz_ofAt (by decide +kernel) (Nat.le_of_ble_eq_true rfl) (fun B F Rt hme => ?_)
  refine sgJ0_charAt_5068e_0 F Rt si x ?_
  refine ⟨hpre.1, hpre.1, fun r hr => ⟨fun q => absurd (hr.symm.trans q) (by decide), fun _ => ⟨hpre.1, hpre, fun r2 hr2 => ⟨by rw [hr2]; exact pk_nc _, _, (), rfl, rfl, hr2⟩⟩⟩⟩
abbrev rmX3_isChoice : Room := { frames := 1, cells := 0, slots := 0, locals := 20 }
set_option maxHeartbeats 4000000 in
set_option maxRecDepth 100000 in
theorem sgX3_isChoice_0 {B : pz_B} {g : pz_G} {wc : va_W} {Post : Option Value → va_W → Prop} (F : pz_F B cX3_isChoice 1 (some .boolean) yX3_isChoice.cls g rmX3_isChoice) (Rt : pz_Rt B g wc Post rmX3_isChoice) (li : Nat)  (vc : li < 9 ∧ ((pz_us.getD li 13) < 14) ∧ (pz_us.getD li 13) < 14 ∧ ∀ r_3 : Int32, ∀ _ : (r_3 = if pz_ln (pz_us.getD li 13) = 0 then 1 else 0), ((¬ r_3 = 0 → Post (some (.int 0)) []) ∧ (r_3 = 0 → Post (some (.int 1)) []))) : pz_At B 0 0 0 [(0, .ref (g.2.2 li))] [] [] := by
  refine pz_aload_n 0 F rfl dX3_isChoice_0 rfl ?_
  obtain ⟨h_1, vc⟩ := vc
  refine pz_getX (i := li) F (pz_lineU F) h_1 pw_1154 dX3_isChoice_1 ?_
  show pz_At B 0 0 4 [(0, .ref (g.2.2 li))] [.ref (g.2.2 (30 + (pz_us.getD li 13)))] []
  obtain ⟨h_2, vc⟩ := vc
  obtain ⟨h_4, vc⟩ := vc
  refine pz_callVr (nA := 0) (As := []) (rest := []) (wr := []) F (ctJ0_isEmpty_aae02 _ g (pz_us.getD li 13) h_2) (pz_strO F (i := (pz_us.getD li 13)) h_4) pw_377 pw_378 pw_379 pw_10 pw_380 (by decide +kernel) (by decide) (by decide) rfl rfl (Nat.le_of_ble_eq_true rfl) [] [] rfl rfl rfl rfl (by decide) dX3_isChoice_4 (fun r0 w0 hp0 => ?_)
  obtain ⟨r_3, _, rfl, rfl, hq_5⟩ := hp0
  replace vc := vc r_3  hq_5
  refine pz_eq (st' := [.int r_3]) (ws' := []) rfl rfl ?_
  refine pz_if_ne (tgt := 14) F dX3_isChoice_7 (by decide) (fun q_6 => ?_) (fun q_6 => ?_)
  · replace vc := vc.1 q_6
    refine pz_iconst (v := 0) F dX3_isChoice_14 rfl ?_
    exact pz_ireturn (w1 := []) F Rt (by decide) (by decide) dX3_isChoice_15 [] rfl rfl rfl vc
  · replace vc := vc.2 q_6
    refine pz_iconst (v := 1) F dX3_isChoice_10 rfl ?_
    refine pz_goto (tgt := 15) F dX3_isChoice_11 (by decide) ?_
    exact pz_ireturn (w1 := []) F Rt (by decide) (by decide) dX3_isChoice_15 [] rfl rfl rfl vc
set_option maxHeartbeats 4000000 in
set_option maxRecDepth 100000 in
theorem ctX3_isChoice (l : Launch) (g : pz_G) (li : Nat) (hpre : li < 9) : pz_Ct l g yX3_isChoice cX3_isChoice 1 (some .boolean) rmX3_isChoice [.ref (g.2.2 li)] [] (pz_pi (fun (r : Int32) (u : Unit) => r = if pz_ln (pz_us.getD li 13) = 0 then 0 else 1) (fun (u : Unit) => [])) := by
  refine pz_ofAt (by decide +kernel) (Nat.le_of_ble_eq_true rfl) (fun B F Rt hme => ?_)
  refine sgX3_isChoice_0 F Rt li ?_
  have hu : pz_us.getD li 13 < 14 := by
    have : ∀ i, i < 9 → pz_us.getD i 13 < 14 := by decide
    exact this li hpre
  refine ⟨hpre, hu, hu, fun r hr => ⟨fun q => ⟨_, (), rfl, rfl, ?_⟩, fun q => ⟨_, (), rfl, rfl, ?_⟩⟩⟩
  · by_cases h : pz_ln (pz_us.getD li 13) = 0
    · rw [if_pos h]
    · rw [if_neg h] at hr
      exact absurd hr q
  · by_cases h : pz_ln (pz_us.getD li 13) = 0
    · rw [if_pos h] at hr
      rw [hr] at q
      exact absurd q (by decide)
    · rw [if_neg h]
