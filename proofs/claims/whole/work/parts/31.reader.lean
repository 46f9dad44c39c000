
abbrev rmX5_isBlank : Room := { frames := 0, cells := 0, slots := 0, locals := 0 }
set_option maxHeartbeats 4000000 in
set_option maxRecDepth 100000 in
theorem sgX5_isBlank_0 {B : pz_B} {g : pz_G} {wc : va_W} {Post : Option Value → va_W → Prop} (F : pz_F B cX5_isBlank 1 (some .boolean) yX5_isBlank.cls g rmX5_isBlank) (Rt : pz_Rt B g wc Post rmX5_isBlank) (s : Int32)  (vc : ((s = 10 → Post (some (.int 1)) []) ∧ (¬ s = 10 → ((¬ s = 32 → Post (some (.int 0)) []) ∧ (s = 32 → Post (some (.int 1)) []))))) : pz_At B 0 0 0 [(0, .int s)] [] [] := by
  refine pz_iload_n 0 F rfl dX5_isBlank_0 rfl ?_
  refine pz_bipush (v := 10) F dX5_isBlank_1 rfl ?_
  refine pz_icmp_eq (tgt := 12) F dX5_isBlank_3 (by decide) (fun q_1 => ?_) (fun q_1 => ?_)
  · replace vc := vc.1 q_1
    refine pz_iconst (v := 1) F dX5_isBlank_12 rfl ?_
    refine pz_goto (tgt := 17) F dX5_isBlank_13 (by decide) ?_
    exact pz_ireturn (w1 := []) F Rt (by decide) (by decide) dX5_isBlank_17 [] rfl rfl rfl vc
  · replace vc := vc.2 q_1
    refine pz_iload_n 0 F rfl dX5_isBlank_6 rfl ?_
    refine pz_bipush (v := 32) F dX5_isBlank_7 rfl ?_
    refine pz_icmp_ne (tgt := 16) F dX5_isBlank_9 (by decide) (fun q_2 => ?_) (fun q_2 => ?_)
    · replace vc := vc.1 q_2
      refine pz_iconst (v := 0) F dX5_isBlank_16 rfl ?_
      exact pz_ireturn (w1 := []) F Rt (by decide) (by decide) dX5_isBlank_17 [] rfl rfl rfl vc
    · replace vc := vc.2 q_2
      refine pz_iconst (v := 1) F dX5_isBlank_12 rfl ?_
      refine pz_goto (tgt := 17) F dX5_isBlank_13 (by decide) ?_
      exact pz_ireturn (w1 := []) F Rt (by decide) (by decide) dX5_isBlank_17 [] rfl rfl rfl vc
set_option maxHeartbeats 4000000 in
set_option maxRecDepth 100000 in
theorem ctX5_isBlank (l : Launch) (g : pz_G) (s : Int32) : pz_Ct l g yX5_isBlank cX5_isBlank 1 (some .boolean) rmX5_isBlank [.int s] [] (pz_pi (fun (r : Int32) (u : Unit) => r = if pu_bl s = true then 1 else 0) (fun (u : Unit) => [])) := by
  refine pz_ofAt (by decide +kernel) (Nat.le_of_ble_eq_true rfl) (fun B F Rt hme => ?_)
  refine sgX5_isBlank_0 F Rt s ?_
  refine ⟨fun q => ⟨_, (), rfl, rfl, ?_⟩, fun q => ⟨fun q2 => ⟨_, (), rfl, rfl, ?_⟩, fun q2 => ⟨_, (), rfl, rfl, ?_⟩⟩⟩ <;> simp [pu_bl, *]
abbrev rmX5_isLetter : Room := { frames := 0, cells := 0, slots := 0, locals := 0 }
set_option maxHeartbeats 4000000 in
set_option maxRecDepth 100000 in
theorem sgX5_isLetter_0 {B : pz_B} {g : pz_G} {wc : va_W} {Post : Option Value → va_W → Prop} (F : pz_F B cX5_isLetter 1 (some .boolean) yX5_isLetter.cls g rmX5_isLetter) (Rt : pz_Rt B g wc Post rmX5_isLetter) (s : Int32)  (vc : ((s < 97 → Post (some (.int 0)) []) ∧ (¬ s < 97 → (((122 : Int32) < s → Post (some (.int 0)) []) ∧ (¬ (122 : Int32) < s → Post (some (.int 1)) []))))) : pz_At B 0 0 0 [(0, .int s)] [] [] := by
  refine pz_iload_n 0 F rfl dX5_isLetter_0 rfl ?_
  refine pz_bipush (v := 97) F dX5_isLetter_1 rfl ?_
  refine pz_icmp_lt (tgt := 16) F dX5_isLetter_3 (by decide) (fun q_1 => ?_) (fun q_1 => ?_)
  · replace vc := vc.1 q_1
    refine pz_iconst (v := 0) F dX5_isLetter_16 rfl ?_
    exact pz_ireturn (w1 := []) F Rt (by decide) (by decide) dX5_isLetter_17 [] rfl rfl rfl vc
  · replace vc := vc.2 q_1
    refine pz_iload_n 0 F rfl dX5_isLetter_6 rfl ?_
    refine pz_bipush (v := 122) F dX5_isLetter_7 rfl ?_
    refine pz_icmp_gt (tgt := 16) F dX5_isLetter_9 (by decide) (fun q_2 => ?_) (fun q_2 => ?_)
    · replace vc := vc.1 q_2
      refine pz_iconst (v := 0) F dX5_isLetter_16 rfl ?_
      exact pz_ireturn (w1 := []) F Rt (by decide) (by decide) dX5_isLetter_17 [] rfl rfl rfl vc
    · replace vc := vc.2 q_2
      refine pz_iconst (v := 1) F dX5_isLetter_12 rfl ?_
      refine pz_goto (tgt := 17) F dX5_isLetter_13 (by decide) ?_
      exact pz_ireturn (w1 := []) F Rt (by decide) (by decide) dX5_isLetter_17 [] rfl rfl rfl vc
set_option maxHeartbeats 4000000 in
set_option maxRecDepth 100000 in
theorem ctX5_isLetter (l : Launch) (g : pz_G) (s : Int32) : pz_Ct l g yX5_isLetter cX5_isLetter 1 (some .boolean) rmX5_isLetter [.int s] [] (pz_pi (fun (r : Int32) (u : Unit) => r = if pu_le s = true then 1 else 0) (fun (u : Unit) => [])) := by
  refine pz_ofAt (by decide +kernel) (Nat.le_of_ble_eq_true rfl) (fun B F Rt hme => ?_)
  refine sgX5_isLetter_0 F Rt s ?_
  refine ⟨fun q => ⟨_, (), rfl, rfl, ?_⟩, fun q => ⟨fun q2 => ⟨_, (), rfl, rfl, ?_⟩, fun q2 => ⟨_, (), rfl, rfl, ?_⟩⟩⟩
  · rw [if_neg]; simp only [pu_le, Bool.and_eq_true, decide_eq_true_eq]; exact fun h => absurd q (Int32.not_lt.mpr h.1)
  · rw [if_neg]; simp only [pu_le, Bool.and_eq_true, decide_eq_true_eq]; exact fun h => absurd q2 (Int32.not_lt.mpr h.2)
  · rw [if_pos]; simp only [pu_le, Bool.and_eq_true, decide_eq_true_eq]; exact ⟨Int32.not_lt.mp q, Int32.not_lt.mp q2⟩
abbrev rmX5_isDigit : Room := { frames := 0, cells := 0, slots := 0, locals := 0 }
set_option maxHeartbeats 4000000 in
set_option maxRecDepth 100000 in
theorem sgX5_isDigit_0 {B : pz_B} {g : pz_G} {wc : va_W} {Post : Option Value → va_W → Prop} (F : pz_F B cX5_isDigit 1 (some .boolean) yX5_isDigit.cls g rmX5_isDigit) (Rt : pz_Rt B g wc Post rmX5_isDigit) (s : Int32)  (vc : ((s < 48 → Post (some (.int 0)) []) ∧ (¬ s < 48 → (((57 : Int32) < s → Post (some (.int 0)) []) ∧ (¬ (57 : Int32) < s → Post (some (.int 1)) []))))) : pz_At B 0 0 0 [(0, .int s)] [] [] := by
  refine pz_iload_n 0 F rfl dX5_isDigit_0 rfl ?_
  refine pz_bipush (v := 48) F dX5_isDigit_1 rfl ?_
  refine pz_icmp_lt (tgt := 16) F dX5_isDigit_3 (by decide) (fun q_1 => ?_) (fun q_1 => ?_)
  · replace vc := vc.1 q_1
    refine pz_iconst (v := 0) F dX5_isDigit_16 rfl ?_
    exact pz_ireturn (w1 := []) F Rt (by decide) (by decide) dX5_isDigit_17 [] rfl rfl rfl vc
  · replace vc := vc.2 q_1
    refine pz_iload_n 0 F rfl dX5_isDigit_6 rfl ?_
    refine pz_bipush (v := 57) F dX5_isDigit_7 rfl ?_
    refine pz_icmp_gt (tgt := 16) F dX5_isDigit_9 (by decide) (fun q_2 => ?_) (fun q_2 => ?_)
    · replace vc := vc.1 q_2
      refine pz_iconst (v := 0) F dX5_isDigit_16 rfl ?_
      exact pz_ireturn (w1 := []) F Rt (by decide) (by decide) dX5_isDigit_17 [] rfl rfl rfl vc
    · replace vc := vc.2 q_2
      refine pz_iconst (v := 1) F dX5_isDigit_12 rfl ?_
      refine pz_goto (tgt := 17) F dX5_isDigit_13 (by decide) ?_
      exact pz_ireturn (w1 := []) F Rt (by decide) (by decide) dX5_isDigit_17 [] rfl rfl rfl vc
set_option maxHeartbeats 4000000 in
set_option maxRecDepth 100000 in
theorem ctX5_isDigit (l : Launch) (g : pz_G) (s : Int32) : pz_Ct l g yX5_isDigit cX5_isDigit 1 (some .boolean) rmX5_isDigit [.int s] [] (pz_pi (fun (r : Int32) (u : Unit) => r = if pu_di s = true then 1 else 0) (fun (u : Unit) => [])) := by
  refine pz_ofAt (by decide +kernel) (Nat.le_of_ble_eq_true rfl) (fun B F Rt hme => ?_)
  refine sgX5_isDigit_0 F Rt s ?_
  refine ⟨fun q => ⟨_, (), rfl, rfl, ?_⟩, fun q => ⟨fun q2 => ⟨_, (), rfl, rfl, ?_⟩, fun q2 => ⟨_, (), rfl, rfl, ?_⟩⟩⟩
  · rw [if_neg]; simp only [pu_di, Bool.and_eq_true, decide_eq_true_eq]; exact fun h => absurd q (Int32.not_lt.mpr h.1)
  · rw [if_neg]; simp only [pu_di, Bool.and_eq_true, decide_eq_true_eq]; exact fun h => absurd q2 (Int32.not_lt.mpr h.2)
  · rw [if_pos]; simp only [pu_di, Bool.and_eq_true, decide_eq_true_eq]; exact ⟨Int32.not_lt.mp q, Int32.not_lt.mp q2⟩
abbrev rmX5_signAt : Room := { frames := 0, cells := 0, slots := 0, locals := 0 }
set_option maxHeartbeats 4000000 in
set_option maxRecDepth 100000 in
theorem sgX5_signAt_0 {B : pz_B} {g : pz_G} {wc : va_W} {Post : Option Value → va_W → Prop} (F : pz_F B cX5_signAt 2 (some .int) yX5_signAt.cls g rmX5_signAt) (Rt : pz_Rt B g wc Post rmX5_signAt) (p : Int32) (h0 : Nat) (ht : Nat) (en : Int32) (tk : Int32) (sa : Int32) (bh : Int32) (nu : Int32) (hb : Nat) (ts : Int32) (byt : Nat → Int32) (j : Nat) (e : Nat)  (vc : ((p < 0 → Post (some (.int (-1))) [(h0, .inr (4, [.ref ht, .int en, .int tk, .int sa, .int bh, .int nu])), (ht, .inr (6, [.ref hb, .int ts])), (hb, .inl (g.2.1 0, 400, .inl byt))]) ∧ (¬ p < 0 → ((en ≤ p → Post (some (.int (-1))) [(h0, .inr (4, [.ref ht, .int en, .int tk, .int sa, .int bh, .int nu])), (ht, .inr (6, [.ref hb, .int ts])), (hb, .inl (g.2.1 0, 400, .inl byt))]) ∧ (¬ en ≤ p → ((p < 400 → vp_in p 400 ∧ ∀ x_5 : Int32, x_5 = ((byt p.toNatClampNeg) &&& 255) → Post (some (.int x_5)) [(h0, .inr (4, [.ref ht, .int en, .int tk, .int sa, .int bh, .int nu])), (ht, .inr (6, [.ref hb, .int ts])), (hb, .inl (g.2.1 0, 400, .inl byt))]) ∧ (¬ p < 400 → Post (some (.int (-1))) [(h0, .inr (4, [.ref ht, .int en, .int tk, .int sa, .int bh, .int nu])), (ht, .inr (6, [.ref hb, .int ts])), (hb, .inl (g.2.1 0, 400, .inl byt))]))))))) : pz_At B 0 0 0 [(0, .ref h0), (1, .int p)] [] [(h0, .inr (4, [.ref ht, .int en, .int tk, .int sa, .int bh, .int nu])), (ht, .inr (6, [.ref hb, .int ts])), (hb, .inl (g.2.1 0, 400, .inl byt))] := by
  refine pz_aload_n 0 F rfl dX5_signAt_0 rfl ?_
  refine pz_get (ci := 4) (C := RX5) (T := TX5) (N := 6) (v := .ref ht) 0 F rfl rfl pz_inX5 0 (by decide) pw_60 rfl dX5_signAt_1 ?_
  refine pz_ifnull F dX5_signAt_4 ?_
  refine pz_iload_n 1 F rfl dX5_signAt_7 rfl ?_
  refine pz_if_lt (tgt := 26) F dX5_signAt_8 (by decide) (fun q_1 => ?_) (fun q_1 => ?_)
  · replace vc := vc.1 q_1
    refine pz_iconst (v := (-1)) F dX5_signAt_26 rfl ?_
    exact pz_ireturn (w1 := [(h0, .inr (4, [.ref ht, .int en, .int tk, .int sa, .int bh, .int nu])), (ht, .inr (6, [.ref hb, .int ts])), (hb, .inl (g.2.1 0, 400, .inl byt))]) F Rt (by decide) (by decide) dX5_signAt_27 [0, 1, 2] rfl rfl rfl vc
  · replace vc := vc.2 q_1
    refine pz_iload_n 1 F rfl dX5_signAt_11 rfl ?_
    refine pz_aload_n 0 F rfl dX5_signAt_12 rfl ?_
    refine pz_get (ci := 4) (C := RX5) (T := TX5) (N := 6) (v := .int en) 0 F rfl rfl pz_inX5 1 (by decide) pw_61 rfl dX5_signAt_13 ?_
    refine pz_icmp_ge (tgt := 26) F dX5_signAt_16 (by decide) (fun q_2 => ?_) (fun q_2 => ?_)
    · replace vc := vc.1 q_2
      refine pz_iconst (v := (-1)) F dX5_signAt_26 rfl ?_
      exact pz_ireturn (w1 := [(h0, .inr (4, [.ref ht, .int en, .int tk, .int sa, .int bh, .int nu])), (ht, .inr (6, [.ref hb, .int ts])), (hb, .inl (g.2.1 0, 400, .inl byt))]) F Rt (by decide) (by decide) dX5_signAt_27 [0, 1, 2] rfl rfl rfl vc
    · replace vc := vc.2 q_2
      refine pz_iload_n 1 F rfl dX5_signAt_19 rfl ?_
      refine pz_sipush (v := 400) F dX5_signAt_20 rfl ?_
      refine pz_icmp_lt (tgt := 28) F dX5_signAt_23 (by decide) (fun q_3 => ?_) (fun q_3 => ?_)
      · replace vc := vc.1 q_3
        refine pz_aload_n 0 F rfl dX5_signAt_28 rfl ?_
        refine pz_get (ci := 4) (C := RX5) (T := TX5) (N := 6) (v := .ref ht) 0 F rfl rfl pz_inX5 0 (by decide) pw_60 rfl dX5_signAt_29 ?_
        refine pz_get (ci := 6) (C := RX7) (T := TX7) (N := 2) (v := .ref hb) 1 F rfl rfl pz_inX7 0 (by decide) pw_39 rfl dX5_signAt_32 ?_
        refine pz_iload_n 1 F rfl dX5_signAt_35 rfl ?_
        obtain ⟨h_4, vc⟩ := vc
        refine pz_baload 2 F rfl h_4 dX5_signAt_36 ?_
        refine pz_sipush (v := 255) F dX5_signAt_37 rfl ?_
        refine pz_iand F dX5_signAt_40 ?_
        refine pz_topi (fun x_5 ex_5 => ?_)
        replace vc := vc x_5 ex_5
        exact pz_ireturn (w1 := [(h0, .inr (4, [.ref ht, .int en, .int tk, .int sa, .int bh, .int nu])), (ht, .inr (6, [.ref hb, .int ts])), (hb, .inl (g.2.1 0, 400, .inl byt))]) F Rt (by decide) (by decide) dX5_signAt_41 [0, 1, 2] rfl rfl rfl vc
      · replace vc := vc.2 q_3
        refine pz_iconst (v := (-1)) F dX5_signAt_26 rfl ?_
        exact pz_ireturn (w1 := [(h0, .inr (4, [.ref ht, .int en, .int tk, .int sa, .int bh, .int nu])), (ht, .inr (6, [.ref hb, .int ts])), (hb, .inl (g.2.1 0, 400, .inl byt))]) F Rt (by decide) (by decide) dX5_signAt_27 [0, 1, 2] rfl rfl rfl vc
set_option maxHeartbeats 4000000 in
set_option maxRecDepth 100000 in
theorem ctX5_signAt (l : Launch) (g : pz_G) (p : Int32) (h0 : Nat) (ht : Nat) (en : Int32) (tk : Int32) (sa : Int32) (bh : Int32) (nu : Int32) (hb : Nat) (ts : Int32) (byt : Nat → Int32) (j : Nat) (e : Nat) (hpre : j < 1000 ∧ e ≤ 400 ∧ p = nI j ∧ en = nI e) : pz_Ct l g yX5_signAt cX5_signAt 2 (some .int) rmX5_signAt [.ref h0, .int p] [(h0, .inr (4, [.ref ht, .int en, .int tk, .int sa, .int bh, .int nu])), (ht, .inr (6, [.ref hb, .int ts])), (hb, .inl (g.2.1 0, 400, .inl byt))] (pz_pi (fun (r : Int32) (u : Unit) => r = pu_cs byt e j) (fun (u : Unit) => [(h0, .inr (4, [.ref ht, .int en, .int tk, .int sa, .int bh, .int nu])), (ht, .inr (6, [.ref hb, .int ts])), (hb, .inl (g.2.1 0, 400, .inl byt))])) := by
  refine pz_ofAt (by decide +kernel) (Nat.le_of_ble_eq_true rfl) (fun B F Rt hme => ?_)
  obtain ⟨hj, he, h1, h2⟩ := hpre
  subst h1; subst h2
  refine sgX5_signAt_0 F Rt (nI j) h0 ht (nI e) tk sa bh nu hb ts byt j e ?_
  refine ⟨fun q => absurd q (nI_pos (by omega)), fun _ => ⟨fun q => ?_, fun q => ⟨fun q2 => ?_, fun q2 => ?_⟩⟩⟩
  · exact ⟨_, (), rfl, rfl, (pu_cs_out (by have := pu_ge (by omega) q; omega)).symm⟩
  · have h3 := pu_lt (n := e) (by omega) (by omega) q
    refine ⟨vp_in_nI (by omega) (by omega), ?_⟩
    rintro x rfl
    exact ⟨_, (), rfl, rfl, by rw [nI_clamp (by omega), pu_cs_in h3]⟩
  · exact absurd (pu_lt (n := e) (by omega) (by omega) q) (by have := pu_ge (n := 400) (by omega) (Int32.not_lt.mp q2); omega)
abbrev rmX5_skipBlanks : Room := { frames := 1, cells := 0, slots := 0, locals := 21 }
abbrev paX5_skipBlanks_0 (B : pz_B) (g : pz_G) (h0 : Nat) (ht : Nat) (en : Int32) (tk : Int32) (sa : Int32) (bh : Int32) (nu : Int32) (hb : Nat) (ts : Int32) (byt : Nat → Int32) (j : Nat) (e : Nat) (b1 : Int32) : Prop := pz_At B 0 0 0 [(0, .ref h0)] [] [(h0, .inr (4, [.ref ht, .int en, .int tk, .int sa, .int b1, .int nu])), (ht, .inr (6, [.ref hb, .int ts])), (hb, .inl (g.2.1 0, 400, .inl byt))]
set_option maxHeartbeats 4000000 in
set_option maxRecDepth 100000 in
theorem sgX5_skipBlanks_0 {B : pz_B} {g : pz_G} {wc : va_W} {Post : Option Value → va_W → Prop} (F : pz_F B cX5_skipBlanks 1 none yX5_skipBlanks.cls g rmX5_skipBlanks) (Rt : pz_Rt B g wc Post rmX5_skipBlanks) (h0 : Nat) (ht : Nat) (en : Int32) (tk : Int32) (sa : Int32) (bh : Int32) (nu : Int32) (hb : Nat) (ts : Int32) (byt : Nat → Int32) (j : Nat) (e : Nat) (T0 : Int32 → Prop) (hT0 : ∀ (b1 : Int32), T0 b1 → paX5_skipBlanks_0 B g h0 ht en tk sa bh nu hb ts byt j e b1) (b1 : Int32) (vc : ((en ≤ b1 → Post none [(h0, .inr (4, [.ref ht, .int en, .int tk, .int sa, .int b1, .int nu])), (ht, .inr (6, [.ref hb, .int ts])), (hb, .inl (g.2.1 0, 400, .inl byt))]) ∧ (¬ en ≤ b1 → ∃ j_2 : Nat, (j_2 < 1000 ∧ e ≤ 400 ∧ b1 = nI j_2 ∧ en = nI e) ∧ ∀ r_4 : Int32, ∀ _ : (r_4 = pu_cs byt e j_2), ∀ r_6 : Int32, ∀ _ : (r_6 = if pu_bl r_4 = true then 1 else 0), ((r_6 = 0 → Post none [(h0, .inr (4, [.ref ht, .int en, .int tk, .int sa, .int b1, .int nu])), (ht, .inr (6, [.ref hb, .int ts])), (hb, .inl (g.2.1 0, 400, .inl byt))]) ∧ (¬ r_6 = 0 → ∀ x_9 : Int32, x_9 = (b1 + 1) → T0 x_9))))) : pz_At B 0 0 0 [(0, .ref h0)] [] [(h0, .inr (4, [.ref ht, .int en, .int tk, .int sa, .int b1, .int nu])), (ht, .inr (6, [.ref hb, .int ts])), (hb, .inl (g.2.1 0, 400, .inl byt))] := by
  refine pz_aload_n 0 F rfl dX5_skipBlanks_0 rfl ?_
  refine pz_get (ci := 4) (C := RX5) (T := TX5) (N := 6) (v := .int b1) 0 F rfl rfl pz_inX5 4 (by decide) pw_66 rfl dX5_skipBlanks_1 ?_
  refine pz_aload_n 0 F rfl dX5_skipBlanks_4 rfl ?_
  refine pz_get (ci := 4) (C := RX5) (T := TX5) (N := 6) (v := .int en) 0 F rfl rfl pz_inX5 1 (by decide) pw_61 rfl dX5_skipBlanks_5 ?_
  refine pz_icmp_ge (tgt := 38) F dX5_skipBlanks_8 (by decide) (fun q_1 => ?_) (fun q_1 => ?_)
  · replace vc := vc.1 q_1
    exact pz_return (w1 := [(h0, .inr (4, [.ref ht, .int en, .int tk, .int sa, .int b1, .int nu])), (ht, .inr (6, [.ref hb, .int ts])), (hb, .inl (g.2.1 0, 400, .inl byt))]) F Rt (by decide) (by decide) dX5_skipBlanks_38 [0, 1, 2] rfl rfl vc
  · replace vc := vc.2 q_1
    refine pz_aload_n 0 F rfl dX5_skipBlanks_11 rfl ?_
    refine pz_aload_n 0 F rfl dX5_skipBlanks_12 rfl ?_
    refine pz_get (ci := 4) (C := RX5) (T := TX5) (N := 6) (v := .int b1) 0 F rfl rfl pz_inX5 4 (by decide) pw_66 rfl dX5_skipBlanks_13 ?_
    obtain ⟨j_2, vc⟩ := vc
    obtain ⟨h_3, vc⟩ := vc
    refine pz_callV (nA := 1) (ci := 4) (C := RX5) (T := TX5) (N := 6) (As := [.int b1]) (rest := []) (wr := []) F (ctX5_signAt _ g b1 h0 ht en tk sa b1 nu hb ts byt j_2 e h_3) 0 rfl rfl pw_271 pw_273 pv_2 pw_4 pw_274 (by decide +kernel) (by decide) (by decide) rfl rfl (Nat.le_of_ble_eq_true rfl) [0, 1, 2] [] rfl rfl rfl rfl (by decide) dX5_skipBlanks_16 (fun r0 w0 hp0 => ?_)
    obtain ⟨r_4, _, rfl, rfl, hq_5⟩ := hp0
    replace vc := vc r_4  hq_5
    refine pz_eq (st' := [.int r_4]) (ws' := [(h0, .inr (4, [.ref ht, .int en, .int tk, .int sa, .int b1, .int nu])), (ht, .inr (6, [.ref hb, .int ts])), (hb, .inl (g.2.1 0, 400, .inl byt))]) rfl rfl ?_
    refine pz_callS (nA := 1) (As := [.int r_4]) (rest := []) (wr := [(h0, .inr (4, [.ref ht, .int en, .int tk, .int sa, .int b1, .int nu])), (ht, .inr (6, [.ref hb, .int ts])), (hb, .inl (g.2.1 0, 400, .inl byt))]) F (ctX5_isBlank _ g r_4) pw_275 pw_276 pw_4 pw_277 (by decide +kernel) (by decide) (by decide) rfl rfl (Nat.le_of_ble_eq_true rfl) [] [0, 1, 2] rfl rfl rfl rfl (by decide) dX5_skipBlanks_19 (fun r0 w0 hp0 => ?_)
    obtain ⟨r_6, _, rfl, rfl, hq_7⟩ := hp0
    replace vc := vc r_6  hq_7
    refine pz_eq (st' := [.int r_6]) (ws' := [(h0, .inr (4, [.ref ht, .int en, .int tk, .int sa, .int b1, .int nu])), (ht, .inr (6, [.ref hb, .int ts])), (hb, .inl (g.2.1 0, 400, .inl byt))]) rfl rfl ?_
    refine pz_if_eq (tgt := 38) F dX5_skipBlanks_22 (by decide) (fun q_8 => ?_) (fun q_8 => ?_)
    · replace vc := vc.1 q_8
      exact pz_return (w1 := [(h0, .inr (4, [.ref ht, .int en, .int tk, .int sa, .int b1, .int nu])), (ht, .inr (6, [.ref hb, .int ts])), (hb, .inl (g.2.1 0, 400, .inl byt))]) F Rt (by decide) (by decide) dX5_skipBlanks_38 [0, 1, 2] rfl rfl vc
    · replace vc := vc.2 q_8
      refine pz_aload_n 0 F rfl dX5_skipBlanks_25 rfl ?_
      refine pz_dup F dX5_skipBlanks_26 rfl ?_
      refine pz_get (ci := 4) (C := RX5) (T := TX5) (N := 6) (v := .int b1) 0 F rfl rfl pz_inX5 4 (by decide) pw_66 rfl dX5_skipBlanks_27 ?_
      refine pz_iconst (v := 1) F dX5_skipBlanks_30 rfl ?_
      refine pz_iadd F dX5_skipBlanks_31 ?_
      refine pz_topi (fun x_9 ex_9 => ?_)
      replace vc := vc x_9 ex_9
      refine pz_put (ws' := [(h0, .inr (4, [.ref ht, .int en, .int tk, .int sa, .int x_9, .int nu])), (ht, .inr (6, [.ref hb, .int ts])), (hb, .inl (g.2.1 0, 400, .inl byt))]) (ci := 4) (C := RX5) (T := TX5) (N := 6) (v := .int x_9) (ty := .int) 0 F rfl rfl pz_inX5 4 (by decide) pw_66 tyX5_ok nmX5 rfl rfl rfl rfl (Nat.le_of_ble_eq_true rfl) dX5_skipBlanks_32 rfl ?_
      refine pz_goto (tgt := 0) F dX5_skipBlanks_35 (by decide) ?_
      exact pz_sub [0] [0, 1, 2] rfl rfl rfl (hT0 x_9 vc)
theorem lpX5_skipBlanks_0 {B : pz_B} {g : pz_G} {wc : va_W} {Post : Option Value → va_W → Prop} (F : pz_F B cX5_skipBlanks 1 none yX5_skipBlanks.cls g rmX5_skipBlanks) (Rt : pz_Rt B g wc Post rmX5_skipBlanks) (h0 : Nat) (ht : Nat) (en : Int32) (tk : Int32) (sa : Int32) (bh : Int32) (nu : Int32) (hb : Nat) (ts : Int32) (byt : Nat → Int32) (j : Nat) (e : Nat) (Inv : Nat → Int32 → Prop) (step : ∀ (mz : Nat) (b1 : Int32), Inv mz b1 → ∀ TT : Int32 → Prop, TT = (fun b1 => ∃ mz', mz' < mz ∧ Inv mz' b1) → ((en ≤ b1 → Post none [(h0, .inr (4, [.ref ht, .int en, .int tk, .int sa, .int b1, .int nu])), (ht, .inr (6, [.ref hb, .int ts])), (hb, .inl (g.2.1 0, 400, .inl byt))]) ∧ (¬ en ≤ b1 → ∃ j_2 : Nat, (j_2 < 1000 ∧ e ≤ 400 ∧ b1 = nI j_2 ∧ en = nI e) ∧ ∀ r_4 : Int32, ∀ _ : (r_4 = pu_cs byt e j_2), ∀ r_6 : Int32, ∀ _ : (r_6 = if pu_bl r_4 = true then 1 else 0), ((r_6 = 0 → Post none [(h0, .inr (4, [.ref ht, .int en, .int tk, .int sa, .int b1, .int nu])), (ht, .inr (6, [.ref hb, .int ts])), (hb, .inl (g.2.1 0, 400, .inl byt))]) ∧ (¬ r_6 = 0 → ∀ x_9 : Int32, x_9 = (b1 + 1) → TT x_9))))) : ∀ (mz : Nat) (b1 : Int32), Inv mz b1 → paX5_skipBlanks_0 B g h0 ht en tk sa bh nu hb ts byt j e b1 := by
  intro mz
  induction mz using Nat.strongRecOn with
  | _ mz ih =>
    intro b1 hI
    exact sgX5_skipBlanks_0 F Rt h0 ht en tk sa bh nu hb ts byt j e (fun b1 => ∃ mz', mz' < mz ∧ Inv mz' b1) (fun b1 ⟨mz', h1, h2⟩ => ih mz' h1 b1 h2) b1 (step mz b1 hI _ rfl)
set_option maxHeartbeats 4000000 in
set_option maxRecDepth 100000 in
theorem ctX5_skipBlanks (l : Launch) (g : pz_G) (h0 : Nat) (ht : Nat) (en : Int32) (tk : Int32) (sa : Int32) (bh : Int32) (nu : Int32) (hb : Nat) (ts : Int32) (byt : Nat → Int32) (j : Nat) (e : Nat) (hpre : j ≤ e ∧ e ≤ 400 ∧ bh = nI j ∧ en = nI e) : pz_Ct l g yX5_skipBlanks cX5_skipBlanks 1 none rmX5_skipBlanks [.ref h0] [(h0, .inr (4, [.ref ht, .int en, .int tk, .int sa, .int bh, .int nu])), (ht, .inr (6, [.ref hb, .int ts])), (hb, .inl (g.2.1 0, 400, .inl byt))] (pz_pv (fun (u : Nat) => pu_scan pu_bl (pu_cs byt e) j e u) (fun (u : Nat) => [(h0, .inr (4, [.ref ht, .int en, .int tk, .int sa, .int (nI u), .int nu])), (ht, .inr (6, [.ref hb, .int ts])), (hb, .inl (g.2.1 0, 400, .inl byt))])) := by
  refine pz_ofAt (by decide +kernel) (Nat.le_of_ble_eq_true rfl) (fun B F Rt hme => ?_)
  obtain ⟨hj, he, h1, h2⟩ := hpre
  subst h1; subst h2
  refine lpX5_skipBlanks_0 F Rt h0 ht (nI e) tk sa (nI j) nu hb ts byt j e (fun z bh => ∃ i, i + z = e ∧ bh = nI i ∧ j ≤ i ∧ ∀ a, j ≤ a → a < i → pu_bl (pu_cs byt e a) = true) ?_ (e - j) (nI j) ⟨j, by omega, rfl, by omega, fun a h1 h2 => absurd h2 (by omega)⟩
  rintro z bh ⟨i, hi, rfl, hji, hp⟩ TT rfl
  refine ⟨fun q => ?_, fun q => ?_⟩
  · have h3 := pu_ge (by omega) q
    exact ⟨i, rfl, rfl, hji, by omega, hp, fun h => absurd h (by omega)⟩
  · have h3 := pu_lt (n := e) (by omega) (by omega) q
    refine ⟨i, ⟨by omega, he, rfl, rfl⟩, fun r hr r2 hr2 => ⟨fun q2 => ?_, fun q2 => ?_⟩⟩
    · have hb : pu_bl (pu_cs byt e i) = false := by
        cases hc : pu_bl (pu_cs byt e i)
        · rfl
        · rw [hr2, hr, hc] at q2
          exact absurd q2 (by decide)
      exact ⟨i, rfl, rfl, hji, by omega, hp, fun _ => hb⟩
    · have hb : pu_bl (pu_cs byt e i) = true := by
        cases hc : pu_bl (pu_cs byt e i)
        · rw [hr2, hr, hc] at q2
          exact absurd rfl q2
        · rfl
      rintro x rfl
      refine ⟨z - 1, by omega, i + 1, by omega, nI_1 i, by omega, fun a h4 h5 => ?_⟩
      by_cases h6 : a = i
      · rw [h6]; exact hb
      · exact hp a h4 (by omega)
abbrev rmX5_passLetters : Room := { frames := 1, cells := 0, slots := 0, locals := 21 }
abbrev paX5_passLetters_0 (B : pz_B) (g : pz_G) (h0 : Nat) (ht : Nat) (en : Int32) (tk : Int32) (sa : Int32) (bh : Int32) (nu : Int32) (hb : Nat) (ts : Int32) (byt : Nat → Int32) (j : Nat) (e : Nat) (b1 : Int32) : Prop := pz_At B 0 0 0 [(0, .ref h0)] [] [(h0, .inr (4, [.ref ht, .int en, .int tk, .int sa, .int b1, .int nu])), (ht, .inr (6, [.ref hb, .int ts])), (hb, .inl (g.2.1 0, 400, .inl byt))]
set_option maxHeartbeats 4000000 in
set_option maxRecDepth 100000 in
theorem sgX5_passLetters_0 {B : pz_B} {g : pz_G} {wc : va_W} {Post : Option Value → va_W → Prop} (F : pz_F B cX5_passLetters 1 none yX5_passLetters.cls g rmX5_passLetters) (Rt : pz_Rt B g wc Post rmX5_passLetters) (h0 : Nat) (ht : Nat) (en : Int32) (tk : Int32) (sa : Int32) (bh : Int32) (nu : Int32) (hb : Nat) (ts : Int32) (byt : Nat → Int32) (j : Nat) (e : Nat) (T0 : Int32 → Prop) (hT0 : ∀ (b1 : Int32), T0 b1 → paX5_passLetters_0 B g h0 ht en tk sa bh nu hb ts byt j e b1) (b1 : Int32) (vc : ((en ≤ b1 → Post none [(h0, .inr (4, [.ref ht, .int en, .int tk, .int sa, .int b1, .int nu])), (ht, .inr (6, [.ref hb, .int ts])), (hb, .inl (g.2.1 0, 400, .inl byt))]) ∧ (¬ en ≤ b1 → ∃ j_2 : Nat, (j_2 < 1000 ∧ e ≤ 400 ∧ b1 = nI j_2 ∧ en = nI e) ∧ ∀ r_4 : Int32, ∀ _ : (r_4 = pu_cs byt e j_2), ∀ r_6 : Int32, ∀ _ : (r_6 = if pu_le r_4 = true then 1 else 0), ((r_6 = 0 → Post none [(h0, .inr (4, [.ref ht, .int en, .int tk, .int sa, .int b1, .int nu])), (ht, .inr (6, [.ref hb, .int ts])), (hb, .inl (g.2.1 0, 400, .inl byt))]) ∧ (¬ r_6 = 0 → ∀ x_9 : Int32, x_9 = (b1 + 1) → T0 x_9))))) : pz_At B 0 0 0 [(0, .ref h0)] [] [(h0, .inr (4, [.ref ht, .int en, .int tk, .int sa, .int b1, .int nu])), (ht, .inr (6, [.ref hb, .int ts])), (hb, .inl (g.2.1 0, 400, .inl byt))] := by
  refine pz_aload_n 0 F rfl dX5_passLetters_0 rfl ?_
  refine pz_get (ci := 4) (C := RX5) (T := TX5) (N := 6) (v := .int b1) 0 F rfl rfl pz_inX5 4 (by decide) pw_66 rfl dX5_passLetters_1 ?_
  refine pz_aload_n 0 F rfl dX5_passLetters_4 rfl ?_
  refine pz_get (ci := 4) (C := RX5) (T := TX5) (N := 6) (v := .int en) 0 F rfl rfl pz_inX5 1 (by decide) pw_61 rfl dX5_passLetters_5 ?_
  refine pz_icmp_ge (tgt := 38) F dX5_passLetters_8 (by decide) (fun q_1 => ?_) (fun q_1 => ?_)
  · replace vc := vc.1 q_1
    exact pz_return (w1 := [(h0, .inr (4, [.ref ht, .int en, .int tk, .int sa, .int b1, .int nu])), (ht, .inr (6, [.ref hb, .int ts])), (hb, .inl (g.2.1 0, 400, .inl byt))]) F Rt (by decide) (by decide) dX5_passLetters_38 [0, 1, 2] rfl rfl vc
  · replace vc := vc.2 q_1
    refine pz_aload_n 0 F rfl dX5_passLetters_11 rfl ?_
    refine pz_aload_n 0 F rfl dX5_passLetters_12 rfl ?_
    refine pz_get (ci := 4) (C := RX5) (T := TX5) (N := 6) (v := .int b1) 0 F rfl rfl pz_inX5 4 (by decide) pw_66 rfl dX5_passLetters_13 ?_
    obtain ⟨j_2, vc⟩ := vc
    obtain ⟨h_3, vc⟩ := vc
    refine pz_callV (nA := 1) (ci := 4) (C := RX5) (T := TX5) (N := 6) (As := [.int b1]) (rest := []) (wr := []) F (ctX5_signAt _ g b1 h0 ht en tk sa b1 nu hb ts byt j_2 e h_3) 0 rfl rfl pw_271 pw_273 pv_2 pw_4 pw_274 (by decide +kernel) (by decide) (by decide) rfl rfl (Nat.le_of_ble_eq_true rfl) [0, 1, 2] [] rfl rfl rfl rfl (by decide) dX5_passLetters_16 (fun r0 w0 hp0 => ?_)
    obtain ⟨r_4, _, rfl, rfl, hq_5⟩ := hp0
    replace vc := vc r_4  hq_5
    refine pz_eq (st' := [.int r_4]) (ws' := [(h0, .inr (4, [.ref ht, .int en, .int tk, .int sa, .int b1, .int nu])), (ht, .inr (6, [.ref hb, .int ts])), (hb, .inl (g.2.1 0, 400, .inl byt))]) rfl rfl ?_
    refine pz_callS (nA := 1) (As := [.int r_4]) (rest := []) (wr := [(h0, .inr (4, [.ref ht, .int en, .int tk, .int sa, .int b1, .int nu])), (ht, .inr (6, [.ref hb, .int ts])), (hb, .inl (g.2.1 0, 400, .inl byt))]) F (ctX5_isLetter _ g r_4) pw_278 pw_279 pw_4 pw_280 (by decide +kernel) (by decide) (by decide) rfl rfl (Nat.le_of_ble_eq_true rfl) [] [0, 1, 2] rfl rfl rfl rfl (by decide) dX5_passLetters_19 (fun r0 w0 hp0 => ?_)
    obtain ⟨r_6, _, rfl, rfl, hq_7⟩ := hp0
    replace vc := vc r_6  hq_7
    refine pz_eq (st' := [.int r_6]) (ws' := [(h0, .inr (4, [.ref ht, .int en, .int tk, .int sa, .int b1, .int nu])), (ht, .inr (6, [.ref hb, .int ts])), (hb, .inl (g.2.1 0, 400, .inl byt))]) rfl rfl ?_
    refine pz_if_eq (tgt := 38) F dX5_passLetters_22 (by decide) (fun q_8 => ?_) (fun q_8 => ?_)
    · replace vc := vc.1 q_8
      exact pz_return (w1 := [(h0, .inr (4, [.ref ht, .int en, .int tk, .int sa, .int b1, .int nu])), (ht, .inr (6, [.ref hb, .int ts])), (hb, .inl (g.2.1 0, 400, .inl byt))]) F Rt (by decide) (by decide) dX5_passLetters_38 [0, 1, 2] rfl rfl vc
    · replace vc := vc.2 q_8
      refine pz_aload_n 0 F rfl dX5_passLetters_25 rfl ?_
      refine pz_dup F dX5_passLetters_26 rfl ?_
      refine pz_get (ci := 4) (C := RX5) (T := TX5) (N := 6) (v := .int b1) 0 F rfl rfl pz_inX5 4 (by decide) pw_66 rfl dX5_passLetters_27 ?_
      refine pz_iconst (v := 1) F dX5_passLetters_30 rfl ?_
      refine pz_iadd F dX5_passLetters_31 ?_
      refine pz_topi (fun x_9 ex_9 => ?_)
      replace vc := vc x_9 ex_9
      refine pz_put (ws' := [(h0, .inr (4, [.ref ht, .int en, .int tk, .int sa, .int x_9, .int nu])), (ht, .inr (6, [.ref hb, .int ts])), (hb, .inl (g.2.1 0, 400, .inl byt))]) (ci := 4) (C := RX5) (T := TX5) (N := 6) (v := .int x_9) (ty := .int) 0 F rfl rfl pz_inX5 4 (by decide) pw_66 tyX5_ok nmX5 rfl rfl rfl rfl (Nat.le_of_ble_eq_true rfl) dX5_passLetters_32 rfl ?_
      refine pz_goto (tgt := 0) F dX5_passLetters_35 (by decide) ?_
      exact pz_sub [0] [0, 1, 2] rfl rfl rfl (hT0 x_9 vc)
theorem lpX5_passLetters_0 {B : pz_B} {g : pz_G} {wc : va_W} {Post : Option Value → va_W → Prop} (F : pz_F B cX5_passLetters 1 none yX5_passLetters.cls g rmX5_passLetters) (Rt : pz_Rt B g wc Post rmX5_passLetters) (h0 : Nat) (ht : Nat) (en : Int32) (tk : Int32) (sa : Int32) (bh : Int32) (nu : Int32) (hb : Nat) (ts : Int32) (byt : Nat → Int32) (j : Nat) (e : Nat) (Inv : Nat → Int32 → Prop) (step : ∀ (mz : Nat) (b1 : Int32), Inv mz b1 → ∀ TT : Int32 → Prop, TT = (fun b1 => ∃ mz', mz' < mz ∧ Inv mz' b1) → ((en ≤ b1 → Post none [(h0, .inr (4, [.ref ht, .int en, .int tk, .int sa, .int b1, .int nu])), (ht, .inr (6, [.ref hb, .int ts])), (hb, .inl (g.2.1 0, 400, .inl byt))]) ∧ (¬ en ≤ b1 → ∃ j_2 : Nat, (j_2 < 1000 ∧ e ≤ 400 ∧ b1 = nI j_2 ∧ en = nI e) ∧ ∀ r_4 : Int32, ∀ _ : (r_4 = pu_cs byt e j_2), ∀ r_6 : Int32, ∀ _ : (r_6 = if pu_le r_4 = true then 1 else 0), ((r_6 = 0 → Post none [(h0, .inr (4, [.ref ht, .int en, .int tk, .int sa, .int b1, .int nu])), (ht, .inr (6, [.ref hb, .int ts])), (hb, .inl (g.2.1 0, 400, .inl byt))]) ∧ (¬ r_6 = 0 → ∀ x_9 : Int32, x_9 = (b1 + 1) → TT x_9))))) : ∀ (mz : Nat) (b1 : Int32), Inv mz b1 → paX5_passLetters_0 B g h0 ht en tk sa bh nu hb ts byt j e b1 := by
  intro mz
  induction mz using Nat.strongRecOn with
  | _ mz ih =>
    intro b1 hI
    exact sgX5_passLetters_0 F Rt h0 ht en tk sa bh nu hb ts byt j e (fun b1 => ∃ mz', mz' < mz ∧ Inv mz' b1) (fun b1 ⟨mz', h1, h2⟩ => ih mz' h1 b1 h2) b1 (step mz b1 hI _ rfl)
set_option maxHeartbeats 4000000 in
set_option maxRecDepth 100000 in
theorem ctX5_passLetters (l : Launch) (g : pz_G) (h0 : Nat) (ht : Nat) (en : Int32) (tk : Int32) (sa : Int32) (bh : Int32) (nu : Int32) (hb : Nat) (ts : Int32) (byt : Nat → Int32) (j : Nat) (e : Nat) (hpre : j ≤ e ∧ e ≤ 400 ∧ bh = nI j ∧ en = nI e) : pz_Ct l g yX5_passLetters cX5_passLetters 1 none rmX5_passLetters [.ref h0] [(h0, .inr (4, [.ref ht, .int en, .int tk, .int sa, .int bh, .int nu])), (ht, .inr (6, [.ref hb, .int ts])), (hb, .inl (g.2.1 0, 400, .inl byt))] (pz_pv (fun (u : Nat) => pu_scan pu_le (pu_cs byt e) j e u) (fun (u : Nat) => [(h0, .inr (4, [.ref ht, .int en, .int tk, .int sa, .int (nI u), .int nu])), (ht, .inr (6, [.ref hb, .int ts])), (hb, .inl (g.2.1 0, 400, .inl byt))])) := by
  refine pz_ofAt (by decide +kernel) (Nat.le_of_ble_eq_true rfl) (fun B F Rt hme => ?_)
  obtain ⟨hj, he, h1, h2⟩ := hpre
  subst h1; subst h2
  refine lpX5_passLetters_0 F Rt h0 ht (nI e) tk sa (nI j) nu hb ts byt j e (fun z bh => ∃ i, i + z = e ∧ bh = nI i ∧ j ≤ i ∧ ∀ a, j ≤ a → a < i → pu_le (pu_cs byt e a) = true) ?_ (e - j) (nI j) ⟨j, by omega, rfl, by omega, fun a h1 h2 => absurd h2 (by omega)⟩
  rintro z bh ⟨i, hi, rfl, hji, hp⟩ TT rfl
  refine ⟨fun q => ?_, fun q => ?_⟩
  · have h3 := pu_ge (by omega) q
    exact ⟨i, rfl, rfl, hji, by omega, hp, fun h => absurd h (by omega)⟩
  · have h3 := pu_lt (n := e) (by omega) (by omega) q
    refine ⟨i, ⟨by omega, he, rfl, rfl⟩, fun r hr r2 hr2 => ⟨fun q2 => ?_, fun q2 => ?_⟩⟩
    · have hb : pu_le (pu_cs byt e i) = false := by
        cases hc : pu_le (pu_cs byt e i)
        · rfl
        · rw [hr2, hr, hc] at q2
          exact absurd q2 (by decide)
      exact ⟨i, rfl, rfl, hji, by omega, hp, fun _ => hb⟩
    · have hb : pu_le (pu_cs byt e i) = true := by
        cases hc : pu_le (pu_cs byt e i)
        · rw [hr2, hr, hc] at q2
          exact absurd rfl q2
        · rfl
      rintro x rfl
      refine ⟨z - 1, by omega, i + 1, by omega, nI_1 i, by omega, fun a h4 h5 => ?_⟩
      by_cases h6 : a = i
      · rw [h6]; exact hb
      · exact hp a h4 (by omega)
abbrev rmX5_passDigits : Room := { frames := 1, cells := 0, slots := 0, locals := 28 }
abbrev paX5_passDigits_5 (B : pz_B) (g : pz_G) (h0 : Nat) (ht : Nat) (en : Int32) (tk : Int32) (sa : Int32) (bh : Int32) (nu : Int32) (hb : Nat) (ts : Int32) (byt : Nat → Int32) (j : Nat) (e : Nat) (b1 : Int32) (n1 : Int32) : Prop := pz_At B 0 0 5 [(0, .ref h0)] [] [(h0, .inr (4, [.ref ht, .int en, .int tk, .int sa, .int b1, .int n1])), (ht, .inr (6, [.ref hb, .int ts])), (hb, .inl (g.2.1 0, 400, .inl byt))]
set_option maxHeartbeats 4000000 in
set_option maxRecDepth 100000 in
theorem sgX5_passDigits_0 {B : pz_B} {g : pz_G} {wc : va_W} {Post : Option Value → va_W → Prop} (F : pz_F B cX5_passDigits 1 none yX5_passDigits.cls g rmX5_passDigits) (Rt : pz_Rt B g wc Post rmX5_passDigits) (h0 : Nat) (ht : Nat) (en : Int32) (tk : Int32) (sa : Int32) (bh : Int32) (nu : Int32) (hb : Nat) (ts : Int32) (byt : Nat → Int32) (j : Nat) (e : Nat) (T5 : Int32 → Int32 → Prop) (hT5 : ∀ (b1 : Int32) (n1 : Int32), T5 b1 n1 → paX5_passDigits_5 B g h0 ht en tk sa bh nu hb ts byt j e b1 n1)  (vc : T5 bh 0) : pz_At B 0 0 0 [(0, .ref h0)] [] [(h0, .inr (4, [.ref ht, .int en, .int tk, .int sa, .int bh, .int nu])), (ht, .inr (6, [.ref hb, .int ts])), (hb, .inl (g.2.1 0, 400, .inl byt))] := by
  refine pz_aload_n 0 F rfl dX5_passDigits_0 rfl ?_
  refine pz_iconst (v := 0) F dX5_passDigits_1 rfl ?_
  refine pz_put (ws' := [(h0, .inr (4, [.ref ht, .int en, .int tk, .int sa, .int bh, .int 0])), (ht, .inr (6, [.ref hb, .int ts])), (hb, .inl (g.2.1 0, 400, .inl byt))]) (ci := 4) (C := RX5) (T := TX5) (N := 6) (v := .int 0) (ty := .int) 0 F rfl rfl pz_inX5 5 (by decide) pw_67 tyX5_ok nmX5 rfl rfl rfl rfl (Nat.le_of_ble_eq_true rfl) dX5_passDigits_2 rfl ?_
  exact pz_sub [0] [0, 1, 2] rfl rfl rfl (hT5 bh 0 vc)
set_option maxHeartbeats 4000000 in
set_option maxRecDepth 100000 in
theorem sgX5_passDigits_5 {B : pz_B} {g : pz_G} {wc : va_W} {Post : Option Value → va_W → Prop} (F : pz_F B cX5_passDigits 1 none yX5_passDigits.cls g rmX5_passDigits) (Rt : pz_Rt B g wc Post rmX5_passDigits) (h0 : Nat) (ht : Nat) (en : Int32) (tk : Int32) (sa : Int32) (bh : Int32) (nu : Int32) (hb : Nat) (ts : Int32) (byt : Nat → Int32) (j : Nat) (e : Nat) (T5 : Int32 → Int32 → Prop) (hT5 : ∀ (b1 : Int32) (n1 : Int32), T5 b1 n1 → paX5_passDigits_5 B g h0 ht en tk sa bh nu hb ts byt j e b1 n1) (b1 : Int32) (n1 : Int32) (vc : ((en ≤ b1 → Post none [(h0, .inr (4, [.ref ht, .int en, .int tk, .int sa, .int b1, .int n1])), (ht, .inr (6, [.ref hb, .int ts])), (hb, .inl (g.2.1 0, 400, .inl byt))]) ∧ (¬ en ≤ b1 → ∃ j_2 : Nat, (j_2 < 1000 ∧ e ≤ 400 ∧ b1 = nI j_2 ∧ en = nI e) ∧ ∀ r_4 : Int32, ∀ _ : (r_4 = pu_cs byt e j_2), ∀ r_6 : Int32, ∀ _ : (r_6 = if pu_di r_4 = true then 1 else 0), ((r_6 = 0 → Post none [(h0, .inr (4, [.ref ht, .int en, .int tk, .int sa, .int b1, .int n1])), (ht, .inr (6, [.ref hb, .int ts])), (hb, .inl (g.2.1 0, 400, .inl byt))]) ∧ (¬ r_6 = 0 → ∃ j_9 : Nat, (j_9 < 1000 ∧ e ≤ 400 ∧ b1 = nI j_9 ∧ en = nI e) ∧ ∀ r_11 : Int32, ∀ _ : (r_11 = pu_cs byt e j_9), ∀ x_13 : Int32, x_13 = (if ((n1 * 10) + (r_11 - 48)) < 1000000 then ((n1 * 10) + (r_11 - 48)) else 1000000) → ∀ x_14 : Int32, x_14 = (b1 + 1) → T5 x_14 x_13))))) : pz_At B 0 0 5 [(0, .ref h0)] [] [(h0, .inr (4, [.ref ht, .int en, .int tk, .int sa, .int b1, .int n1])), (ht, .inr (6, [.ref hb, .int ts])), (hb, .inl (g.2.1 0, 400, .inl byt))] := by
  refine pz_aload_n 0 F rfl dX5_passDigits_5 rfl ?_
  refine pz_get (ci := 4) (C := RX5) (T := TX5) (N := 6) (v := .int b1) 0 F rfl rfl pz_inX5 4 (by decide) pw_66 rfl dX5_passDigits_6 ?_
  refine pz_aload_n 0 F rfl dX5_passDigits_9 rfl ?_
  refine pz_get (ci := 4) (C := RX5) (T := TX5) (N := 6) (v := .int en) 0 F rfl rfl pz_inX5 1 (by decide) pw_61 rfl dX5_passDigits_10 ?_
  refine pz_icmp_ge (tgt := 71) F dX5_passDigits_13 (by decide) (fun q_1 => ?_) (fun q_1 => ?_)
  · replace vc := vc.1 q_1
    exact pz_return (w1 := [(h0, .inr (4, [.ref ht, .int en, .int tk, .int sa, .int b1, .int n1])), (ht, .inr (6, [.ref hb, .int ts])), (hb, .inl (g.2.1 0, 400, .inl byt))]) F Rt (by decide) (by decide) dX5_passDigits_71 [0, 1, 2] rfl rfl vc
  · replace vc := vc.2 q_1
    refine pz_aload_n 0 F rfl dX5_passDigits_16 rfl ?_
    refine pz_aload_n 0 F rfl dX5_passDigits_17 rfl ?_
    refine pz_get (ci := 4) (C := RX5) (T := TX5) (N := 6) (v := .int b1) 0 F rfl rfl pz_inX5 4 (by decide) pw_66 rfl dX5_passDigits_18 ?_
    obtain ⟨j_2, vc⟩ := vc
    obtain ⟨h_3, vc⟩ := vc
    refine pz_callV (nA := 1) (ci := 4) (C := RX5) (T := TX5) (N := 6) (As := [.int b1]) (rest := []) (wr := []) F (ctX5_signAt _ g b1 h0 ht en tk sa b1 n1 hb ts byt j_2 e h_3) 0 rfl rfl pw_271 pw_273 pv_2 pw_4 pw_274 (by decide +kernel) (by decide) (by decide) rfl rfl (Nat.le_of_ble_eq_true rfl) [0, 1, 2] [] rfl rfl rfl rfl (by decide) dX5_passDigits_21 (fun r0 w0 hp0 => ?_)
    obtain ⟨r_4, _, rfl, rfl, hq_5⟩ := hp0
    replace vc := vc r_4  hq_5
    refine pz_eq (st' := [.int r_4]) (ws' := [(h0, .inr (4, [.ref ht, .int en, .int tk, .int sa, .int b1, .int n1])), (ht, .inr (6, [.ref hb, .int ts])), (hb, .inl (g.2.1 0, 400, .inl byt))]) rfl rfl ?_
    refine pz_callS (nA := 1) (As := [.int r_4]) (rest := []) (wr := [(h0, .inr (4, [.ref ht, .int en, .int tk, .int sa, .int b1, .int n1])), (ht, .inr (6, [.ref hb, .int ts])), (hb, .inl (g.2.1 0, 400, .inl byt))]) F (ctX5_isDigit _ g r_4) pw_285 pw_286 pw_4 pw_287 (by decide +kernel) (by decide) (by decide) rfl rfl (Nat.le_of_ble_eq_true rfl) [] [0, 1, 2] rfl rfl rfl rfl (by decide) dX5_passDigits_24 (fun r0 w0 hp0 => ?_)
    obtain ⟨r_6, _, rfl, rfl, hq_7⟩ := hp0
    replace vc := vc r_6  hq_7
    refine pz_eq (st' := [.int r_6]) (ws' := [(h0, .inr (4, [.ref ht, .int en, .int tk, .int sa, .int b1, .int n1])), (ht, .inr (6, [.ref hb, .int ts])), (hb, .inl (g.2.1 0, 400, .inl byt))]) rfl rfl ?_
    refine pz_if_eq (tgt := 71) F dX5_passDigits_27 (by decide) (fun q_8 => ?_) (fun q_8 => ?_)
    · replace vc := vc.1 q_8
      exact pz_return (w1 := [(h0, .inr (4, [.ref ht, .int en, .int tk, .int sa, .int b1, .int n1])), (ht, .inr (6, [.ref hb, .int ts])), (hb, .inl (g.2.1 0, 400, .inl byt))]) F Rt (by decide) (by decide) dX5_passDigits_71 [0, 1, 2] rfl rfl vc
    · replace vc := vc.2 q_8
      refine pz_aload_n 0 F rfl dX5_passDigits_30 rfl ?_
      refine pz_ldc (v := 1000000) F pw_292 dX5_passDigits_31 ?_
      refine pz_aload_n 0 F rfl dX5_passDigits_33 rfl ?_
      refine pz_get (ci := 4) (C := RX5) (T := TX5) (N := 6) (v := .int n1) 0 F rfl rfl pz_inX5 5 (by decide) pw_67 rfl dX5_passDigits_34 ?_
      refine pz_bipush (v := 10) F dX5_passDigits_37 rfl ?_
      refine pz_imul F dX5_passDigits_39 ?_
      refine pz_aload_n 0 F rfl dX5_passDigits_40 rfl ?_
      refine pz_aload_n 0 F rfl dX5_passDigits_41 rfl ?_
      refine pz_get (ci := 4) (C := RX5) (T := TX5) (N := 6) (v := .int b1) 0 F rfl rfl pz_inX5 4 (by decide) pw_66 rfl dX5_passDigits_42 ?_
      obtain ⟨j_9, vc⟩ := vc
      obtain ⟨h_10, vc⟩ := vc
      refine pz_callV (nA := 1) (ci := 4) (C := RX5) (T := TX5) (N := 6) (As := [.int b1]) (rest := [.int (n1 * 10), .int 1000000, .ref h0]) (wr := []) F (ctX5_signAt _ g b1 h0 ht en tk sa b1 n1 hb ts byt j_9 e h_10) 0 rfl rfl pw_271 pw_273 pv_2 pw_4 pw_274 (by decide +kernel) (by decide) (by decide) rfl rfl (Nat.le_of_ble_eq_true rfl) [0, 1, 2] [] rfl rfl rfl rfl (by decide) dX5_passDigits_45 (fun r0 w0 hp0 => ?_)
      obtain ⟨r_11, _, rfl, rfl, hq_12⟩ := hp0
      replace vc := vc r_11  hq_12
      refine pz_eq (st' := [.int r_11, .int (n1 * 10), .int 1000000, .ref h0]) (ws' := [(h0, .inr (4, [.ref ht, .int en, .int tk, .int sa, .int b1, .int n1])), (ht, .inr (6, [.ref hb, .int ts])), (hb, .inl (g.2.1 0, 400, .inl byt))]) rfl rfl ?_
      refine pz_bipush (v := 48) F dX5_passDigits_48 rfl ?_
      refine pz_isub F dX5_passDigits_50 ?_
      refine pz_iadd F dX5_passDigits_51 ?_
      refine pz_mmin F pw_293 pw_294 pw_9 pw_295 ⟨Nat.le_of_ble_eq_true rfl, Nat.le_of_ble_eq_true rfl⟩ (by decide) dX5_passDigits_52 ?_
      refine pz_topi (fun x_13 ex_13 => ?_)
      replace vc := vc x_13 ex_13
      refine pz_put (ws' := [(h0, .inr (4, [.ref ht, .int en, .int tk, .int sa, .int b1, .int x_13])), (ht, .inr (6, [.ref hb, .int ts])), (hb, .inl (g.2.1 0, 400, .inl byt))]) (ci := 4) (C := RX5) (T := TX5) (N := 6) (v := .int x_13) (ty := .int) 0 F rfl rfl pz_inX5 5 (by decide) pw_67 tyX5_ok nmX5 rfl rfl rfl rfl (Nat.le_of_ble_eq_true rfl) dX5_passDigits_55 rfl ?_
      refine pz_aload_n 0 F rfl dX5_passDigits_58 rfl ?_
      refine pz_dup F dX5_passDigits_59 rfl ?_
      refine pz_get (ci := 4) (C := RX5) (T := TX5) (N := 6) (v := .int b1) 0 F rfl rfl pz_inX5 4 (by decide) pw_66 rfl dX5_passDigits_60 ?_
      refine pz_iconst (v := 1) F dX5_passDigits_63 rfl ?_
      refine pz_iadd F dX5_passDigits_64 ?_
      refine pz_topi (fun x_14 ex_14 => ?_)
      replace vc := vc x_14 ex_14
      refine pz_put (ws' := [(h0, .inr (4, [.ref ht, .int en, .int tk, .int sa, .int x_14, .int x_13])), (ht, .inr (6, [.ref hb, .int ts])), (hb, .inl (g.2.1 0, 400, .inl byt))]) (ci := 4) (C := RX5) (T := TX5) (N := 6) (v := .int x_14) (ty := .int) 0 F rfl rfl pz_inX5 4 (by decide) pw_66 tyX5_ok nmX5 rfl rfl rfl rfl (Nat.le_of_ble_eq_true rfl) dX5_passDigits_65 rfl ?_
      refine pz_goto (tgt := 5) F dX5_passDigits_68 (by decide) ?_
      exact pz_sub [0] [0, 1, 2] rfl rfl rfl (hT5 x_14 x_13 vc)
theorem lpX5_passDigits_5 {B : pz_B} {g : pz_G} {wc : va_W} {Post : Option Value → va_W → Prop} (F : pz_F B cX5_passDigits 1 none yX5_passDigits.cls g rmX5_passDigits) (Rt : pz_Rt B g wc Post rmX5_passDigits) (h0 : Nat) (ht : Nat) (en : Int32) (tk : Int32) (sa : Int32) (bh : Int32) (nu : Int32) (hb : Nat) (ts : Int32) (byt : Nat → Int32) (j : Nat) (e : Nat) (Inv : Nat → Int32 → Int32 → Prop) (step : ∀ (mz : Nat) (b1 : Int32) (n1 : Int32), Inv mz b1 n1 → ∀ TT : Int32 → Int32 → Prop, TT = (fun b1 n1 => ∃ mz', mz' < mz ∧ Inv mz' b1 n1) → ((en ≤ b1 → Post none [(h0, .inr (4, [.ref ht, .int en, .int tk, .int sa, .int b1, .int n1])), (ht, .inr (6, [.ref hb, .int ts])), (hb, .inl (g.2.1 0, 400, .inl byt))]) ∧ (¬ en ≤ b1 → ∃ j_2 : Nat, (j_2 < 1000 ∧ e ≤ 400 ∧ b1 = nI j_2 ∧ en = nI e) ∧ ∀ r_4 : Int32, ∀ _ : (r_4 = pu_cs byt e j_2), ∀ r_6 : Int32, ∀ _ : (r_6 = if pu_di r_4 = true then 1 else 0), ((r_6 = 0 → Post none [(h0, .inr (4, [.ref ht, .int en, .int tk, .int sa, .int b1, .int n1])), (ht, .inr (6, [.ref hb, .int ts])), (hb, .inl (g.2.1 0, 400, .inl byt))]) ∧ (¬ r_6 = 0 → ∃ j_9 : Nat, (j_9 < 1000 ∧ e ≤ 400 ∧ b1 = nI j_9 ∧ en = nI e) ∧ ∀ r_11 : Int32, ∀ _ : (r_11 = pu_cs byt e j_9), ∀ x_13 : Int32, x_13 = (if ((n1 * 10) + (r_11 - 48)) < 1000000 then ((n1 * 10) + (r_11 - 48)) else 1000000) → ∀ x_14 : Int32, x_14 = (b1 + 1) → TT x_14 x_13))))) : ∀ (mz : Nat) (b1 : Int32) (n1 : Int32), Inv mz b1 n1 → paX5_passDigits_5 B g h0 ht en tk sa bh nu hb ts byt j e b1 n1 := by
  intro mz
  induction mz using Nat.strongRecOn with
  | _ mz ih =>
    intro b1 n1 hI
    exact sgX5_passDigits_5 F Rt h0 ht en tk sa bh nu hb ts byt j e (fun b1 n1 => ∃ mz', mz' < mz ∧ Inv mz' b1 n1) (fun b1 n1 ⟨mz', h1, h2⟩ => ih mz' h1 b1 n1 h2) b1 n1 (step mz b1 n1 hI _ rfl)
set_option maxHeartbeats 4000000 in
set_option maxRecDepth 100000 in
theorem ctX5_passDigits (l : Launch) (g : pz_G) (h0 : Nat) (ht : Nat) (en : Int32) (tk : Int32) (sa : Int32) (bh : Int32) (nu : Int32) (hb : Nat) (ts : Int32) (byt : Nat → Int32) (j : Nat) (e : Nat) (hpre : j ≤ e ∧ e ≤ 400 ∧ bh = nI j ∧ en = nI e) : pz_Ct l g yX5_passDigits cX5_passDigits 1 none rmX5_passDigits [.ref h0] [(h0, .inr (4, [.ref ht, .int en, .int tk, .int sa, .int bh, .int nu])), (ht, .inr (6, [.ref hb, .int ts])), (hb, .inl (g.2.1 0, 400, .inl byt))] (pz_pv (fun (u : Nat × Int32) => pu_scan pu_di (pu_cs byt e) j e u.1 ∧ u.2 = pu_num (pu_cs byt e) j (u.1 - j)) (fun (u : Nat × Int32) => [(h0, .inr (4, [.ref ht, .int en, .int tk, .int sa, .int (nI u.1), .int u.2])), (ht, .inr (6, [.ref hb, .int ts])), (hb, .inl (g.2.1 0, 400, .inl byt))])) := by
  refine pz_ofAt (by decide +kernel) (Nat.le_of_ble_eq_true rfl) (fun B F Rt hme => ?_)
  obtain ⟨hj, he, h1, h2⟩ := hpre
  subst h1; subst h2
  refine sgX5_passDigits_0 F Rt h0 ht (nI e) tk sa (nI j) nu hb ts byt j e _ (fun b1 n1 h => lpX5_passDigits_5 F Rt h0 ht (nI e) tk sa (nI j) nu hb ts byt j e (fun z bh n1 => ∃ i, i + z = e ∧ bh = nI i ∧ j ≤ i ∧ (∀ a, j ≤ a → a < i → pu_di (pu_cs byt e a) = true) ∧ n1 = pu_num (pu_cs byt e) j (i - j)) ?_ (e - j) b1 n1 h) ⟨j, by omega, rfl, by omega, fun a h1 h2 => absurd h2 (by omega), by rw [Nat.sub_self]; rfl⟩
  rintro z bh n1 ⟨i, hi, rfl, hji, hp, rfl⟩ TT rfl
  refine ⟨fun q => ?_, fun q => ?_⟩
  · have h3 := pu_ge (by omega) q
    exact ⟨(i, _), rfl, rfl, ⟨hji, by omega, hp, fun h => absurd h (by omega)⟩, rfl⟩
  · have h3 := pu_lt (n := e) (by omega) (by omega) q
    refine ⟨i, ⟨by omega, he, rfl, rfl⟩, fun r hr r2 hr2 => ⟨fun q2 => ?_, fun q2 => ?_⟩⟩
    · have hb : pu_di (pu_cs byt e i) = false := by
        cases hc : pu_di (pu_cs byt e i)
        · rfl
        · rw [hr2, hr, hc] at q2
          exact absurd q2 (by decide)
      exact ⟨(i, _), rfl, rfl, ⟨hji, by omega, hp, fun _ => hb⟩, rfl⟩
    · have hb : pu_di (pu_cs byt e i) = true := by
        cases hc : pu_di (pu_cs byt e i)
        · rw [hr2, hr, hc] at q2
          exact absurd rfl q2
        · rfl
      refine ⟨i, ⟨by omega, he, rfl, rfl⟩, fun r3 hr3 x hx y hy => ?_⟩
      refine ⟨z - 1, by omega, i + 1, by omega, by rw [hy]; exact nI_1 i, by omega, fun a h4 h5 => ?_, ?_⟩
      · by_cases h6 : a = i
        · rw [h6]; exact hb
        · exact hp a h4 (by omega)
      · rw [show i + 1 - j = (i - j) + 1 by omega, pu_num, show j + (i - j) = i by omega, hx, hr3]
