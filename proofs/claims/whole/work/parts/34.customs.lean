
abbrev rmX5_begin : Room := { frames := 3, cells := 0, slots := 0, locals := 69 }
set_option maxHeartbeats 4000000 in
set_option maxRecDepth 100000 in
theorem sgX5_begin_0 {B : pz_B} {g : pz_G} {wc : va_W} {Post : Option Value → va_W → Prop} (F : pz_F B cX5_begin 3 none yX5_begin.cls g rmX5_begin) (Rt : pz_Rt B g wc Post rmX5_begin) (h0 : Nat) (ht : Nat) (m : Int32) (z : Option Nat) (en : Int32) (tk : Int32) (sa : Int32) (bh : Int32) (nu : Int32) (hb : Nat) (ts : Int32) (byt : Nat → Int32) (e : Nat)  (vc : (0 ≤ e ∧ e ≤ 400 ∧ 0 = nI 0 ∧ m = nI e) ∧ ∀ tk2_2 : Int32, ∀ nu2_3 : Int32, ∀ _ : (tk2_2 = tk_k (pu_cs byt e) e 0 ∧ nu2_3 = if tk2_2 = 2 then tk_n (pu_cs byt e) e 0 else nu), Post none [(h0, .inr (4, [.ref ht, .int m, .int tk2_2, .int (nI (tk_s (pu_cs byt e) e 0)), .int (nI (tk_e (pu_cs byt e) e 0)), .int nu2_3])), (ht, .inr (6, [.ref hb, .int ts])), (hb, .inl (g.2.1 0, 400, .inl byt))]) : pz_At B 0 0 0 [(0, .ref h0), (1, .ref ht), (2, .int m)] [] [(h0, .inr (4, [va_rf z, .int en, .int tk, .int sa, .int bh, .int nu])), (ht, .inr (6, [.ref hb, .int ts])), (hb, .inl (g.2.1 0, 400, .inl byt))] := by
  refine pz_aload_n 0 F rfl dX5_begin_0 rfl ?_
  refine pz_aload_n 1 F rfl dX5_begin_1 rfl ?_
  refine pz_put (ws' := [(h0, .inr (4, [.ref ht, .int en, .int tk, .int sa, .int bh, .int nu])), (ht, .inr (6, [.ref hb, .int ts])), (hb, .inl (g.2.1 0, 400, .inl byt))]) (ci := 4) (C := RX5) (T := TX5) (N := 6) (v := .ref ht) (ty := .object "StoneHall$Tape") 0 F rfl rfl pz_inX5 0 (by decide) pw_60 tyX5_ok nmX5 rfl rfl rfl rfl (Nat.le_of_ble_eq_true rfl) dX5_begin_2 rfl ?_
  refine pz_aload_n 0 F rfl dX5_begin_5 rfl ?_
  refine pz_iload_n 2 F rfl dX5_begin_6 rfl ?_
  refine pz_put (ws' := [(h0, .inr (4, [.ref ht, .int m, .int tk, .int sa, .int bh, .int nu])), (ht, .inr (6, [.ref hb, .int ts])), (hb, .inl (g.2.1 0, 400, .inl byt))]) (ci := 4) (C := RX5) (T := TX5) (N := 6) (v := .int m) (ty := .int) 0 F rfl rfl pz_inX5 1 (by decide) pw_61 tyX5_ok nmX5 rfl rfl rfl rfl (Nat.le_of_ble_eq_true rfl) dX5_begin_7 rfl ?_
  refine pz_aload_n 0 F rfl dX5_begin_10 rfl ?_
  refine pz_iconst (v := 0) F dX5_begin_11 rfl ?_
  refine pz_put (ws' := [(h0, .inr (4, [.ref ht, .int m, .int tk, .int sa, .int 0, .int nu])), (ht, .inr (6, [.ref hb, .int ts])), (hb, .inl (g.2.1 0, 400, .inl byt))]) (ci := 4) (C := RX5) (T := TX5) (N := 6) (v := .int 0) (ty := .int) 0 F rfl rfl pz_inX5 4 (by decide) pw_66 tyX5_ok nmX5 rfl rfl rfl rfl (Nat.le_of_ble_eq_true rfl) dX5_begin_12 rfl ?_
  refine pz_aload_n 0 F rfl dX5_begin_15 rfl ?_
  obtain ⟨h_1, vc⟩ := vc
  refine pz_callV (nA := 0) (ci := 4) (C := RX5) (T := TX5) (N := 6) (As := []) (rest := []) (wr := []) F (ctX5_advance _ g h0 ht m tk sa 0 nu hb ts byt 0 e h_1) 0 rfl rfl pw_263 pw_264 pw_265 pw_4 pw_266 (by decide +kernel) (by decide) (by decide) rfl rfl (Nat.le_of_ble_eq_true rfl) [0, 1, 2] [] rfl rfl rfl rfl (by decide) dX5_begin_16 (fun r0 w0 hp0 => ?_)
  obtain ⟨⟨tk2_2, nu2_3⟩, rfl, rfl, hq_4⟩ := hp0
  replace vc := vc tk2_2 nu2_3 hq_4
  refine pz_eq (st' := []) (ws' := [(h0, .inr (4, [.ref ht, .int m, .int tk2_2, .int (nI (tk_s (pu_cs byt e) e 0)), .int (nI (tk_e (pu_cs byt e) e 0)), .int nu2_3])), (ht, .inr (6, [.ref hb, .int ts])), (hb, .inl (g.2.1 0, 400, .inl byt))]) rfl rfl ?_
  exact pz_return (w1 := [(h0, .inr (4, [.ref ht, .int m, .int tk2_2, .int (nI (tk_s (pu_cs byt e) e 0)), .int (nI (tk_e (pu_cs byt e) e 0)), .int nu2_3])), (ht, .inr (6, [.ref hb, .int ts])), (hb, .inl (g.2.1 0, 400, .inl byt))]) F Rt (by decide) (by decide) dX5_begin_19 [0, 1, 2] rfl rfl vc
set_option maxHeartbeats 4000000 in
set_option maxRecDepth 100000 in
theorem ctX5_begin (l : Launch) (g : pz_G) (h0 : Nat) (ht : Nat) (m : Int32) (z : Option Nat) (en : Int32) (tk : Int32) (sa : Int32) (bh : Int32) (nu : Int32) (hb : Nat) (ts : Int32) (byt : Nat → Int32) (e : Nat) (hpre : e ≤ 400 ∧ m = nI e) : pz_Ct l g yX5_begin cX5_begin 3 none rmX5_begin [.ref h0, .ref ht, .int m] [(h0, .inr (4, [va_rf z, .int en, .int tk, .int sa, .int bh, .int nu])), (ht, .inr (6, [.ref hb, .int ts])), (hb, .inl (g.2.1 0, 400, .inl byt))] (pz_pv (fun (u : Int32 × Int32) => u.1 = tk_k (pu_cs byt e) e 0 ∧ u.2 = if u.1 = 2 then tk_n (pu_cs byt e) e 0 else nu) (fun (u : Int32 × Int32) => [(h0, .inr (4, [.ref ht, .int (nI e), .int u.1, .int (nI (tk_s (pu_cs byt e) e 0)), .int (nI (tk_e (pu_cs byt e) e 0)), .int u.2])), (ht, .inr (6, [.ref hb, .int ts])), (hb, .inl (g.2.1 0, 400, .inl byt))])) := by
  refine pz_ofAt (by decide +kernel) (Nat.le_of_ble_eq_true rfl) (fun B F Rt hme => ?_)
  obtain ⟨he, h1⟩ := hpre
  subst h1
  refine sgX5_begin_0 F Rt h0 ht (nI e) z en tk sa bh nu hb ts byt e ?_
  exact ⟨⟨Nat.zero_le _, he, rfl, rfl⟩, fun tk2 nu2 h => ⟨(tk2, nu2), rfl, rfl, h⟩⟩
abbrev rmX5_stands : Room := { frames := 4, cells := 0, slots := 0, locals := 85 }
abbrev paX5_stands_28 (B : pz_B) (g : pz_G) (si : Nat) (h0 : Nat) (ht : Nat) (en : Int32) (tk : Int32) (sa : Int32) (bh : Int32) (nu : Int32) (hb : Nat) (ts : Int32) (byt : Nat → Int32) (a : Nat) (b : Nat) (e : Nat) (i : Int32) : Prop := pz_At B 0 0 28 [(0, .ref h0), (1, .ref (g.2.2 (30 + si))), (2, .int i)] [] [(h0, .inr (4, [.ref ht, .int en, .int tk, .int sa, .int bh, .int nu])), (ht, .inr (6, [.ref hb, .int ts])), (hb, .inl (g.2.1 0, 400, .inl byt))]
set_option maxHeartbeats 4000000 in
set_option maxRecDepth 100000 in
theorem sgX5_stands_0 {B : pz_B} {g : pz_G} {wc : va_W} {Post : Option Value → va_W → Prop} (F : pz_F B cX5_stands 3 (some .boolean) yX5_stands.cls g rmX5_stands) (Rt : pz_Rt B g wc Post rmX5_stands) (si : Nat) (h0 : Nat) (ht : Nat) (en : Int32) (tk : Int32) (sa : Int32) (bh : Int32) (nu : Int32) (hb : Nat) (ts : Int32) (byt : Nat → Int32) (a : Nat) (b : Nat) (e : Nat) (T28 : Int32 → Prop) (hT28 : ∀ (i : Int32), T28 i → paX5_stands_28 B g si h0 ht en tk sa bh nu hb ts byt a b e i)  (vc : ((¬ tk = 1 → Post (some (.int 0)) [(h0, .inr (4, [.ref ht, .int en, .int tk, .int sa, .int bh, .int nu])), (ht, .inr (6, [.ref hb, .int ts])), (hb, .inl (g.2.1 0, 400, .inl byt))]) ∧ (tk = 1 → (si < 14) ∧ si < 14 ∧ ∀ r_3 : Int32, ∀ _ : (r_3 = nI (pz_ln si)), (((bh - sa) = r_3 → T28 0) ∧ (¬ (bh - sa) = r_3 → Post (some (.int 0)) [(h0, .inr (4, [.ref ht, .int en, .int tk, .int sa, .int bh, .int nu])), (ht, .inr (6, [.ref hb, .int ts])), (hb, .inl (g.2.1 0, 400, .inl byt))]))))) : pz_At B 0 0 0 [(0, .ref h0), (1, .ref (g.2.2 (30 + si)))] [] [(h0, .inr (4, [.ref ht, .int en, .int tk, .int sa, .int bh, .int nu])), (ht, .inr (6, [.ref hb, .int ts])), (hb, .inl (g.2.1 0, 400, .inl byt))] := by
  refine pz_aload_n 0 F rfl dX5_stands_0 rfl ?_
  refine pz_get (ci := 4) (C := RX5) (T := TX5) (N := 6) (v := .int tk) 0 F rfl rfl pz_inX5 2 (by decide) pw_63 rfl dX5_stands_1 ?_
  refine pz_iconst (v := 1) F dX5_stands_4 rfl ?_
  refine pz_icmp_ne (tgt := 24) F dX5_stands_5 (by decide) (fun q_1 => ?_) (fun q_1 => ?_)
  · replace vc := vc.1 q_1
    refine pz_iconst (v := 0) F dX5_stands_24 rfl ?_
    exact pz_ireturn (w1 := [(h0, .inr (4, [.ref ht, .int en, .int tk, .int sa, .int bh, .int nu])), (ht, .inr (6, [.ref hb, .int ts])), (hb, .inl (g.2.1 0, 400, .inl byt))]) F Rt (by decide) (by decide) dX5_stands_25 [0, 1, 2] rfl rfl rfl vc
  · replace vc := vc.2 q_1
    refine pz_aload_n 0 F rfl dX5_stands_8 rfl ?_
    refine pz_get (ci := 4) (C := RX5) (T := TX5) (N := 6) (v := .int bh) 0 F rfl rfl pz_inX5 4 (by decide) pw_66 rfl dX5_stands_9 ?_
    refine pz_aload_n 0 F rfl dX5_stands_12 rfl ?_
    refine pz_get (ci := 4) (C := RX5) (T := TX5) (N := 6) (v := .int sa) 0 F rfl rfl pz_inX5 3 (by decide) pw_64 rfl dX5_stands_13 ?_
    refine pz_isub F dX5_stands_16 ?_
    refine pz_aload_n 1 F rfl dX5_stands_17 rfl ?_
    obtain ⟨h_2, vc⟩ := vc
    obtain ⟨h_4, vc⟩ := vc
    refine pz_callVr (nA := 0) (As := []) (rest := [.int (bh - sa)]) (wr := [(h0, .inr (4, [.ref ht, .int en, .int tk, .int sa, .int bh, .int nu])), (ht, .inr (6, [.ref hb, .int ts])), (hb, .inl (g.2.1 0, 400, .inl byt))]) F (ctJ0_length_8abf5 _ g si h_2) (pz_strO F (i := si) h_4) pw_310 pw_311 pw_312 pw_10 pw_313 (by decide +kernel) (by decide) (by decide) rfl rfl (Nat.le_of_ble_eq_true rfl) [] [0, 1, 2] rfl rfl rfl rfl (by decide) dX5_stands_18 (fun r0 w0 hp0 => ?_)
    obtain ⟨r_3, _, rfl, rfl, hq_5⟩ := hp0
    replace vc := vc r_3  hq_5
    refine pz_eq (st' := [.int r_3, .int (bh - sa)]) (ws' := [(h0, .inr (4, [.ref ht, .int en, .int tk, .int sa, .int bh, .int nu])), (ht, .inr (6, [.ref hb, .int ts])), (hb, .inl (g.2.1 0, 400, .inl byt))]) rfl rfl ?_
    refine pz_icmp_eq (tgt := 26) F dX5_stands_21 (by decide) (fun q_6 => ?_) (fun q_6 => ?_)
    · replace vc := vc.1 q_6
      refine pz_iconst (v := 0) F dX5_stands_26 rfl ?_
      refine pz_istore_n (lv' := [(2, .int 0), (0, .ref h0), (1, .ref (g.2.2 (30 + si)))]) F dX5_stands_27 rfl (by decide) rfl ?_
      exact pz_sub [1, 2, 0] [0, 1, 2] rfl rfl rfl (hT28 0 vc)
    · replace vc := vc.2 q_6
      refine pz_iconst (v := 0) F dX5_stands_24 rfl ?_
      exact pz_ireturn (w1 := [(h0, .inr (4, [.ref ht, .int en, .int tk, .int sa, .int bh, .int nu])), (ht, .inr (6, [.ref hb, .int ts])), (hb, .inl (g.2.1 0, 400, .inl byt))]) F Rt (by decide) (by decide) dX5_stands_25 [0, 1, 2] rfl rfl rfl vc
set_option maxHeartbeats 4000000 in
set_option maxRecDepth 100000 in
theorem sgX5_stands_28 {B : pz_B} {g : pz_G} {wc : va_W} {Post : Option Value → va_W → Prop} (F : pz_F B cX5_stands 3 (some .boolean) yX5_stands.cls g rmX5_stands) (Rt : pz_Rt B g wc Post rmX5_stands) (si : Nat) (h0 : Nat) (ht : Nat) (en : Int32) (tk : Int32) (sa : Int32) (bh : Int32) (nu : Int32) (hb : Nat) (ts : Int32) (byt : Nat → Int32) (a : Nat) (b : Nat) (e : Nat) (T28 : Int32 → Prop) (hT28 : ∀ (i : Int32), T28 i → paX5_stands_28 B g si h0 ht en tk sa bh nu hb ts byt a b e i) (i : Int32) (vc : (si < 14) ∧ si < 14 ∧ ∀ r_2 : Int32, ∀ _ : (r_2 = nI (pz_ln si)), ((r_2 ≤ i → Post (some (.int 1)) [(h0, .inr (4, [.ref ht, .int en, .int tk, .int sa, .int bh, .int nu])), (ht, .inr (6, [.ref hb, .int ts])), (hb, .inl (g.2.1 0, 400, .inl byt))]) ∧ (¬ r_2 ≤ i → ∃ j_6 : Nat, (j_6 < 1000 ∧ e ≤ 400 ∧ (sa + i) = nI j_6 ∧ en = nI e) ∧ ∀ r_8 : Int32, ∀ _ : (r_8 = pu_cs byt e j_6), (si < 14 ∧ ¬ i < 0 ∧ i < nI (pz_ln si)) ∧ si < 14 ∧ ∀ r_11 : Int32, ∀ _ : (r_11 = ((pz_by si i.toNatClampNeg &&& 255).toUInt32 % 65536).toInt32), ((r_8 = r_11 → ∀ x_15 : Int32, x_15 = i + 1 → T28 x_15) ∧ (¬ r_8 = r_11 → Post (some (.int 0)) [(h0, .inr (4, [.ref ht, .int en, .int tk, .int sa, .int bh, .int nu])), (ht, .inr (6, [.ref hb, .int ts])), (hb, .inl (g.2.1 0, 400, .inl byt))]))))) : pz_At B 0 0 28 [(0, .ref h0), (1, .ref (g.2.2 (30 + si))), (2, .int i)] [] [(h0, .inr (4, [.ref ht, .int en, .int tk, .int sa, .int bh, .int nu])), (ht, .inr (6, [.ref hb, .int ts])), (hb, .inl (g.2.1 0, 400, .inl byt))] := by
  refine pz_iload_n 2 F rfl dX5_stands_28 rfl ?_
  refine pz_aload_n 1 F rfl dX5_stands_29 rfl ?_
  obtain ⟨h_1, vc⟩ := vc
  obtain ⟨h_3, vc⟩ := vc
  refine pz_callVr (nA := 0) (As := []) (rest := [.int i]) (wr := [(h0, .inr (4, [.ref ht, .int en, .int tk, .int sa, .int bh, .int nu])), (ht, .inr (6, [.ref hb, .int ts])), (hb, .inl (g.2.1 0, 400, .inl byt))]) F (ctJ0_length_8abf5 _ g si h_1) (pz_strO F (i := si) h_3) pw_310 pw_311 pw_312 pw_10 pw_313 (by decide +kernel) (by decide) (by decide) rfl rfl (Nat.le_of_ble_eq_true rfl) [] [0, 1, 2] rfl rfl rfl rfl (by decide) dX5_stands_30 (fun r0 w0 hp0 => ?_)
  obtain ⟨r_2, _, rfl, rfl, hq_4⟩ := hp0
  replace vc := vc r_2  hq_4
  refine pz_eq (st' := [.int r_2, .int i]) (ws' := [(h0, .inr (4, [.ref ht, .int en, .int tk, .int sa, .int bh, .int nu])), (ht, .inr (6, [.ref hb, .int ts])), (hb, .inl (g.2.1 0, 400, .inl byt))]) rfl rfl ?_
  refine pz_icmp_ge (tgt := 62) F dX5_stands_33 (by decide) (fun q_5 => ?_) (fun q_5 => ?_)
  · replace vc := vc.1 q_5
    refine pz_iconst (v := 1) F dX5_stands_62 rfl ?_
    exact pz_ireturn (w1 := [(h0, .inr (4, [.ref ht, .int en, .int tk, .int sa, .int bh, .int nu])), (ht, .inr (6, [.ref hb, .int ts])), (hb, .inl (g.2.1 0, 400, .inl byt))]) F Rt (by decide) (by decide) dX5_stands_63 [0, 1, 2] rfl rfl rfl vc
  · replace vc := vc.2 q_5
    refine pz_aload_n 0 F rfl dX5_stands_36 rfl ?_
    refine pz_aload_n 0 F rfl dX5_stands_37 rfl ?_
    refine pz_get (ci := 4) (C := RX5) (T := TX5) (N := 6) (v := .int sa) 0 F rfl rfl pz_inX5 3 (by decide) pw_64 rfl dX5_stands_38 ?_
    refine pz_iload_n 2 F rfl dX5_stands_41 rfl ?_
    refine pz_iadd F dX5_stands_42 ?_
    obtain ⟨j_6, vc⟩ := vc
    obtain ⟨h_7, vc⟩ := vc
    refine pz_callV (nA := 1) (ci := 4) (C := RX5) (T := TX5) (N := 6) (As := [.int (sa + i)]) (rest := []) (wr := []) F (ctX5_signAt _ g (sa + i) h0 ht en tk sa bh nu hb ts byt j_6 e h_7) 0 rfl rfl pw_271 pw_273 pv_2 pw_4 pw_274 (by decide +kernel) (by decide) (by decide) rfl rfl (Nat.le_of_ble_eq_true rfl) [0, 1, 2] [] rfl rfl rfl rfl (by decide) dX5_stands_43 (fun r0 w0 hp0 => ?_)
    obtain ⟨r_8, _, rfl, rfl, hq_9⟩ := hp0
    replace vc := vc r_8  hq_9
    refine pz_eq (st' := [.int r_8]) (ws' := [(h0, .inr (4, [.ref ht, .int en, .int tk, .int sa, .int bh, .int nu])), (ht, .inr (6, [.ref hb, .int ts])), (hb, .inl (g.2.1 0, 400, .inl byt))]) rfl rfl ?_
    refine pz_aload_n 1 F rfl dX5_stands_46 rfl ?_
    refine pz_iload_n 2 F rfl dX5_stands_47 rfl ?_
    obtain ⟨h_10, vc⟩ := vc
    obtain ⟨h_12, vc⟩ := vc
    refine pz_callVr (nA := 1) (As := [.int i]) (rest := [.int r_8]) (wr := [(h0, .inr (4, [.ref ht, .int en, .int tk, .int sa, .int bh, .int nu])), (ht, .inr (6, [.ref hb, .int ts])), (hb, .inl (g.2.1 0, 400, .inl byt))]) F (ctJ0_charAt_5068e _ g si i h_10) (pz_strO F (i := si) h_12) pw_320 pw_321 pw_322 pw_10 pw_323 (by decide +kernel) (by decide) (by decide) rfl rfl (Nat.le_of_ble_eq_true rfl) [] [0, 1, 2] rfl rfl rfl rfl (by decide) dX5_stands_48 (fun r0 w0 hp0 => ?_)
    obtain ⟨r_11, _, rfl, rfl, hq_13⟩ := hp0
    replace vc := vc r_11  hq_13
    refine pz_eq (st' := [.int r_11, .int r_8]) (ws' := [(h0, .inr (4, [.ref ht, .int en, .int tk, .int sa, .int bh, .int nu])), (ht, .inr (6, [.ref hb, .int ts])), (hb, .inl (g.2.1 0, 400, .inl byt))]) rfl rfl ?_
    refine pz_icmp_eq (tgt := 56) F dX5_stands_51 (by decide) (fun q_14 => ?_) (fun q_14 => ?_)
    · replace vc := vc.1 q_14
      obtain ⟨x_15, ex_15⟩ : ∃ z : Int32, z = i + 1 := ⟨_, rfl⟩
      replace vc := vc x_15 ex_15
      refine pz_iinc (v := x_15) (lv' := [(2, .int x_15), (0, .ref h0), (1, .ref (g.2.2 (30 + si)))]) 2 F rfl dX5_stands_56 (by rw [ex_15]; rfl) (by decide) rfl ?_
      refine pz_goto (tgt := 28) F dX5_stands_59 (by decide) ?_
      exact pz_sub [1, 2, 0] [0, 1, 2] rfl rfl rfl (hT28 x_15 vc)
    · replace vc := vc.2 q_14
      refine pz_iconst (v := 0) F dX5_stands_54 rfl ?_
      exact pz_ireturn (w1 := [(h0, .inr (4, [.ref ht, .int en, .int tk, .int sa, .int bh, .int nu])), (ht, .inr (6, [.ref hb, .int ts])), (hb, .inl (g.2.1 0, 400, .inl byt))]) F Rt (by decide) (by decide) dX5_stands_55 [0, 1, 2] rfl rfl rfl vc
theorem lpX5_stands_28 {B : pz_B} {g : pz_G} {wc : va_W} {Post : Option Value → va_W → Prop} (F : pz_F B cX5_stands 3 (some .boolean) yX5_stands.cls g rmX5_stands) (Rt : pz_Rt B g wc Post rmX5_stands) (si : Nat) (h0 : Nat) (ht : Nat) (en : Int32) (tk : Int32) (sa : Int32) (bh : Int32) (nu : Int32) (hb : Nat) (ts : Int32) (byt : Nat → Int32) (a : Nat) (b : Nat) (e : Nat) (Inv : Nat → Int32 → Prop) (step : ∀ (mz : Nat) (i : Int32), Inv mz i → ∀ TT : Int32 → Prop, TT = (fun i => ∃ mz', mz' < mz ∧ Inv mz' i) → (si < 14) ∧ si < 14 ∧ ∀ r_2 : Int32, ∀ _ : (r_2 = nI (pz_ln si)), ((r_2 ≤ i → Post (some (.int 1)) [(h0, .inr (4, [.ref ht, .int en, .int tk, .int sa, .int bh, .int nu])), (ht, .inr (6, [.ref hb, .int ts])), (hb, .inl (g.2.1 0, 400, .inl byt))]) ∧ (¬ r_2 ≤ i → ∃ j_6 : Nat, (j_6 < 1000 ∧ e ≤ 400 ∧ (sa + i) = nI j_6 ∧ en = nI e) ∧ ∀ r_8 : Int32, ∀ _ : (r_8 = pu_cs byt e j_6), (si < 14 ∧ ¬ i < 0 ∧ i < nI (pz_ln si)) ∧ si < 14 ∧ ∀ r_11 : Int32, ∀ _ : (r_11 = ((pz_by si i.toNatClampNeg &&& 255).toUInt32 % 65536).toInt32), ((r_8 = r_11 → ∀ x_15 : Int32, x_15 = i + 1 → TT x_15) ∧ (¬ r_8 = r_11 → Post (some (.int 0)) [(h0, .inr (4, [.ref ht, .int en, .int tk, .int sa, .int bh, .int nu])), (ht, .inr (6, [.ref hb, .int ts])), (hb, .inl (g.2.1 0, 400, .inl byt))]))))) : ∀ (mz : Nat) (i : Int32), Inv mz i → paX5_stands_28 B g si h0 ht en tk sa bh nu hb ts byt a b e i := by
  intro mz
  induction mz using Nat.strongRecOn with
  | _ mz ih =>
    intro i hI
    exact sgX5_stands_28 F Rt si h0 ht en tk sa bh nu hb ts byt a b e (fun i => ∃ mz', mz' < mz ∧ Inv mz' i) (fun i ⟨mz', h1, h2⟩ => ih mz' h1 i h2) i (step mz i hI _ rfl)
set_option maxHeartbeats 4000000 in
set_option maxRecDepth 100000 in
theorem ctX5_stands (l : Launch) (g : pz_G) (si : Nat) (h0 : Nat) (ht : Nat) (en : Int32) (tk : Int32) (sa : Int32) (bh : Int32) (nu : Int32) (hb : Nat) (ts : Int32) (byt : Nat → Int32) (a : Nat) (b : Nat) (e : Nat) (hpre : si < 14 ∧ a ≤ b ∧ b ≤ e ∧ e ≤ 400 ∧ sa = nI a ∧ bh = nI b ∧ en = nI e) : pz_Ct l g yX5_stands cX5_stands 3 (some .boolean) rmX5_stands [.ref h0, .ref (g.2.2 (30 + si))] [(h0, .inr (4, [.ref ht, .int en, .int tk, .int sa, .int bh, .int nu])), (ht, .inr (6, [.ref hb, .int ts])), (hb, .inl (g.2.1 0, 400, .inl byt))] (pz_pi (fun (r : Int32) (u : Unit) => (r = 1 ∧ tk = 1 ∧ pu_wd (pu_cs byt e) a b si) ∨ (r = 0 ∧ ¬ (tk = 1 ∧ pu_wd (pu_cs byt e) a b si))) (fun (u : Unit) => [(h0, .inr (4, [.ref ht, .int en, .int tk, .int sa, .int bh, .int nu])), (ht, .inr (6, [.ref hb, .int ts])), (hb, .inl (g.2.1 0, 400, .inl byt))])) := by
  refine pz_ofAt (by decide +kernel) (Nat.le_of_ble_eq_true rfl) (fun B F Rt hme => ?_)
  obtain ⟨hs, hab, hbe, he, h1, h2, h3⟩ := hpre
  subst h1; subst h2; subst h3
  have hl8 := pz_ln8 hs
  have h28 := lpX5_stands_28 F Rt si h0 ht (nI e) tk (nI a) (nI b) nu hb ts byt a b e (fun z i => ∃ j, j + z = pz_ln si ∧ i = nI j ∧ tk = 1 ∧ b = a + pz_ln si ∧ ∀ k, k < j → pu_cs byt e (a + k) = pz_by si k) (by
    rintro z i ⟨j, hj, rfl, ht, hb2, hp⟩ TT rfl
    refine ⟨hs, hs, fun r hr => ⟨fun q => ?_, fun q => ?_⟩⟩
    · rw [hr] at q
      have h4 := pu_ge (by omega) q
      exact ⟨_, (), rfl, rfl, Or.inl ⟨rfl, ht, hb2, fun k hk => hp k (by omega)⟩⟩
    · rw [hr] at q
      have h4 := pu_lt (n := pz_ln si) (by omega) (by omega) q
      refine ⟨a + j, ⟨by omega, he, nI_add a j, rfl⟩, fun r2 hr2 => ⟨⟨hs, nI_pos (by omega), nI_lt h4 (by omega)⟩, hs, fun r3 hr3 => ⟨fun q2 => ?_, fun q2 => ?_⟩⟩⟩
      · rintro x rfl
        refine ⟨z - 1, by omega, j + 1, by omega, nI_1 j, ht, hb2, fun k hk => ?_⟩
        by_cases h5 : k = j
        · rw [h5, ← hr2, q2, hr3, nI_clamp (by omega), pz_chr hs h4]
        · exact hp k (by omega)
      · refine ⟨_, (), rfl, rfl, Or.inr ⟨rfl, fun h => q2 ?_⟩⟩
        rw [hr2, hr3, nI_clamp (by omega), pz_chr hs h4]
        exact h.2.2 j h4)
  refine sgX5_stands_0 F Rt si h0 ht (nI e) tk (nI a) (nI b) nu hb ts byt a b e _ (fun i => h28 (pz_ln si) i) ?_
  refine ⟨fun q => ⟨_, (), rfl, rfl, Or.inr ⟨rfl, fun h => q h.1⟩⟩, fun q => ⟨hs, hs, fun r hr => ⟨fun q2 => ?_, fun q2 => ?_⟩⟩⟩
  · rw [pk_sub hab, hr, nI_eq (by omega) (by omega)] at q2
    exact ⟨0, by omega, nI_0.symm, q, by omega, fun k hk => absurd hk (by omega)⟩
  · rw [pk_sub hab, hr, nI_eq (by omega) (by omega)] at q2
    exact ⟨_, (), rfl, rfl, Or.inr ⟨rfl, fun h => q2 (by have := h.2.1; omega)⟩⟩
abbrev rmX2_coins : Room := { frames := 0, cells := 0, slots := 0, locals := 0 }
set_option maxHeartbeats 4000000 in
set_option maxRecDepth 100000 in
theorem sgX2_coins_0 {B : pz_B} {g : pz_G} {wc : va_W} {Post : Option Value → va_W → Prop} (F : pz_F B cX2_coins 2 (some .int) yX2_coins.cls g rmX2_coins) (Rt : pz_Rt B g wc Post rmX2_coins) (h0 : Nat) (li : Nat) (hr : Nat) (hi : Nat) (hd : Nat) (ho : Nat) (ff : Int32) (fp : Int32) (inf : Nat → Int32)  (vc : li < 9 ∧ vp_in (pz_sl li) 12 ∧ ∀ x_3 : Int32, x_3 = (inf (pz_sl li).toNatClampNeg) → Post (some (.int x_3)) [(h0, .inr (2, [.ref hr, .ref hi, .ref hd, .ref ho, .int ff, .int fp])), (hi, .inl (g.2.1 1, 12, .inl inf))]) : pz_At B 0 0 0 [(0, .ref h0), (1, .ref (g.2.2 li))] [] [(h0, .inr (2, [.ref hr, .ref hi, .ref hd, .ref ho, .int ff, .int fp])), (hi, .inl (g.2.1 1, 12, .inl inf))] := by
  refine pz_aload_n 0 F rfl dX2_coins_0 rfl ?_
  refine pz_get (ci := 2) (C := RX2) (T := TX2) (N := 6) (v := .ref hi) 0 F rfl rfl pz_inX2 1 (by decide) pw_83 rfl dX2_coins_1 ?_
  refine pz_aload_n 1 F rfl dX2_coins_4 rfl ?_
  obtain ⟨h_1, vc⟩ := vc
  refine pz_getO F (pz_lineS F (i := li) h_1) pw_1153 dX2_coins_5 ?_
  show pz_At B 0 0 8 [(0, .ref h0), (1, .ref (g.2.2 li))] [.int (pz_sl li), .ref hi] [(h0, .inr (2, [.ref hr, .ref hi, .ref hd, .ref ho, .int ff, .int fp])), (hi, .inl (g.2.1 1, 12, .inl inf))]
  obtain ⟨h_2, vc⟩ := vc
  refine pz_iaload 1 F rfl h_2 dX2_coins_8 ?_
  refine pz_topi (fun x_3 ex_3 => ?_)
  replace vc := vc x_3 ex_3
  exact pz_ireturn (w1 := [(h0, .inr (2, [.ref hr, .ref hi, .ref hd, .ref ho, .int ff, .int fp])), (hi, .inl (g.2.1 1, 12, .inl inf))]) F Rt (by decide) (by decide) dX2_coins_9 [0, 1] rfl rfl rfl vc
set_option maxHeartbeats 4000000 in
set_option maxRecDepth 100000 in
theorem ctX2_coins (l : Launch) (g : pz_G) (h0 : Nat) (li : Nat) (hr : Nat) (hi : Nat) (hd : Nat) (ho : Nat) (ff : Int32) (fp : Int32) (inf : Nat → Int32) (hpre : li < 9) : pz_Ct l g yX2_coins cX2_coins 2 (some .int) rmX2_coins [.ref h0, .ref (g.2.2 li)] [(h0, .inr (2, [.ref hr, .ref hi, .ref hd, .ref ho, .int ff, .int fp])), (hi, .inl (g.2.1 1, 12, .inl inf))] (pz_pi (fun (r : Int32) (u : Unit) => r = inf li) (fun (u : Unit) => [(h0, .inr (2, [.ref hr, .ref hi, .ref hd, .ref ho, .int ff, .int fp])), (hi, .inl (g.2.1 1, 12, .inl inf))])) := by
  refine pz_ofAt (by decide +kernel) (Nat.le_of_ble_eq_true rfl) (fun B F Rt hme => ?_)
  refine sgX2_coins_0 F Rt h0 li hr hi hd ho ff fp inf ?_
  have h1 : ∀ i, i < 9 → pz_sl i = nI i := by decide
  refine ⟨hpre, by rw [h1 li hpre]; exact vp_in_nI (by omega) (by omega), ?_⟩
  rintro x rfl
  exact ⟨_, (), rfl, rfl, by rw [h1 li hpre, nI_clamp (by omega)]⟩
abbrev rmX2_saysOther : Room := { frames := 0, cells := 0, slots := 0, locals := 0 }
set_option maxHeartbeats 4000000 in
set_option maxRecDepth 100000 in
theorem sgX2_saysOther_0 {B : pz_B} {g : pz_G} {wc : va_W} {Post : Option Value → va_W → Prop} (F : pz_F B cX2_saysOther 2 (some .boolean) yX2_saysOther.cls g rmX2_saysOther) (Rt : pz_Rt B g wc Post rmX2_saysOther) (h0 : Nat) (li : Nat) (hr : Nat) (hi : Nat) (hd : Nat) (ho : Nat) (ff : Int32) (fp : Int32) (inf : Nat → Int32)  (vc : li < 9 ∧ vp_in (pz_sl li) 12 ∧ ((¬ (inf (pz_sl li).toNatClampNeg) = 1 → Post (some (.int 0)) [(h0, .inr (2, [.ref hr, .ref hi, .ref hd, .ref ho, .int ff, .int fp])), (hi, .inl (g.2.1 1, 12, .inl inf))]) ∧ ((inf (pz_sl li).toNatClampNeg) = 1 → Post (some (.int 1)) [(h0, .inr (2, [.ref hr, .ref hi, .ref hd, .ref ho, .int ff, .int fp])), (hi, .inl (g.2.1 1, 12, .inl inf))]))) : pz_At B 0 0 0 [(0, .ref h0), (1, .ref (g.2.2 li))] [] [(h0, .inr (2, [.ref hr, .ref hi, .ref hd, .ref ho, .int ff, .int fp])), (hi, .inl (g.2.1 1, 12, .inl inf))] := by
  refine pz_aload_n 0 F rfl dX2_saysOther_0 rfl ?_
  refine pz_get (ci := 2) (C := RX2) (T := TX2) (N := 6) (v := .ref hi) 0 F rfl rfl pz_inX2 1 (by decide) pw_83 rfl dX2_saysOther_1 ?_
  refine pz_aload_n 1 F rfl dX2_saysOther_4 rfl ?_
  obtain ⟨h_1, vc⟩ := vc
  refine pz_getO F (pz_lineS F (i := li) h_1) pw_1153 dX2_saysOther_5 ?_
  show pz_At B 0 0 8 [(0, .ref h0), (1, .ref (g.2.2 li))] [.int (pz_sl li), .ref hi] [(h0, .inr (2, [.ref hr, .ref hi, .ref hd, .ref ho, .int ff, .int fp])), (hi, .inl (g.2.1 1, 12, .inl inf))]
  obtain ⟨h_2, vc⟩ := vc
  refine pz_iaload 1 F rfl h_2 dX2_saysOther_8 ?_
  refine pz_iconst (v := 1) F dX2_saysOther_9 rfl ?_
  refine pz_icmp_ne (tgt := 17) F dX2_saysOther_10 (by decide) (fun q_3 => ?_) (fun q_3 => ?_)
  · replace vc := vc.1 q_3
    refine pz_iconst (v := 0) F dX2_saysOther_17 rfl ?_
    exact pz_ireturn (w1 := [(h0, .inr (2, [.ref hr, .ref hi, .ref hd, .ref ho, .int ff, .int fp])), (hi, .inl (g.2.1 1, 12, .inl inf))]) F Rt (by decide) (by decide) dX2_saysOther_18 [0, 1] rfl rfl rfl vc
  · replace vc := vc.2 q_3
    refine pz_iconst (v := 1) F dX2_saysOther_13 rfl ?_
    refine pz_goto (tgt := 18) F dX2_saysOther_14 (by decide) ?_
    exact pz_ireturn (w1 := [(h0, .inr (2, [.ref hr, .ref hi, .ref hd, .ref ho, .int ff, .int fp])), (hi, .inl (g.2.1 1, 12, .inl inf))]) F Rt (by decide) (by decide) dX2_saysOther_18 [0, 1] rfl rfl rfl vc
set_option maxHeartbeats 4000000 in
set_option maxRecDepth 100000 in
theorem ctX2_saysOther (l : Launch) (g : pz_G) (h0 : Nat) (li : Nat) (hr : Nat) (hi : Nat) (hd : Nat) (ho : Nat) (ff : Int32) (fp : Int32) (inf : Nat → Int32) (hpre : li < 9) : pz_Ct l g yX2_saysOther cX2_saysOther 2 (some .boolean) rmX2_saysOther [.ref h0, .ref (g.2.2 li)] [(h0, .inr (2, [.ref hr, .ref hi, .ref hd, .ref ho, .int ff, .int fp])), (hi, .inl (g.2.1 1, 12, .inl inf))] (pz_pi (fun (r : Int32) (u : Unit) => r = if inf li = 1 then 1 else 0) (fun (u : Unit) => [(h0, .inr (2, [.ref hr, .ref hi, .ref hd, .ref ho, .int ff, .int fp])), (hi, .inl (g.2.1 1, 12, .inl inf))])) := by
  refine pz_ofAt (by decide +kernel) (Nat.le_of_ble_eq_true rfl) (fun B F Rt hme => ?_)
  refine sgX2_saysOther_0 F Rt h0 li hr hi hd ho ff fp inf ?_
  have h1 : ∀ i, i < 9 → pz_sl i = nI i := by decide
  refine ⟨hpre, by rw [h1 li hpre]; exact vp_in_nI (by omega) (by omega), ?_⟩
  rw [h1 li hpre, nI_clamp (by omega)]
  exact ⟨fun q => ⟨_, (), rfl, rfl, (if_neg q).symm⟩, fun q => ⟨_, (), rfl, rfl, (if_pos q).symm⟩⟩
abbrev rmX2_offerBehind : Room := { frames := 0, cells := 0, slots := 0, locals := 0 }
set_option maxHeartbeats 4000000 in
set_option maxRecDepth 100000 in
theorem sgX2_offerBehind_0 {B : pz_B} {g : pz_G} {wc : va_W} {Post : Option Value → va_W → Prop} (F : pz_F B cX2_offerBehind 2 (some .int) yX2_offerBehind.cls g rmX2_offerBehind) (Rt : pz_Rt B g wc Post rmX2_offerBehind) (h0 : Nat) (z : Int32) (hr : Nat) (hi : Nat) (hd : Nat) (ho : Nat) (ff : Int32) (fp : Int32) (inf : Nat → Int32)  (vc : ((z < 0 → vp_in (pz_sl 7) 12 ∧ ∀ x_3 : Int32, x_3 = (inf (pz_sl 7).toNatClampNeg) → Post (some (.int x_3)) [(h0, .inr (2, [.ref hr, .ref hi, .ref hd, .ref ho, .int ff, .int fp])), (hi, .inl (g.2.1 1, 12, .inl inf))]) ∧ (¬ z < 0 → ((z < 4 → vp_in ((pz_sl 8) + z) 12 ∧ ∀ x_6 : Int32, x_6 = (inf ((pz_sl 8) + z).toNatClampNeg) → Post (some (.int x_6)) [(h0, .inr (2, [.ref hr, .ref hi, .ref hd, .ref ho, .int ff, .int fp])), (hi, .inl (g.2.1 1, 12, .inl inf))]) ∧ (¬ z < 4 → vp_in (pz_sl 7) 12 ∧ ∀ x_8 : Int32, x_8 = (inf (pz_sl 7).toNatClampNeg) → Post (some (.int x_8)) [(h0, .inr (2, [.ref hr, .ref hi, .ref hd, .ref ho, .int ff, .int fp])), (hi, .inl (g.2.1 1, 12, .inl inf))]))))) : pz_At B 0 0 0 [(0, .ref h0), (1, .int z)] [] [(h0, .inr (2, [.ref hr, .ref hi, .ref hd, .ref ho, .int ff, .int fp])), (hi, .inl (g.2.1 1, 12, .inl inf))] := by
  refine pz_iload_n 1 F rfl dX2_offerBehind_0 rfl ?_
  refine pz_if_lt (tgt := 9) F dX2_offerBehind_1 (by decide) (fun q_1 => ?_) (fun q_1 => ?_)
  · replace vc := vc.1 q_1
    refine pz_aload_n 0 F rfl dX2_offerBehind_9 rfl ?_
    refine pz_get (ci := 2) (C := RX2) (T := TX2) (N := 6) (v := .ref hi) 0 F rfl rfl pz_inX2 1 (by decide) pw_83 rfl dX2_offerBehind_10 ?_
    refine pz_gets F (pz_line F (i := 7) (by decide)) pw_620 dX2_offerBehind_13 ?_
    refine pz_getO F (pz_lineS F (i := 7) (by decide)) pw_1153 dX2_offerBehind_16 ?_
    show pz_At B 0 0 19 [(0, .ref h0), (1, .int z)] [.int (pz_sl 7), .ref hi] [(h0, .inr (2, [.ref hr, .ref hi, .ref hd, .ref ho, .int ff, .int fp])), (hi, .inl (g.2.1 1, 12, .inl inf))]
    obtain ⟨h_2, vc⟩ := vc
    refine pz_iaload 1 F rfl h_2 dX2_offerBehind_19 ?_
    refine pz_topi (fun x_3 ex_3 => ?_)
    replace vc := vc x_3 ex_3
    exact pz_ireturn (w1 := [(h0, .inr (2, [.ref hr, .ref hi, .ref hd, .ref ho, .int ff, .int fp])), (hi, .inl (g.2.1 1, 12, .inl inf))]) F Rt (by decide) (by decide) dX2_offerBehind_20 [0, 1] rfl rfl rfl vc
  · replace vc := vc.2 q_1
    refine pz_iload_n 1 F rfl dX2_offerBehind_4 rfl ?_
    refine pz_iconst (v := 4) F dX2_offerBehind_5 rfl ?_
    refine pz_icmp_lt (tgt := 21) F dX2_offerBehind_6 (by decide) (fun q_4 => ?_) (fun q_4 => ?_)
    · replace vc := vc.1 q_4
      refine pz_aload_n 0 F rfl dX2_offerBehind_21 rfl ?_
      refine pz_get (ci := 2) (C := RX2) (T := TX2) (N := 6) (v := .ref hi) 0 F rfl rfl pz_inX2 1 (by decide) pw_83 rfl dX2_offerBehind_22 ?_
      refine pz_gets F (pz_line F (i := 8) (by decide)) pw_362 dX2_offerBehind_25 ?_
      refine pz_getO F (pz_lineS F (i := 8) (by decide)) pw_1153 dX2_offerBehind_28 ?_
      show pz_At B 0 0 31 [(0, .ref h0), (1, .int z)] [.int (pz_sl 8), .ref hi] [(h0, .inr (2, [.ref hr, .ref hi, .ref hd, .ref ho, .int ff, .int fp])), (hi, .inl (g.2.1 1, 12, .inl inf))]
      refine pz_iload_n 1 F rfl dX2_offerBehind_31 rfl ?_
      refine pz_iadd F dX2_offerBehind_32 ?_
      obtain ⟨h_5, vc⟩ := vc
      refine pz_iaload 1 F rfl h_5 dX2_offerBehind_33 ?_
      refine pz_topi (fun x_6 ex_6 => ?_)
      replace vc := vc x_6 ex_6
      exact pz_ireturn (w1 := [(h0, .inr (2, [.ref hr, .ref hi, .ref hd, .ref ho, .int ff, .int fp])), (hi, .inl (g.2.1 1, 12, .inl inf))]) F Rt (by decide) (by decide) dX2_offerBehind_34 [0, 1] rfl rfl rfl vc
    · replace vc := vc.2 q_4
      refine pz_aload_n 0 F rfl dX2_offerBehind_9 rfl ?_
      refine pz_get (ci := 2) (C := RX2) (T := TX2) (N := 6) (v := .ref hi) 0 F rfl rfl pz_inX2 1 (by decide) pw_83 rfl dX2_offerBehind_10 ?_
      refine pz_gets F (pz_line F (i := 7) (by decide)) pw_620 dX2_offerBehind_13 ?_
      refine pz_getO F (pz_lineS F (i := 7) (by decide)) pw_1153 dX2_offerBehind_16 ?_
      show pz_At B 0 0 19 [(0, .ref h0), (1, .int z)] [.int (pz_sl 7), .ref hi] [(h0, .inr (2, [.ref hr, .ref hi, .ref hd, .ref ho, .int ff, .int fp])), (hi, .inl (g.2.1 1, 12, .inl inf))]
      obtain ⟨h_7, vc⟩ := vc
      refine pz_iaload 1 F rfl h_7 dX2_offerBehind_19 ?_
      refine pz_topi (fun x_8 ex_8 => ?_)
      replace vc := vc x_8 ex_8
      exact pz_ireturn (w1 := [(h0, .inr (2, [.ref hr, .ref hi, .ref hd, .ref ho, .int ff, .int fp])), (hi, .inl (g.2.1 1, 12, .inl inf))]) F Rt (by decide) (by decide) dX2_offerBehind_20 [0, 1] rfl rfl rfl vc
set_option maxHeartbeats 4000000 in
set_option maxRecDepth 100000 in
theorem ctX2_offerBehind (l : Launch) (g : pz_G) (h0 : Nat) (z : Int32) (hr : Nat) (hi : Nat) (hd : Nat) (ho : Nat) (ff : Int32) (fp : Int32) (inf : Nat → Int32) (hpre : z < 4) : pz_Ct l g yX2_offerBehind cX2_offerBehind 2 (some .int) rmX2_offerBehind [.ref h0, .int z] [(h0, .inr (2, [.ref hr, .ref hi, .ref hd, .ref ho, .int ff, .int fp])), (hi, .inl (g.2.1 1, 12, .inl inf))] (pz_pi (fun (r : Int32) (u : Unit) => r = if z < 0 then inf 7 else inf (8 + z.toNatClampNeg)) (fun (u : Unit) => [(h0, .inr (2, [.ref hr, .ref hi, .ref hd, .ref ho, .int ff, .int fp])), (hi, .inl (g.2.1 1, 12, .inl inf))])) := by
  refine pz_ofAt (by decide +kernel) (Nat.le_of_ble_eq_true rfl) (fun B F Rt hme => ?_)
  refine sgX2_offerBehind_0 F Rt h0 z hr hi hd ho ff fp inf ?_
  rw [pz_slN (i := 7) (by omega), pz_slN (i := 8) (by omega)]
  refine ⟨fun q => ⟨vp_in_nI (by omega) (by omega), ?_⟩, fun q => ⟨fun q2 => ?_, fun q2 => absurd hpre q2⟩⟩
  · rintro x rfl
    exact ⟨_, (), rfl, rfl, by rw [if_pos q, nI_clamp (by omega)]⟩
  · obtain ⟨j, hj, hz⟩ := vp_in_of (pu_in2 q q2 (N := 4) (by decide)) (by decide)
    rw [if_neg q, hz, nI_add, nI_clamp (n := j) (by omega)]
    refine ⟨vp_in_nI (by omega) (by omega), ?_⟩
    rintro x rfl
    exact ⟨_, (), rfl, rfl, by rw [nI_clamp (by omega)]⟩
abbrev rmX2_blame : Room := { frames := 0, cells := 0, slots := 0, locals := 0 }
set_option maxHeartbeats 4000000 in
set_option maxRecDepth 100000 in
theorem sgX2_blame_0 {B : pz_B} {g : pz_G} {wc : va_W} {Post : Option Value → va_W → Prop} (F : pz_F B cX2_blame 2 (some .boolean) yX2_blame.cls g rmX2_blame) (Rt : pz_Rt B g wc Post rmX2_blame) (h0 : Nat) (w : Int32) (hr : Nat) (hi : Nat) (hd : Nat) (ho : Nat) (ff : Int32) (fp : Int32) (ht : Nat) (en : Int32) (tk : Int32) (sa : Int32) (bh : Int32) (nu : Int32)  (vc : Post (some (.int 0)) [(h0, .inr (2, [.ref hr, .ref hi, .ref hd, .ref ho, .int w, .int sa])), (hr, .inr (4, [.ref ht, .int en, .int tk, .int sa, .int bh, .int nu]))]) : pz_At B 0 0 0 [(0, .ref h0), (1, .int w)] [] [(h0, .inr (2, [.ref hr, .ref hi, .ref hd, .ref ho, .int ff, .int fp])), (hr, .inr (4, [.ref ht, .int en, .int tk, .int sa, .int bh, .int nu]))] := by
  refine pz_aload_n 0 F rfl dX2_blame_0 rfl ?_
  refine pz_iload_n 1 F rfl dX2_blame_1 rfl ?_
  refine pz_put (ws' := [(h0, .inr (2, [.ref hr, .ref hi, .ref hd, .ref ho, .int w, .int fp])), (hr, .inr (4, [.ref ht, .int en, .int tk, .int sa, .int bh, .int nu]))]) (ci := 2) (C := RX2) (T := TX2) (N := 6) (v := .int w) (ty := .int) 0 F rfl rfl pz_inX2 4 (by decide) pw_87 tyX2_ok nmX2 rfl rfl rfl rfl (Nat.le_of_ble_eq_true rfl) dX2_blame_2 rfl ?_
  refine pz_aload_n 0 F rfl dX2_blame_5 rfl ?_
  refine pz_aload_n 0 F rfl dX2_blame_6 rfl ?_
  refine pz_get (ci := 2) (C := RX2) (T := TX2) (N := 6) (v := .ref hr) 0 F rfl rfl pz_inX2 0 (by decide) pw_82 rfl dX2_blame_7 ?_
  refine pz_get (ci := 4) (C := RX5) (T := TX5) (N := 6) (v := .int sa) 1 F rfl rfl pz_inX5 3 (by decide) pw_65 rfl dX2_blame_10 ?_
  refine pz_put (ws' := [(h0, .inr (2, [.ref hr, .ref hi, .ref hd, .ref ho, .int w, .int sa])), (hr, .inr (4, [.ref ht, .int en, .int tk, .int sa, .int bh, .int nu]))]) (ci := 2) (C := RX2) (T := TX2) (N := 6) (v := .int sa) (ty := .int) 0 F rfl rfl pz_inX2 5 (by decide) pw_88 tyX2_ok nmX2 rfl rfl rfl rfl (Nat.le_of_ble_eq_true rfl) dX2_blame_13 rfl ?_
  refine pz_iconst (v := 0) F dX2_blame_16 rfl ?_
  exact pz_ireturn (w1 := [(h0, .inr (2, [.ref hr, .ref hi, .ref hd, .ref ho, .int w, .int sa])), (hr, .inr (4, [.ref ht, .int en, .int tk, .int sa, .int bh, .int nu]))]) F Rt (by decide) (by decide) dX2_blame_17 [0, 1] rfl rfl rfl vc
set_option maxHeartbeats 4000000 in
set_option maxRecDepth 100000 in
theorem ctX2_blame (l : Launch) (g : pz_G) (h0 : Nat) (w : Int32) (hr : Nat) (hi : Nat) (hd : Nat) (ho : Nat) (ff : Int32) (fp : Int32) (ht : Nat) (en : Int32) (tk : Int32) (sa : Int32) (bh : Int32) (nu : Int32) : pz_Ct l g yX2_blame cX2_blame 2 (some .boolean) rmX2_blame [.ref h0, .int w] [(h0, .inr (2, [.ref hr, .ref hi, .ref hd, .ref ho, .int ff, .int fp])), (hr, .inr (4, [.ref ht, .int en, .int tk, .int sa, .int bh, .int nu]))] (pz_pi (fun (r : Int32) (u : Unit) => r = 0) (fun (u : Unit) => [(h0, .inr (2, [.ref hr, .ref hi, .ref hd, .ref ho, .int w, .int sa])), (hr, .inr (4, [.ref ht, .int en, .int tk, .int sa, .int bh, .int nu]))])) := by
  refine pz_ofAt (by decide +kernel) (Nat.le_of_ble_eq_true rfl) (fun B F Rt hme => ?_)
  refine sgX2_blame_0 F Rt h0 w hr hi hd ho ff fp ht en tk sa bh nu ?_
  clear F Rt hme
  repeat' (first | apply And.intro | intro _)
  all_goals (try subst_vars)
  all_goals (first | exact ⟨_, (), rfl, rfl, rfl⟩ | exact ⟨_, (), rfl, rfl, by simp only [*, reduceIte, and_self, and_true, true_and, not_false_eq_true]⟩)
abbrev rmX2_isNumberUpTo : Room := { frames := 1, cells := 0, slots := 0, locals := 21 }
set_option maxHeartbeats 4000000 in
set_option maxRecDepth 100000 in
theorem sgX2_isNumberUpTo_0 {B : pz_B} {g : pz_G} {wc : va_W} {Post : Option Value → va_W → Prop} (F : pz_F B cX2_isNumberUpTo 2 (some .boolean) yX2_isNumberUpTo.cls g rmX2_isNumberUpTo) (Rt : pz_Rt B g wc Post rmX2_isNumberUpTo) (h0 : Nat) (w : Int32) (hr : Nat) (hi : Nat) (hd : Nat) (ho : Nat) (ff : Int32) (fp : Int32) (ht : Nat) (en : Int32) (tk : Int32) (sa : Int32) (bh : Int32) (nu : Int32)  (vc : ((tk = 2 → ((nu ≤ w → Post (some (.int 1)) [(h0, .inr (2, [.ref hr, .ref hi, .ref hd, .ref ho, .int ff, .int fp])), (hr, .inr (4, [.ref ht, .int en, .int tk, .int sa, .int bh, .int nu]))]) ∧ (¬ nu ≤ w → ∀ r_3 : Int32, ∀ _ : (r_3 = 0), ((r_3 = 0 → Post (some (.int 0)) [(h0, .inr (2, [.ref hr, .ref hi, .ref hd, .ref ho, .int 2, .int sa])), (hr, .inr (4, [.ref ht, .int en, .int tk, .int sa, .int bh, .int nu]))]) ∧ (¬ r_3 = 0 → Post (some (.int 1)) [(h0, .inr (2, [.ref hr, .ref hi, .ref hd, .ref ho, .int 2, .int sa])), (hr, .inr (4, [.ref ht, .int en, .int tk, .int sa, .int bh, .int nu]))]))))) ∧ (¬ tk = 2 → ∀ r_6 : Int32, ∀ _ : (r_6 = 0), narrow .boolean (.int r_6) = .int r_6 ∧ Post (some (.int r_6)) [(h0, .inr (2, [.ref hr, .ref hi, .ref hd, .ref ho, .int 1, .int sa])), (hr, .inr (4, [.ref ht, .int en, .int tk, .int sa, .int bh, .int nu]))]))) : pz_At B 0 0 0 [(0, .ref h0), (1, .int w)] [] [(h0, .inr (2, [.ref hr, .ref hi, .ref hd, .ref ho, .int ff, .int fp])), (hr, .inr (4, [.ref ht, .int en, .int tk, .int sa, .int bh, .int nu]))] := by
  refine pz_aload_n 0 F rfl dX2_isNumberUpTo_0 rfl ?_
  refine pz_get (ci := 2) (C := RX2) (T := TX2) (N := 6) (v := .ref hr) 0 F rfl rfl pz_inX2 0 (by decide) pw_82 rfl dX2_isNumberUpTo_1 ?_
  refine pz_get (ci := 4) (C := RX5) (T := TX5) (N := 6) (v := .int tk) 1 F rfl rfl pz_inX5 2 (by decide) pw_62 rfl dX2_isNumberUpTo_4 ?_
  refine pz_iconst (v := 2) F dX2_isNumberUpTo_7 rfl ?_
  refine pz_icmp_eq (tgt := 17) F dX2_isNumberUpTo_8 (by decide) (fun q_1 => ?_) (fun q_1 => ?_)
  · replace vc := vc.1 q_1
    refine pz_aload_n 0 F rfl dX2_isNumberUpTo_17 rfl ?_
    refine pz_get (ci := 2) (C := RX2) (T := TX2) (N := 6) (v := .ref hr) 0 F rfl rfl pz_inX2 0 (by decide) pw_82 rfl dX2_isNumberUpTo_18 ?_
    refine pz_get (ci := 4) (C := RX5) (T := TX5) (N := 6) (v := .int nu) 1 F rfl rfl pz_inX5 5 (by decide) pw_68 rfl dX2_isNumberUpTo_21 ?_
    refine pz_iload_n 1 F rfl dX2_isNumberUpTo_24 rfl ?_
    refine pz_icmp_le (tgt := 36) F dX2_isNumberUpTo_25 (by decide) (fun q_2 => ?_) (fun q_2 => ?_)
    · replace vc := vc.1 q_2
      refine pz_iconst (v := 1) F dX2_isNumberUpTo_36 rfl ?_
      refine pz_goto (tgt := 41) F dX2_isNumberUpTo_37 (by decide) ?_
      exact pz_ireturn (w1 := [(h0, .inr (2, [.ref hr, .ref hi, .ref hd, .ref ho, .int ff, .int fp])), (hr, .inr (4, [.ref ht, .int en, .int tk, .int sa, .int bh, .int nu]))]) F Rt (by decide) (by decide) dX2_isNumberUpTo_41 [0, 1] rfl rfl rfl vc
    · replace vc := vc.2 q_2
      refine pz_aload_n 0 F rfl dX2_isNumberUpTo_28 rfl ?_
      refine pz_iconst (v := 2) F dX2_isNumberUpTo_29 rfl ?_
      refine pz_callV (nA := 1) (ci := 2) (C := RX2) (T := TX2) (N := 6) (As := [.int 2]) (rest := []) (wr := []) F (ctX2_blame _ g h0 2 hr hi hd ho ff fp ht en tk sa bh nu) 0 rfl rfl pw_358 pw_360 pv_7 pw_3 pw_361 (by decide +kernel) (by decide) (by decide) rfl rfl (Nat.le_of_ble_eq_true rfl) [0, 1] [] rfl rfl rfl rfl (by decide) dX2_isNumberUpTo_30 (fun r0 w0 hp0 => ?_)
      obtain ⟨r_3, _, rfl, rfl, hq_4⟩ := hp0
      replace vc := vc r_3  hq_4
      refine pz_eq (st' := [.int r_3]) (ws' := [(h0, .inr (2, [.ref hr, .ref hi, .ref hd, .ref ho, .int 2, .int sa])), (hr, .inr (4, [.ref ht, .int en, .int tk, .int sa, .int bh, .int nu]))]) rfl rfl ?_
      refine pz_if_eq (tgt := 40) F dX2_isNumberUpTo_33 (by decide) (fun q_5 => ?_) (fun q_5 => ?_)
      · replace vc := vc.1 q_5
        refine pz_iconst (v := 0) F dX2_isNumberUpTo_40 rfl ?_
        exact pz_ireturn (w1 := [(h0, .inr (2, [.ref hr, .ref hi, .ref hd, .ref ho, .int 2, .int sa])), (hr, .inr (4, [.ref ht, .int en, .int tk, .int sa, .int bh, .int nu]))]) F Rt (by decide) (by decide) dX2_isNumberUpTo_41 [0, 1] rfl rfl rfl vc
      · replace vc := vc.2 q_5
        refine pz_iconst (v := 1) F dX2_isNumberUpTo_36 rfl ?_
        refine pz_goto (tgt := 41) F dX2_isNumberUpTo_37 (by decide) ?_
        exact pz_ireturn (w1 := [(h0, .inr (2, [.ref hr, .ref hi, .ref hd, .ref ho, .int 2, .int sa])), (hr, .inr (4, [.ref ht, .int en, .int tk, .int sa, .int bh, .int nu]))]) F Rt (by decide) (by decide) dX2_isNumberUpTo_41 [0, 1] rfl rfl rfl vc
  · replace vc := vc.2 q_1
    refine pz_aload_n 0 F rfl dX2_isNumberUpTo_11 rfl ?_
    refine pz_iconst (v := 1) F dX2_isNumberUpTo_12 rfl ?_
    refine pz_callV (nA := 1) (ci := 2) (C := RX2) (T := TX2) (N := 6) (As := [.int 1]) (rest := []) (wr := []) F (ctX2_blame _ g h0 1 hr hi hd ho ff fp ht en tk sa bh nu) 0 rfl rfl pw_358 pw_360 pv_7 pw_3 pw_361 (by decide +kernel) (by decide) (by decide) rfl rfl (Nat.le_of_ble_eq_true rfl) [0, 1] [] rfl rfl rfl rfl (by decide) dX2_isNumberUpTo_13 (fun r0 w0 hp0 => ?_)
    obtain ⟨r_6, _, rfl, rfl, hq_7⟩ := hp0
    replace vc := vc r_6  hq_7
    refine pz_eq (st' := [.int r_6]) (ws' := [(h0, .inr (2, [.ref hr, .ref hi, .ref hd, .ref ho, .int 1, .int sa])), (hr, .inr (4, [.ref ht, .int en, .int tk, .int sa, .int bh, .int nu]))]) rfl rfl ?_
    obtain ⟨h_8, vc⟩ := vc
    exact pz_ireturn (w1 := [(h0, .inr (2, [.ref hr, .ref hi, .ref hd, .ref ho, .int 1, .int sa])), (hr, .inr (4, [.ref ht, .int en, .int tk, .int sa, .int bh, .int nu]))]) F Rt (by decide) (by decide) dX2_isNumberUpTo_16 [0, 1] rfl rfl h_8 vc
set_option maxHeartbeats 4000000 in
set_option maxRecDepth 100000 in
theorem ctX2_isNumberUpTo (l : Launch) (g : pz_G) (h0 : Nat) (w : Int32) (hr : Nat) (hi : Nat) (hd : Nat) (ho : Nat) (ff : Int32) (fp : Int32) (ht : Nat) (en : Int32) (tk : Int32) (sa : Int32) (bh : Int32) (nu : Int32) : pz_Ct l g yX2_isNumberUpTo cX2_isNumberUpTo 2 (some .boolean) rmX2_isNumberUpTo [.ref h0, .int w] [(h0, .inr (2, [.ref hr, .ref hi, .ref hd, .ref ho, .int ff, .int fp])), (hr, .inr (4, [.ref ht, .int en, .int tk, .int sa, .int bh, .int nu]))] (pz_pi (fun (r : Int32) (u : Int32 × Int32) => (tk = 2 ∧ nu ≤ w ∧ r = 1 ∧ u.1 = ff ∧ u.2 = fp) ∨ (tk = 2 ∧ ¬ nu ≤ w ∧ r = 0 ∧ u.1 = 2 ∧ u.2 = sa) ∨ (¬ tk = 2 ∧ r = 0 ∧ u.1 = 1 ∧ u.2 = sa)) (fun (u : Int32 × Int32) => [(h0, .inr (2, [.ref hr, .ref hi, .ref hd, .ref ho, .int u.1, .int u.2])), (hr, .inr (4, [.ref ht, .int en, .int tk, .int sa, .int bh, .int nu]))])) := by
  refine pz_ofAt (by decide +kernel) (Nat.le_of_ble_eq_true rfl) (fun B F Rt hme => ?_)
  refine sgX2_isNumberUpTo_0 F Rt h0 w hr hi hd ho ff fp ht en tk sa bh nu ?_
  refine ⟨fun q => ⟨fun q2 => ⟨_, (_, _), rfl, rfl, Or.inl ⟨q, q2, rfl, rfl, rfl⟩⟩, fun q2 => fun r hr => ⟨fun q3 => ⟨_, (_, _), rfl, rfl, Or.inr (Or.inl ⟨q, q2, rfl, rfl, rfl⟩)⟩, fun q3 => absurd hr q3⟩⟩, fun q => fun r hr => ⟨by rw [hr]; rfl, _, (_, _), rfl, rfl, Or.inr (Or.inr ⟨q, hr, rfl, rfl⟩)⟩⟩
abbrev rmX2_keepSaying : Room := { frames := 5, cells := 0, slots := 0, locals := 107 }
set_option maxHeartbeats 4000000 in
set_option maxRecDepth 100000 in
theorem sgX2_keepSaying_0 {B : pz_B} {g : pz_G} {wc : va_W} {Post : Option Value → va_W → Prop} (F : pz_F B cX2_keepSaying 3 (some .boolean) yX2_keepSaying.cls g rmX2_keepSaying) (Rt : pz_Rt B g wc Post rmX2_keepSaying) (li : Nat) (sl : Int32) (h0 : Nat) (hr : Nat) (hi : Nat) (hd : Nat) (ho : Nat) (ff : Int32) (fp : Int32) (ht : Nat) (en : Int32) (tk : Int32) (sa : Int32) (bh : Int32) (nu : Int32) (hb : Nat) (ts : Int32) (byt : Nat → Int32) (dr : Nat → Int32) (j : Nat) (e : Nat)  (vc : (li < 9) ∧ li < 9 ∧ ∀ r_2 : Int32, ∀ _ : (r_2 = if pz_ln (pz_us.getD li 13) = 0 then 0 else 1), ((r_2 = 0 → li < 9 ∧ ∀ r_9 : Int32, ∀ ff2_7 : Int32, ∀ fp2_8 : Int32, ∀ _ : ((tk = 2 ∧ nu ≤ (pz_mo li) ∧ r_9 = 1 ∧ ff2_7 = ff ∧ fp2_8 = fp) ∨ (tk = 2 ∧ ¬ nu ≤ (pz_mo li) ∧ r_9 = 0 ∧ ff2_7 = 2 ∧ fp2_8 = sa) ∨ (¬ tk = 2 ∧ r_9 = 0 ∧ ff2_7 = 1 ∧ fp2_8 = sa)), ((¬ r_9 = 0 → vp_in sl 12 ∧ ∀ f_13 : Nat → Int32, f_13 = upd dr sl.toNatClampNeg nu → Post (some (.int 1)) [(h0, .inr (2, [.ref hr, .ref hi, .ref hd, .ref ho, .int ff2_7, .int fp2_8])), (hr, .inr (4, [.ref ht, .int en, .int tk, .int sa, .int bh, .int nu])), (ht, .inr (6, [.ref hb, .int ts])), (hb, .inl (g.2.1 0, 400, .inl byt)), (hd, .inl (g.2.1 1, 12, .inl f_13))]) ∧ (r_9 = 0 → Post (some (.int 0)) [(h0, .inr (2, [.ref hr, .ref hi, .ref hd, .ref ho, .int ff2_7, .int fp2_8])), (hr, .inr (4, [.ref ht, .int en, .int tk, .int sa, .int bh, .int nu])), (ht, .inr (6, [.ref hb, .int ts])), (hb, .inl (g.2.1 0, 400, .inl byt)), (hd, .inl (g.2.1 1, 12, .inl dr))]))) ∧ (¬ r_2 = 0 → li < 9 ∧ ∃ a_15 : Nat, ∃ b_16 : Nat, ((pz_ot.getD li 13) < 14 ∧ a_15 ≤ b_16 ∧ b_16 ≤ e ∧ e ≤ 400 ∧ sa = nI a_15 ∧ bh = nI b_16 ∧ en = nI e) ∧ ∀ r_18 : Int32, ∀ _ : ((r_18 = 1 ∧ tk = 1 ∧ pu_wd (pu_cs byt e) a_15 b_16 (pz_ot.getD li 13)) ∨ (r_18 = 0 ∧ ¬ (tk = 1 ∧ pu_wd (pu_cs byt e) a_15 b_16 (pz_ot.getD li 13)))), ((r_18 = 0 → vp_in sl 12 ∧ ∀ f_22 : Nat → Int32, f_22 = upd dr sl.toNatClampNeg 0 → vp_in sl 12 ∧ (((f_22 sl.toNatClampNeg) = 1 → Post (some (.int 1)) [(h0, .inr (2, [.ref hr, .ref hi, .ref hd, .ref ho, .int ff, .int fp])), (hr, .inr (4, [.ref ht, .int en, .int tk, .int sa, .int bh, .int nu])), (ht, .inr (6, [.ref hb, .int ts])), (hb, .inl (g.2.1 0, 400, .inl byt)), (hd, .inl (g.2.1 1, 12, .inl f_22))]) ∧ (¬ (f_22 sl.toNatClampNeg) = 1 → li < 9 ∧ ∃ a_26 : Nat, ∃ b_27 : Nat, ((pz_us.getD li 13) < 14 ∧ a_26 ≤ b_27 ∧ b_27 ≤ e ∧ e ≤ 400 ∧ sa = nI a_26 ∧ bh = nI b_27 ∧ en = nI e) ∧ ∀ r_29 : Int32, ∀ _ : ((r_29 = 1 ∧ tk = 1 ∧ pu_wd (pu_cs byt e) a_26 b_27 (pz_us.getD li 13)) ∨ (r_29 = 0 ∧ ¬ (tk = 1 ∧ pu_wd (pu_cs byt e) a_26 b_27 (pz_us.getD li 13)))), ((¬ r_29 = 0 → Post (some (.int 1)) [(h0, .inr (2, [.ref hr, .ref hi, .ref hd, .ref ho, .int ff, .int fp])), (hr, .inr (4, [.ref ht, .int en, .int tk, .int sa, .int bh, .int nu])), (ht, .inr (6, [.ref hb, .int ts])), (hb, .inl (g.2.1 0, 400, .inl byt)), (hd, .inl (g.2.1 1, 12, .inl f_22))]) ∧ (r_29 = 0 → ∀ r_32 : Int32, ∀ _ : (r_32 = 0), ((r_32 = 0 → Post (some (.int 0)) [(h0, .inr (2, [.ref hr, .ref hi, .ref hd, .ref ho, .int 1, .int sa])), (hr, .inr (4, [.ref ht, .int en, .int tk, .int sa, .int bh, .int nu])), (ht, .inr (6, [.ref hb, .int ts])), (hb, .inl (g.2.1 0, 400, .inl byt)), (hd, .inl (g.2.1 1, 12, .inl f_22))]) ∧ (¬ r_32 = 0 → Post (some (.int 1)) [(h0, .inr (2, [.ref hr, .ref hi, .ref hd, .ref ho, .int 1, .int sa])), (hr, .inr (4, [.ref ht, .int en, .int tk, .int sa, .int bh, .int nu])), (ht, .inr (6, [.ref hb, .int ts])), (hb, .inl (g.2.1 0, 400, .inl byt)), (hd, .inl (g.2.1 1, 12, .inl f_22))]))))))) ∧ (¬ r_18 = 0 → vp_in sl 12 ∧ ∀ f_36 : Nat → Int32, f_36 = upd dr sl.toNatClampNeg 1 → vp_in sl 12 ∧ (((f_36 sl.toNatClampNeg) = 1 → Post (some (.int 1)) [(h0, .inr (2, [.ref hr, .ref hi, .ref hd, .ref ho, .int ff, .int fp])), (hr, .inr (4, [.ref ht, .int en, .int tk, .int sa, .int bh, .int nu])), (ht, .inr (6, [.ref hb, .int ts])), (hb, .inl (g.2.1 0, 400, .inl byt)), (hd, .inl (g.2.1 1, 12, .inl f_36))]) ∧ (¬ (f_36 sl.toNatClampNeg) = 1 → li < 9 ∧ ∃ a_40 : Nat, ∃ b_41 : Nat, ((pz_us.getD li 13) < 14 ∧ a_40 ≤ b_41 ∧ b_41 ≤ e ∧ e ≤ 400 ∧ sa = nI a_40 ∧ bh = nI b_41 ∧ en = nI e) ∧ ∀ r_43 : Int32, ∀ _ : ((r_43 = 1 ∧ tk = 1 ∧ pu_wd (pu_cs byt e) a_40 b_41 (pz_us.getD li 13)) ∨ (r_43 = 0 ∧ ¬ (tk = 1 ∧ pu_wd (pu_cs byt e) a_40 b_41 (pz_us.getD li 13)))), ((¬ r_43 = 0 → Post (some (.int 1)) [(h0, .inr (2, [.ref hr, .ref hi, .ref hd, .ref ho, .int ff, .int fp])), (hr, .inr (4, [.ref ht, .int en, .int tk, .int sa, .int bh, .int nu])), (ht, .inr (6, [.ref hb, .int ts])), (hb, .inl (g.2.1 0, 400, .inl byt)), (hd, .inl (g.2.1 1, 12, .inl f_36))]) ∧ (r_43 = 0 → ∀ r_46 : Int32, ∀ _ : (r_46 = 0), ((r_46 = 0 → Post (some (.int 0)) [(h0, .inr (2, [.ref hr, .ref hi, .ref hd, .ref ho, .int 1, .int sa])), (hr, .inr (4, [.ref ht, .int en, .int tk, .int sa, .int bh, .int nu])), (ht, .inr (6, [.ref hb, .int ts])), (hb, .inl (g.2.1 0, 400, .inl byt)), (hd, .inl (g.2.1 1, 12, .inl f_36))]) ∧ (¬ r_46 = 0 → Post (some (.int 1)) [(h0, .inr (2, [.ref hr, .ref hi, .ref hd, .ref ho, .int 1, .int sa])), (hr, .inr (4, [.ref ht, .int en, .int tk, .int sa, .int bh, .int nu])), (ht, .inr (6, [.ref hb, .int ts])), (hb, .inl (g.2.1 0, 400, .inl byt)), (hd, .inl (g.2.1 1, 12, .inl f_36))]))))))))))) : pz_At B 0 0 0 [(0, .ref h0), (1, .ref (g.2.2 li)), (2, .int sl)] [] [(h0, .inr (2, [.ref hr, .ref hi, .ref hd, .ref ho, .int ff, .int fp])), (hr, .inr (4, [.ref ht, .int en, .int tk, .int sa, .int bh, .int nu])), (ht, .inr (6, [.ref hb, .int ts])), (hb, .inl (g.2.1 0, 400, .inl byt)), (hd, .inl (g.2.1 1, 12, .inl dr))] := by
  refine pz_aload_n 1 F rfl dX2_keepSaying_0 rfl ?_
  obtain ⟨h_1, vc⟩ := vc
  obtain ⟨h_3, vc⟩ := vc
  refine pz_callVr (nA := 0) (As := []) (rest := []) (wr := [(h0, .inr (2, [.ref hr, .ref hi, .ref hd, .ref ho, .int ff, .int fp])), (hr, .inr (4, [.ref ht, .int en, .int tk, .int sa, .int bh, .int nu])), (ht, .inr (6, [.ref hb, .int ts])), (hb, .inl (g.2.1 0, 400, .inl byt)), (hd, .inl (g.2.1 1, 12, .inl dr))]) F (ctX3_isChoice _ g li h_1) (pz_lineO F (i := li) h_3) pw_373 pw_374 pw_375 pw_15 pw_376 (by decide +kernel) (by decide) (by decide) rfl rfl (Nat.le_of_ble_eq_true rfl) [] [0, 1, 2, 3, 4] rfl rfl rfl rfl (by decide) dX2_keepSaying_1 (fun r0 w0 hp0 => ?_)
  obtain ⟨r_2, _, rfl, rfl, hq_4⟩ := hp0
  replace vc := vc r_2  hq_4
  refine pz_eq (st' := [.int r_2]) (ws' := [(h0, .inr (2, [.ref hr, .ref hi, .ref hd, .ref ho, .int ff, .int fp])), (hr, .inr (4, [.ref ht, .int en, .int tk, .int sa, .int bh, .int nu])), (ht, .inr (6, [.ref hb, .int ts])), (hb, .inl (g.2.1 0, 400, .inl byt)), (hd, .inl (g.2.1 1, 12, .inl dr))]) rfl rfl ?_
  refine pz_if_eq (tgt := 70) F dX2_keepSaying_4 (by decide) (fun q_5 => ?_) (fun q_5 => ?_)
  · replace vc := vc.1 q_5
    refine pz_aload_n 0 F rfl dX2_keepSaying_70 rfl ?_
    refine pz_aload_n 1 F rfl dX2_keepSaying_71 rfl ?_
    obtain ⟨h_6, vc⟩ := vc
    refine pz_getO F (pz_lineM F (i := li) h_6) pw_1157 dX2_keepSaying_72 ?_
    show pz_At B 0 0 75 [(0, .ref h0), (1, .ref (g.2.2 li)), (2, .int sl)] [.int (pz_mo li), .ref h0] [(h0, .inr (2, [.ref hr, .ref hi, .ref hd, .ref ho, .int ff, .int fp])), (hr, .inr (4, [.ref ht, .int en, .int tk, .int sa, .int bh, .int nu])), (ht, .inr (6, [.ref hb, .int ts])), (hb, .inl (g.2.1 0, 400, .inl byt)), (hd, .inl (g.2.1 1, 12, .inl dr))]
    refine pz_callV (nA := 1) (ci := 2) (C := RX2) (T := TX2) (N := 6) (As := [.int (pz_mo li)]) (rest := []) (wr := [(ht, .inr (6, [.ref hb, .int ts])), (hb, .inl (g.2.1 0, 400, .inl byt)), (hd, .inl (g.2.1 1, 12, .inl dr))]) F (ctX2_isNumberUpTo _ g h0 (pz_mo li) hr hi hd ho ff fp ht en tk sa bh nu) 0 rfl rfl pw_365 pw_367 pv_8 pw_3 pw_368 (by decide +kernel) (by decide) (by decide) rfl rfl (Nat.le_of_ble_eq_true rfl) [0, 1] [2, 3, 4] rfl rfl rfl rfl (by decide) dX2_keepSaying_75 (fun r0 w0 hp0 => ?_)
    obtain ⟨r_9, ⟨ff2_7, fp2_8⟩, rfl, rfl, hq_10⟩ := hp0
    replace vc := vc r_9 ff2_7 fp2_8 hq_10
    refine pz_eq (st' := [.int r_9]) (ws' := [(ht, .inr (6, [.ref hb, .int ts])), (hb, .inl (g.2.1 0, 400, .inl byt)), (hd, .inl (g.2.1 1, 12, .inl dr)), (h0, .inr (2, [.ref hr, .ref hi, .ref hd, .ref ho, .int ff2_7, .int fp2_8])), (hr, .inr (4, [.ref ht, .int en, .int tk, .int sa, .int bh, .int nu]))]) rfl rfl ?_
    refine pz_if_ne (tgt := 83) F dX2_keepSaying_78 (by decide) (fun q_11 => ?_) (fun q_11 => ?_)
    · replace vc := vc.1 q_11
      refine pz_aload_n 0 F rfl dX2_keepSaying_83 rfl ?_
      refine pz_get (ci := 2) (C := RX2) (T := TX2) (N := 6) (v := .ref hd) 3 F rfl rfl pz_inX2 2 (by decide) pw_84 rfl dX2_keepSaying_84 ?_
      refine pz_iload_n 2 F rfl dX2_keepSaying_87 rfl ?_
      refine pz_aload_n 0 F rfl dX2_keepSaying_88 rfl ?_
      refine pz_get (ci := 2) (C := RX2) (T := TX2) (N := 6) (v := .ref hr) 3 F rfl rfl pz_inX2 0 (by decide) pw_82 rfl dX2_keepSaying_89 ?_
      refine pz_get (ci := 4) (C := RX5) (T := TX5) (N := 6) (v := .int nu) 4 F rfl rfl pz_inX5 5 (by decide) pw_68 rfl dX2_keepSaying_92 ?_
      obtain ⟨h_12, vc⟩ := vc
      obtain ⟨f_13, ef_13⟩ : ∃ z : Nat → Int32, z = upd dr sl.toNatClampNeg nu := ⟨_, rfl⟩
      replace vc := vc f_13 ef_13
      refine pz_iastore (ws' := [(ht, .inr (6, [.ref hb, .int ts])), (hb, .inl (g.2.1 0, 400, .inl byt)), (hd, .inl (g.2.1 1, 12, .inl f_13)), (h0, .inr (2, [.ref hr, .ref hi, .ref hd, .ref ho, .int ff2_7, .int fp2_8])), (hr, .inr (4, [.ref ht, .int en, .int tk, .int sa, .int bh, .int nu]))]) F 2 rfl h_12 dX2_keepSaying_95 (by rw [ef_13]; rfl) ?_
      refine pz_iconst (v := 1) F dX2_keepSaying_96 rfl ?_
      exact pz_ireturn (w1 := [(h0, .inr (2, [.ref hr, .ref hi, .ref hd, .ref ho, .int ff2_7, .int fp2_8])), (hr, .inr (4, [.ref ht, .int en, .int tk, .int sa, .int bh, .int nu])), (ht, .inr (6, [.ref hb, .int ts])), (hb, .inl (g.2.1 0, 400, .inl byt)), (hd, .inl (g.2.1 1, 12, .inl f_13))]) F Rt (by decide) (by decide) dX2_keepSaying_97 [3, 4, 0, 1, 2] rfl rfl rfl vc
    · replace vc := vc.2 q_11
      refine pz_iconst (v := 0) F dX2_keepSaying_81 rfl ?_
      exact pz_ireturn (w1 := [(h0, .inr (2, [.ref hr, .ref hi, .ref hd, .ref ho, .int ff2_7, .int fp2_8])), (hr, .inr (4, [.ref ht, .int en, .int tk, .int sa, .int bh, .int nu])), (ht, .inr (6, [.ref hb, .int ts])), (hb, .inl (g.2.1 0, 400, .inl byt)), (hd, .inl (g.2.1 1, 12, .inl dr))]) F Rt (by decide) (by decide) dX2_keepSaying_82 [3, 4, 0, 1, 2] rfl rfl rfl vc
  · replace vc := vc.2 q_5
    refine pz_aload_n 0 F rfl dX2_keepSaying_7 rfl ?_
    refine pz_get (ci := 2) (C := RX2) (T := TX2) (N := 6) (v := .ref hd) 0 F rfl rfl pz_inX2 2 (by decide) pw_84 rfl dX2_keepSaying_8 ?_
    refine pz_iload_n 2 F rfl dX2_keepSaying_11 rfl ?_
    refine pz_aload_n 0 F rfl dX2_keepSaying_12 rfl ?_
    refine pz_get (ci := 2) (C := RX2) (T := TX2) (N := 6) (v := .ref hr) 0 F rfl rfl pz_inX2 0 (by decide) pw_82 rfl dX2_keepSaying_13 ?_
    refine pz_aload_n 1 F rfl dX2_keepSaying_16 rfl ?_
    obtain ⟨h_14, vc⟩ := vc
    refine pz_getX (i := li) F (pz_lineT F) h_14 pw_1155 dX2_keepSaying_17 ?_
    show pz_At B 0 0 20 [(0, .ref h0), (1, .ref (g.2.2 li)), (2, .int sl)] [.ref (g.2.2 (30 + (pz_ot.getD li 13))), .ref hr, .int sl, .ref hd] [(h0, .inr (2, [.ref hr, .ref hi, .ref hd, .ref ho, .int ff, .int fp])), (hr, .inr (4, [.ref ht, .int en, .int tk, .int sa, .int bh, .int nu])), (ht, .inr (6, [.ref hb, .int ts])), (hb, .inl (g.2.1 0, 400, .inl byt)), (hd, .inl (g.2.1 1, 12, .inl dr))]
    obtain ⟨a_15, vc⟩ := vc
    obtain ⟨b_16, vc⟩ := vc
    obtain ⟨h_17, vc⟩ := vc
    refine pz_callV (nA := 1) (ci := 4) (C := RX5) (T := TX5) (N := 6) (As := [.ref (g.2.2 (30 + (pz_ot.getD li 13)))]) (rest := [.int sl, .ref hd]) (wr := [(h0, .inr (2, [.ref hr, .ref hi, .ref hd, .ref ho, .int ff, .int fp])), (hd, .inl (g.2.1 1, 12, .inl dr))]) F (ctX5_stands _ g (pz_ot.getD li 13) hr ht en tk sa bh nu hb ts byt a_15 b_16 e h_17) 1 rfl rfl pw_306 pw_307 pw_308 pw_4 pw_309 (by decide +kernel) (by decide) (by decide) rfl rfl (Nat.le_of_ble_eq_true rfl) [1, 2, 3] [0, 4] rfl rfl rfl rfl (by decide) dX2_keepSaying_20 (fun r0 w0 hp0 => ?_)
    obtain ⟨r_18, _, rfl, rfl, hq_19⟩ := hp0
    replace vc := vc r_18  hq_19
    refine pz_eq (st' := [.int r_18, .int sl, .ref hd]) (ws' := [(h0, .inr (2, [.ref hr, .ref hi, .ref hd, .ref ho, .int ff, .int fp])), (hd, .inl (g.2.1 1, 12, .inl dr)), (hr, .inr (4, [.ref ht, .int en, .int tk, .int sa, .int bh, .int nu])), (ht, .inr (6, [.ref hb, .int ts])), (hb, .inl (g.2.1 0, 400, .inl byt))]) rfl rfl ?_
    refine pz_if_eq (tgt := 30) F dX2_keepSaying_23 (by decide) (fun q_20 => ?_) (fun q_20 => ?_)
    · replace vc := vc.1 q_20
      refine pz_iconst (v := 0) F dX2_keepSaying_30 rfl ?_
      obtain ⟨h_21, vc⟩ := vc
      obtain ⟨f_22, ef_22⟩ : ∃ z : Nat → Int32, z = upd dr sl.toNatClampNeg 0 := ⟨_, rfl⟩
      replace vc := vc f_22 ef_22
      refine pz_iastore (ws' := [(h0, .inr (2, [.ref hr, .ref hi, .ref hd, .ref ho, .int ff, .int fp])), (hd, .inl (g.2.1 1, 12, .inl f_22)), (hr, .inr (4, [.ref ht, .int en, .int tk, .int sa, .int bh, .int nu])), (ht, .inr (6, [.ref hb, .int ts])), (hb, .inl (g.2.1 0, 400, .inl byt))]) F 1 rfl h_21 dX2_keepSaying_31 (by rw [ef_22]; rfl) ?_
      refine pz_aload_n 0 F rfl dX2_keepSaying_32 rfl ?_
      refine pz_get (ci := 2) (C := RX2) (T := TX2) (N := 6) (v := .ref hd) 0 F rfl rfl pz_inX2 2 (by decide) pw_84 rfl dX2_keepSaying_33 ?_
      refine pz_iload_n 2 F rfl dX2_keepSaying_36 rfl ?_
      obtain ⟨h_23, vc⟩ := vc
      refine pz_iaload 1 F rfl h_23 dX2_keepSaying_37 ?_
      refine pz_iconst (v := 1) F dX2_keepSaying_38 rfl ?_
      refine pz_icmp_eq (tgt := 64) F dX2_keepSaying_39 (by decide) (fun q_24 => ?_) (fun q_24 => ?_)
      · replace vc := vc.1 q_24
        refine pz_iconst (v := 1) F dX2_keepSaying_64 rfl ?_
        refine pz_goto (tgt := 69) F dX2_keepSaying_65 (by decide) ?_
        exact pz_ireturn (w1 := [(h0, .inr (2, [.ref hr, .ref hi, .ref hd, .ref ho, .int ff, .int fp])), (hr, .inr (4, [.ref ht, .int en, .int tk, .int sa, .int bh, .int nu])), (ht, .inr (6, [.ref hb, .int ts])), (hb, .inl (g.2.1 0, 400, .inl byt)), (hd, .inl (g.2.1 1, 12, .inl f_22))]) F Rt (by decide) (by decide) dX2_keepSaying_69 [0, 2, 3, 4, 1] rfl rfl rfl vc
      · replace vc := vc.2 q_24
        refine pz_aload_n 0 F rfl dX2_keepSaying_42 rfl ?_
        refine pz_get (ci := 2) (C := RX2) (T := TX2) (N := 6) (v := .ref hr) 0 F rfl rfl pz_inX2 0 (by decide) pw_82 rfl dX2_keepSaying_43 ?_
        refine pz_aload_n 1 F rfl dX2_keepSaying_46 rfl ?_
        obtain ⟨h_25, vc⟩ := vc
        refine pz_getX (i := li) F (pz_lineU F) h_25 pw_1156 dX2_keepSaying_47 ?_
        show pz_At B 0 0 50 [(0, .ref h0), (1, .ref (g.2.2 li)), (2, .int sl)] [.ref (g.2.2 (30 + (pz_us.getD li 13))), .ref hr] [(h0, .inr (2, [.ref hr, .ref hi, .ref hd, .ref ho, .int ff, .int fp])), (hd, .inl (g.2.1 1, 12, .inl f_22)), (hr, .inr (4, [.ref ht, .int en, .int tk, .int sa, .int bh, .int nu])), (ht, .inr (6, [.ref hb, .int ts])), (hb, .inl (g.2.1 0, 400, .inl byt))]
        obtain ⟨a_26, vc⟩ := vc
        obtain ⟨b_27, vc⟩ := vc
        obtain ⟨h_28, vc⟩ := vc
        refine pz_callV (nA := 1) (ci := 4) (C := RX5) (T := TX5) (N := 6) (As := [.ref (g.2.2 (30 + (pz_us.getD li 13)))]) (rest := []) (wr := [(h0, .inr (2, [.ref hr, .ref hi, .ref hd, .ref ho, .int ff, .int fp])), (hd, .inl (g.2.1 1, 12, .inl f_22))]) F (ctX5_stands _ g (pz_us.getD li 13) hr ht en tk sa bh nu hb ts byt a_26 b_27 e h_28) 2 rfl rfl pw_306 pw_307 pw_308 pw_4 pw_309 (by decide +kernel) (by decide) (by decide) rfl rfl (Nat.le_of_ble_eq_true rfl) [2, 3, 4] [0, 1] rfl rfl rfl rfl (by decide) dX2_keepSaying_50 (fun r0 w0 hp0 => ?_)
        obtain ⟨r_29, _, rfl, rfl, hq_30⟩ := hp0
        replace vc := vc r_29  hq_30
        refine pz_eq (st' := [.int r_29]) (ws' := [(h0, .inr (2, [.ref hr, .ref hi, .ref hd, .ref ho, .int ff, .int fp])), (hd, .inl (g.2.1 1, 12, .inl f_22)), (hr, .inr (4, [.ref ht, .int en, .int tk, .int sa, .int bh, .int nu])), (ht, .inr (6, [.ref hb, .int ts])), (hb, .inl (g.2.1 0, 400, .inl byt))]) rfl rfl ?_
        refine pz_if_ne (tgt := 64) F dX2_keepSaying_53 (by decide) (fun q_31 => ?_) (fun q_31 => ?_)
        · replace vc := vc.1 q_31
          refine pz_iconst (v := 1) F dX2_keepSaying_64 rfl ?_
          refine pz_goto (tgt := 69) F dX2_keepSaying_65 (by decide) ?_
          exact pz_ireturn (w1 := [(h0, .inr (2, [.ref hr, .ref hi, .ref hd, .ref ho, .int ff, .int fp])), (hr, .inr (4, [.ref ht, .int en, .int tk, .int sa, .int bh, .int nu])), (ht, .inr (6, [.ref hb, .int ts])), (hb, .inl (g.2.1 0, 400, .inl byt)), (hd, .inl (g.2.1 1, 12, .inl f_22))]) F Rt (by decide) (by decide) dX2_keepSaying_69 [0, 2, 3, 4, 1] rfl rfl rfl vc
        · replace vc := vc.2 q_31
          refine pz_aload_n 0 F rfl dX2_keepSaying_56 rfl ?_
          refine pz_iconst (v := 1) F dX2_keepSaying_57 rfl ?_
          refine pz_callV (nA := 1) (ci := 2) (C := RX2) (T := TX2) (N := 6) (As := [.int 1]) (rest := []) (wr := [(hd, .inl (g.2.1 1, 12, .inl f_22)), (ht, .inr (6, [.ref hb, .int ts])), (hb, .inl (g.2.1 0, 400, .inl byt))]) F (ctX2_blame _ g h0 1 hr hi hd ho ff fp ht en tk sa bh nu) 0 rfl rfl pw_358 pw_360 pv_7 pw_3 pw_361 (by decide +kernel) (by decide) (by decide) rfl rfl (Nat.le_of_ble_eq_true rfl) [0, 2] [1, 3, 4] rfl rfl rfl rfl (by decide) dX2_keepSaying_58 (fun r0 w0 hp0 => ?_)
          obtain ⟨r_32, _, rfl, rfl, hq_33⟩ := hp0
          replace vc := vc r_32  hq_33
          refine pz_eq (st' := [.int r_32]) (ws' := [(hd, .inl (g.2.1 1, 12, .inl f_22)), (ht, .inr (6, [.ref hb, .int ts])), (hb, .inl (g.2.1 0, 400, .inl byt)), (h0, .inr (2, [.ref hr, .ref hi, .ref hd, .ref ho, .int 1, .int sa])), (hr, .inr (4, [.ref ht, .int en, .int tk, .int sa, .int bh, .int nu]))]) rfl rfl ?_
          refine pz_if_eq (tgt := 68) F dX2_keepSaying_61 (by decide) (fun q_34 => ?_) (fun q_34 => ?_)
          · replace vc := vc.1 q_34
            refine pz_iconst (v := 0) F dX2_keepSaying_68 rfl ?_
            exact pz_ireturn (w1 := [(h0, .inr (2, [.ref hr, .ref hi, .ref hd, .ref ho, .int 1, .int sa])), (hr, .inr (4, [.ref ht, .int en, .int tk, .int sa, .int bh, .int nu])), (ht, .inr (6, [.ref hb, .int ts])), (hb, .inl (g.2.1 0, 400, .inl byt)), (hd, .inl (g.2.1 1, 12, .inl f_22))]) F Rt (by decide) (by decide) dX2_keepSaying_69 [3, 4, 1, 2, 0] rfl rfl rfl vc
          · replace vc := vc.2 q_34
            refine pz_iconst (v := 1) F dX2_keepSaying_64 rfl ?_
            refine pz_goto (tgt := 69) F dX2_keepSaying_65 (by decide) ?_
            exact pz_ireturn (w1 := [(h0, .inr (2, [.ref hr, .ref hi, .ref hd, .ref ho, .int 1, .int sa])), (hr, .inr (4, [.ref ht, .int en, .int tk, .int sa, .int bh, .int nu])), (ht, .inr (6, [.ref hb, .int ts])), (hb, .inl (g.2.1 0, 400, .inl byt)), (hd, .inl (g.2.1 1, 12, .inl f_22))]) F Rt (by decide) (by decide) dX2_keepSaying_69 [3, 4, 1, 2, 0] rfl rfl rfl vc
    · replace vc := vc.2 q_20
      refine pz_iconst (v := 1) F dX2_keepSaying_26 rfl ?_
      refine pz_goto (tgt := 31) F dX2_keepSaying_27 (by decide) ?_
      obtain ⟨h_35, vc⟩ := vc
      obtain ⟨f_36, ef_36⟩ : ∃ z : Nat → Int32, z = upd dr sl.toNatClampNeg 1 := ⟨_, rfl⟩
      replace vc := vc f_36 ef_36
      refine pz_iastore (ws' := [(h0, .inr (2, [.ref hr, .ref hi, .ref hd, .ref ho, .int ff, .int fp])), (hd, .inl (g.2.1 1, 12, .inl f_36)), (hr, .inr (4, [.ref ht, .int en, .int tk, .int sa, .int bh, .int nu])), (ht, .inr (6, [.ref hb, .int ts])), (hb, .inl (g.2.1 0, 400, .inl byt))]) F 1 rfl h_35 dX2_keepSaying_31 (by rw [ef_36]; rfl) ?_
      refine pz_aload_n 0 F rfl dX2_keepSaying_32 rfl ?_
      refine pz_get (ci := 2) (C := RX2) (T := TX2) (N := 6) (v := .ref hd) 0 F rfl rfl pz_inX2 2 (by decide) pw_84 rfl dX2_keepSaying_33 ?_
      refine pz_iload_n 2 F rfl dX2_keepSaying_36 rfl ?_
      obtain ⟨h_37, vc⟩ := vc
      refine pz_iaload 1 F rfl h_37 dX2_keepSaying_37 ?_
      refine pz_iconst (v := 1) F dX2_keepSaying_38 rfl ?_
      refine pz_icmp_eq (tgt := 64) F dX2_keepSaying_39 (by decide) (fun q_38 => ?_) (fun q_38 => ?_)
      · replace vc := vc.1 q_38
        refine pz_iconst (v := 1) F dX2_keepSaying_64 rfl ?_
        refine pz_goto (tgt := 69) F dX2_keepSaying_65 (by decide) ?_
        exact pz_ireturn (w1 := [(h0, .inr (2, [.ref hr, .ref hi, .ref hd, .ref ho, .int ff, .int fp])), (hr, .inr (4, [.ref ht, .int en, .int tk, .int sa, .int bh, .int nu])), (ht, .inr (6, [.ref hb, .int ts])), (hb, .inl (g.2.1 0, 400, .inl byt)), (hd, .inl (g.2.1 1, 12, .inl f_36))]) F Rt (by decide) (by decide) dX2_keepSaying_69 [0, 2, 3, 4, 1] rfl rfl rfl vc
      · replace vc := vc.2 q_38
        refine pz_aload_n 0 F rfl dX2_keepSaying_42 rfl ?_
        refine pz_get (ci := 2) (C := RX2) (T := TX2) (N := 6) (v := .ref hr) 0 F rfl rfl pz_inX2 0 (by decide) pw_82 rfl dX2_keepSaying_43 ?_
        refine pz_aload_n 1 F rfl dX2_keepSaying_46 rfl ?_
        obtain ⟨h_39, vc⟩ := vc
        refine pz_getX (i := li) F (pz_lineU F) h_39 pw_1156 dX2_keepSaying_47 ?_
        show pz_At B 0 0 50 [(0, .ref h0), (1, .ref (g.2.2 li)), (2, .int sl)] [.ref (g.2.2 (30 + (pz_us.getD li 13))), .ref hr] [(h0, .inr (2, [.ref hr, .ref hi, .ref hd, .ref ho, .int ff, .int fp])), (hd, .inl (g.2.1 1, 12, .inl f_36)), (hr, .inr (4, [.ref ht, .int en, .int tk, .int sa, .int bh, .int nu])), (ht, .inr (6, [.ref hb, .int ts])), (hb, .inl (g.2.1 0, 400, .inl byt))]
        obtain ⟨a_40, vc⟩ := vc
        obtain ⟨b_41, vc⟩ := vc
        obtain ⟨h_42, vc⟩ := vc
        refine pz_callV (nA := 1) (ci := 4) (C := RX5) (T := TX5) (N := 6) (As := [.ref (g.2.2 (30 + (pz_us.getD li 13)))]) (rest := []) (wr := [(h0, .inr (2, [.ref hr, .ref hi, .ref hd, .ref ho, .int ff, .int fp])), (hd, .inl (g.2.1 1, 12, .inl f_36))]) F (ctX5_stands _ g (pz_us.getD li 13) hr ht en tk sa bh nu hb ts byt a_40 b_41 e h_42) 2 rfl rfl pw_306 pw_307 pw_308 pw_4 pw_309 (by decide +kernel) (by decide) (by decide) rfl rfl (Nat.le_of_ble_eq_true rfl) [2, 3, 4] [0, 1] rfl rfl rfl rfl (by decide) dX2_keepSaying_50 (fun r0 w0 hp0 => ?_)
        obtain ⟨r_43, _, rfl, rfl, hq_44⟩ := hp0
        replace vc := vc r_43  hq_44
        refine pz_eq (st' := [.int r_43]) (ws' := [(h0, .inr (2, [.ref hr, .ref hi, .ref hd, .ref ho, .int ff, .int fp])), (hd, .inl (g.2.1 1, 12, .inl f_36)), (hr, .inr (4, [.ref ht, .int en, .int tk, .int sa, .int bh, .int nu])), (ht, .inr (6, [.ref hb, .int ts])), (hb, .inl (g.2.1 0, 400, .inl byt))]) rfl rfl ?_
        refine pz_if_ne (tgt := 64) F dX2_keepSaying_53 (by decide) (fun q_45 => ?_) (fun q_45 => ?_)
        · replace vc := vc.1 q_45
          refine pz_iconst (v := 1) F dX2_keepSaying_64 rfl ?_
          refine pz_goto (tgt := 69) F dX2_keepSaying_65 (by decide) ?_
          exact pz_ireturn (w1 := [(h0, .inr (2, [.ref hr, .ref hi, .ref hd, .ref ho, .int ff, .int fp])), (hr, .inr (4, [.ref ht, .int en, .int tk, .int sa, .int bh, .int nu])), (ht, .inr (6, [.ref hb, .int ts])), (hb, .inl (g.2.1 0, 400, .inl byt)), (hd, .inl (g.2.1 1, 12, .inl f_36))]) F Rt (by decide) (by decide) dX2_keepSaying_69 [0, 2, 3, 4, 1] rfl rfl rfl vc
        · replace vc := vc.2 q_45
          refine pz_aload_n 0 F rfl dX2_keepSaying_56 rfl ?_
          refine pz_iconst (v := 1) F dX2_keepSaying_57 rfl ?_
          refine pz_callV (nA := 1) (ci := 2) (C := RX2) (T := TX2) (N := 6) (As := [.int 1]) (rest := []) (wr := [(hd, .inl (g.2.1 1, 12, .inl f_36)), (ht, .inr (6, [.ref hb, .int ts])), (hb, .inl (g.2.1 0, 400, .inl byt))]) F (ctX2_blame _ g h0 1 hr hi hd ho ff fp ht en tk sa bh nu) 0 rfl rfl pw_358 pw_360 pv_7 pw_3 pw_361 (by decide +kernel) (by decide) (by decide) rfl rfl (Nat.le_of_ble_eq_true rfl) [0, 2] [1, 3, 4] rfl rfl rfl rfl (by decide) dX2_keepSaying_58 (fun r0 w0 hp0 => ?_)
          obtain ⟨r_46, _, rfl, rfl, hq_47⟩ := hp0
          replace vc := vc r_46  hq_47
          refine pz_eq (st' := [.int r_46]) (ws' := [(hd, .inl (g.2.1 1, 12, .inl f_36)), (ht, .inr (6, [.ref hb, .int ts])), (hb, .inl (g.2.1 0, 400, .inl byt)), (h0, .inr (2, [.ref hr, .ref hi, .ref hd, .ref ho, .int 1, .int sa])), (hr, .inr (4, [.ref ht, .int en, .int tk, .int sa, .int bh, .int nu]))]) rfl rfl ?_
          refine pz_if_eq (tgt := 68) F dX2_keepSaying_61 (by decide) (fun q_48 => ?_) (fun q_48 => ?_)
          · replace vc := vc.1 q_48
            refine pz_iconst (v := 0) F dX2_keepSaying_68 rfl ?_
            exact pz_ireturn (w1 := [(h0, .inr (2, [.ref hr, .ref hi, .ref hd, .ref ho, .int 1, .int sa])), (hr, .inr (4, [.ref ht, .int en, .int tk, .int sa, .int bh, .int nu])), (ht, .inr (6, [.ref hb, .int ts])), (hb, .inl (g.2.1 0, 400, .inl byt)), (hd, .inl (g.2.1 1, 12, .inl f_36))]) F Rt (by decide) (by decide) dX2_keepSaying_69 [3, 4, 1, 2, 0] rfl rfl rfl vc
          · replace vc := vc.2 q_48
            refine pz_iconst (v := 1) F dX2_keepSaying_64 rfl ?_
            refine pz_goto (tgt := 69) F dX2_keepSaying_65 (by decide) ?_
            exact pz_ireturn (w1 := [(h0, .inr (2, [.ref hr, .ref hi, .ref hd, .ref ho, .int 1, .int sa])), (hr, .inr (4, [.ref ht, .int en, .int tk, .int sa, .int bh, .int nu])), (ht, .inr (6, [.ref hb, .int ts])), (hb, .inl (g.2.1 0, 400, .inl byt)), (hd, .inl (g.2.1 1, 12, .inl f_36))]) F Rt (by decide) (by decide) dX2_keepSaying_69 [3, 4, 1, 2, 0] rfl rfl rfl vc
set_option maxHeartbeats 4000000 in
set_option maxRecDepth 100000 in
theorem ctX2_keepSaying (l : Launch) (g : pz_G) (li : Nat) (sl : Int32) (h0 : Nat) (hr : Nat) (hi : Nat) (hd : Nat) (ho : Nat) (ff : Int32) (fp : Int32) (ht : Nat) (en : Int32) (tk : Int32) (sa : Int32) (bh : Int32) (nu : Int32) (hb : Nat) (ts : Int32) (byt : Nat → Int32) (dr : Nat → Int32) (j : Nat) (e : Nat) (hpre : li < 9 ∧ vp_in sl 12 ∧ j ≤ e ∧ e ≤ 400 ∧ tk = tk_k (pu_cs byt e) e j ∧ (tk = 2 → nu = tk_n (pu_cs byt e) e j) ∧ sa = nI (tk_s (pu_cs byt e) e j) ∧ bh = nI (tk_e (pu_cs byt e) e j) ∧ en = nI e) : pz_Ct l g yX2_keepSaying cX2_keepSaying 3 (some .boolean) rmX2_keepSaying [.ref h0, .ref (g.2.2 li), .int sl] [(h0, .inr (2, [.ref hr, .ref hi, .ref hd, .ref ho, .int ff, .int fp])), (hr, .inr (4, [.ref ht, .int en, .int tk, .int sa, .int bh, .int nu])), (ht, .inr (6, [.ref hb, .int ts])), (hb, .inl (g.2.1 0, 400, .inl byt)), (hd, .inl (g.2.1 1, 12, .inl dr))] (pz_pi (fun (r : Int32) (u : (Nat → Int32) × Int32 × Int32) => (r = 1 ∧ (pl_say (pu_cs byt e) e j li).1 = 0 ∧ u.1 = upd dr sl.toNatClampNeg (pl_say (pu_cs byt e) e j li).2 ∧ u.2.1 = ff ∧ u.2.2 = fp) ∨ (r = 0 ∧ ¬ (pl_say (pu_cs byt e) e j li).1 = 0 ∧ u.2.1 = (pl_say (pu_cs byt e) e j li).1 ∧ u.2.2 = sa)) (fun (u : (Nat → Int32) × Int32 × Int32) => [(h0, .inr (2, [.ref hr, .ref hi, .ref hd, .ref ho, .int u.2.1, .int u.2.2])), (hr, .inr (4, [.ref ht, .int en, .int tk, .int sa, .int bh, .int nu])), (ht, .inr (6, [.ref hb, .int ts])), (hb, .inl (g.2.1 0, 400, .inl byt)), (hd, .inl (g.2.1 1, 12, .inl u.1))])) := by
  refine pz_ofAt (by decide +kernel) (Nat.le_of_ble_eq_true rfl) (fun B F Rt hme => ?_)
  obtain ⟨hl, hin, hj, he, h1, hnu, h3, h4, h5⟩ := hpre
  subst h3; subst h4; subst h5
  have hus := pz_us14 hl
  have hot := pz_ot14 hl
  have hs1 := tk_s_in (c := pu_cs byt e) hj
  have hs2 := tk_e_in (c := pu_cs byt e) hj
  have hni : ∀ w : Nat, (fun f : Nat → Int32 => f) (upd dr sl.toNatClampNeg (nI w)) sl.toNatClampNeg = nI w := fun w => pk_us
  refine sgX2_keepSaying_0 F Rt li sl h0 hr hi hd ho ff fp ht (nI e) tk (nI (tk_s (pu_cs byt e) e j)) (nI (tk_e (pu_cs byt e) e j)) nu hb ts byt dr j e ?_
  refine ⟨hl, hl, fun r hr => ⟨fun q => ?_, fun q => ?_⟩⟩
  · have hz : pz_ln (pz_us.getD li 13) = 0 := by
      by_cases h : pz_ln (pz_us.getD li 13) = 0
      · exact h
      · rw [if_neg h] at hr; rw [hr] at q; exact absurd q (by decide)
    have ey : pl_say (pu_cs byt e) e j li = if tk_k (pu_cs byt e) e j = 2 then (if tk_n (pu_cs byt e) e j ≤ pz_mo li then (0, tk_n (pu_cs byt e) e j) else (2, 0)) else (1, 0) := by
      unfold pl_say
      rw [if_pos hz]
    refine ⟨hl, fun r2 ff2 fp2 hq => ⟨fun q2 => ⟨hin, ?_⟩, fun q2 => ?_⟩⟩
    · rintro f rfl
      rcases hq with ⟨a1, a2, a3, a4, a5⟩ | ⟨a1, a2, a3, a4, a5⟩ | ⟨a1, a3, a4, a5⟩
      · refine ⟨_, (_, _, _), rfl, rfl, Or.inl ?_⟩
        rw [ey, if_pos (by rw [← h1]; exact a1), if_pos (by rw [← hnu a1]; exact a2)]
        exact ⟨rfl, rfl, by rw [← hnu a1]; rfl, a4, a5⟩
      · exact absurd a3 q2
      · exact absurd a3 q2
    · rcases hq with ⟨a1, a2, a3, a4, a5⟩ | ⟨a1, a2, a3, a4, a5⟩ | ⟨a1, a3, a4, a5⟩
      · rw [q2] at a3; exact absurd a3 (by decide)
      · refine ⟨_, (_, _, _), rfl, rfl, Or.inr ?_⟩
        rw [ey, if_pos (by rw [← h1]; exact a1), if_neg (by rw [← hnu a1]; exact a2)]
        exact ⟨rfl, by decide, a4, a5⟩
      · refine ⟨_, (_, _, _), rfl, rfl, Or.inr ?_⟩
        rw [ey, if_neg (by rw [← h1]; exact a1)]
        exact ⟨rfl, by decide, a4, a5⟩
  · have hz : ¬ pz_ln (pz_us.getD li 13) = 0 := by
      intro h
      rw [if_pos h] at hr
      exact q hr
    have ey : pl_say (pu_cs byt e) e j li = if tk_w (pu_cs byt e) e j (pz_ot.getD li 13) = true then (0, 1) else if tk_w (pu_cs byt e) e j (pz_us.getD li 13) = true then (0, 0) else (1, 0) := by
      unfold pl_say
      rw [if_neg hz]
    rw [h1]
    refine ⟨hl, _, _, ⟨hot, hs2.1, hs2.2, he, rfl, rfl, rfl⟩, fun r2 hr2 => ⟨fun q2 => ⟨hin, ?_⟩, fun q2 => ⟨hin, ?_⟩⟩⟩
    · have hno : tk_w (pu_cs byt e) e j (pz_ot.getD li 13) = false := by
        rcases hr2 with ⟨a1, a2⟩ | ⟨a1, a2⟩
        · rw [q2] at a1; exact absurd a1 (by decide)
        · exact tk_w_no a2
      rw [if_neg (by rw [hno]; decide)] at ey
      rintro f rfl
      rw [pk_us]
      refine ⟨hin, fun q3 => absurd q3 (by decide), fun _ => ⟨hl, _, _, ⟨hus, hs2.1, hs2.2, he, rfl, rfl, rfl⟩, fun r3 hr3 => ⟨fun q3 => ?_, fun q3 => ?_⟩⟩⟩
      · have hyes : tk_w (pu_cs byt e) e j (pz_us.getD li 13) = true := by
          rcases hr3 with ⟨a1, a2⟩ | ⟨a1, a2⟩
          · exact tk_w_of a2
          · exact absurd a1 q3
        rw [if_pos hyes] at ey
        refine ⟨_, (_, _, _), rfl, rfl, Or.inl ?_⟩
        rw [ey]
        exact ⟨rfl, rfl, rfl, rfl, rfl⟩
      · have hno2 : tk_w (pu_cs byt e) e j (pz_us.getD li 13) = false := by
          rcases hr3 with ⟨a1, a2⟩ | ⟨a1, a2⟩
          · rw [q3] at a1; exact absurd a1 (by decide)
          · exact tk_w_no a2
        rw [if_neg (by rw [hno2]; decide)] at ey
        refine fun r4 hr4 => ⟨fun q4 => ?_, fun q4 => absurd hr4 q4⟩
        refine ⟨_, (_, _, _), rfl, rfl, Or.inr ?_⟩
        rw [ey]
        exact ⟨rfl, by decide, rfl, rfl⟩
    · have hyes : tk_w (pu_cs byt e) e j (pz_ot.getD li 13) = true := by
        rcases hr2 with ⟨a1, a2⟩ | ⟨a1, a2⟩
        · exact tk_w_of a2
        · exact absurd a1 q2
      rw [if_pos hyes] at ey
      rintro f rfl
      rw [pk_us]
      refine ⟨hin, fun _ => ?_, fun q3 => absurd rfl q3⟩
      refine ⟨_, (_, _, _), rfl, rfl, Or.inl ?_⟩
      rw [ey]
      exact ⟨rfl, rfl, rfl, rfl, rfl⟩
abbrev rmX2_startDraft : Room := { frames := 0, cells := 0, slots := 0, locals := 0 }
abbrev paX2_startDraft_12 (B : pz_B) (g : pz_G) (h0 : Nat) (hr : Nat) (hi : Nat) (hd : Nat) (ho : Nat) (ff : Int32) (fp : Int32) (dr : Nat → Int32) (to : Nat → Int32) (i : Int32) (d1 : Nat → Int32) (t1 : Nat → Int32) : Prop := pz_At B 0 0 12 [(0, .ref h0), (1, .int i)] [] [(h0, .inr (2, [.ref hr, .ref hi, .ref hd, .ref ho, .int 0, .int (-1)])), (hd, .inl (g.2.1 1, 12, .inl d1)), (ho, .inl (g.2.1 3, 12, .inl t1))]
set_option maxHeartbeats 4000000 in
set_option maxRecDepth 100000 in
theorem sgX2_startDraft_0 {B : pz_B} {g : pz_G} {wc : va_W} {Post : Option Value → va_W → Prop} (F : pz_F B cX2_startDraft 2 none yX2_startDraft.cls g rmX2_startDraft) (Rt : pz_Rt B g wc Post rmX2_startDraft) (h0 : Nat) (hr : Nat) (hi : Nat) (hd : Nat) (ho : Nat) (ff : Int32) (fp : Int32) (dr : Nat → Int32) (to : Nat → Int32) (T12 : Int32 → (Nat → Int32) → (Nat → Int32) → Prop) (hT12 : ∀ (i : Int32) (d1 : Nat → Int32) (t1 : Nat → Int32), T12 i d1 t1 → paX2_startDraft_12 B g h0 hr hi hd ho ff fp dr to i d1 t1)  (vc : T12 0 dr to) : pz_At B 0 0 0 [(0, .ref h0)] [] [(h0, .inr (2, [.ref hr, .ref hi, .ref hd, .ref ho, .int ff, .int fp])), (hd, .inl (g.2.1 1, 12, .inl dr)), (ho, .inl (g.2.1 3, 12, .inl to))] := by
  refine pz_aload_n 0 F rfl dX2_startDraft_0 rfl ?_
  refine pz_iconst (v := 0) F dX2_startDraft_1 rfl ?_
  refine pz_put (ws' := [(h0, .inr (2, [.ref hr, .ref hi, .ref hd, .ref ho, .int 0, .int fp])), (hd, .inl (g.2.1 1, 12, .inl dr)), (ho, .inl (g.2.1 3, 12, .inl to))]) (ci := 2) (C := RX2) (T := TX2) (N := 6) (v := .int 0) (ty := .int) 0 F rfl rfl pz_inX2 4 (by decide) pw_87 tyX2_ok nmX2 rfl rfl rfl rfl (Nat.le_of_ble_eq_true rfl) dX2_startDraft_2 rfl ?_
  refine pz_aload_n 0 F rfl dX2_startDraft_5 rfl ?_
  refine pz_iconst (v := (-1)) F dX2_startDraft_6 rfl ?_
  refine pz_put (ws' := [(h0, .inr (2, [.ref hr, .ref hi, .ref hd, .ref ho, .int 0, .int (-1)])), (hd, .inl (g.2.1 1, 12, .inl dr)), (ho, .inl (g.2.1 3, 12, .inl to))]) (ci := 2) (C := RX2) (T := TX2) (N := 6) (v := .int (-1)) (ty := .int) 0 F rfl rfl pz_inX2 5 (by decide) pw_88 tyX2_ok nmX2 rfl rfl rfl rfl (Nat.le_of_ble_eq_true rfl) dX2_startDraft_7 rfl ?_
  refine pz_iconst (v := 0) F dX2_startDraft_10 rfl ?_
  refine pz_istore_n (lv' := [(1, .int 0), (0, .ref h0)]) F dX2_startDraft_11 rfl (by decide) rfl ?_
  exact pz_sub [1, 0] [0, 1, 2] rfl rfl rfl (hT12 0 dr to vc)
set_option maxHeartbeats 4000000 in
set_option maxRecDepth 100000 in
theorem sgX2_startDraft_12 {B : pz_B} {g : pz_G} {wc : va_W} {Post : Option Value → va_W → Prop} (F : pz_F B cX2_startDraft 2 none yX2_startDraft.cls g rmX2_startDraft) (Rt : pz_Rt B g wc Post rmX2_startDraft) (h0 : Nat) (hr : Nat) (hi : Nat) (hd : Nat) (ho : Nat) (ff : Int32) (fp : Int32) (dr : Nat → Int32) (to : Nat → Int32) (T12 : Int32 → (Nat → Int32) → (Nat → Int32) → Prop) (hT12 : ∀ (i : Int32) (d1 : Nat → Int32) (t1 : Nat → Int32), T12 i d1 t1 → paX2_startDraft_12 B g h0 hr hi hd ho ff fp dr to i d1 t1) (i : Int32) (d1 : Nat → Int32) (t1 : Nat → Int32) (vc : (((12 : Int32) ≤ i → Post none [(h0, .inr (2, [.ref hr, .ref hi, .ref hd, .ref ho, .int 0, .int (-1)])), (hd, .inl (g.2.1 1, 12, .inl d1)), (ho, .inl (g.2.1 3, 12, .inl t1))]) ∧ (¬ (12 : Int32) ≤ i → vp_in i 12 ∧ ∀ f_3 : Nat → Int32, f_3 = upd d1 i.toNatClampNeg 0 → vp_in i 12 ∧ ∀ f_5 : Nat → Int32, f_5 = upd t1 i.toNatClampNeg (vp_nar .boolean 0) → ∀ x_6 : Int32, x_6 = i + 1 → T12 x_6 f_3 f_5))) : pz_At B 0 0 12 [(0, .ref h0), (1, .int i)] [] [(h0, .inr (2, [.ref hr, .ref hi, .ref hd, .ref ho, .int 0, .int (-1)])), (hd, .inl (g.2.1 1, 12, .inl d1)), (ho, .inl (g.2.1 3, 12, .inl t1))] := by
  refine pz_iload_n 1 F rfl dX2_startDraft_12 rfl ?_
  refine pz_bipush (v := 12) F dX2_startDraft_13 rfl ?_
  refine pz_icmp_ge (tgt := 38) F dX2_startDraft_15 (by decide) (fun q_1 => ?_) (fun q_1 => ?_)
  · replace vc := vc.1 q_1
    exact pz_return (w1 := [(h0, .inr (2, [.ref hr, .ref hi, .ref hd, .ref ho, .int 0, .int (-1)])), (hd, .inl (g.2.1 1, 12, .inl d1)), (ho, .inl (g.2.1 3, 12, .inl t1))]) F Rt (by decide) (by decide) dX2_startDraft_38 [0, 1, 2] rfl rfl vc
  · replace vc := vc.2 q_1
    refine pz_aload_n 0 F rfl dX2_startDraft_18 rfl ?_
    refine pz_get (ci := 2) (C := RX2) (T := TX2) (N := 6) (v := .ref hd) 0 F rfl rfl pz_inX2 2 (by decide) pw_84 rfl dX2_startDraft_19 ?_
    refine pz_iload_n 1 F rfl dX2_startDraft_22 rfl ?_
    refine pz_iconst (v := 0) F dX2_startDraft_23 rfl ?_
    obtain ⟨h_2, vc⟩ := vc
    obtain ⟨f_3, ef_3⟩ : ∃ z : Nat → Int32, z = upd d1 i.toNatClampNeg 0 := ⟨_, rfl⟩
    replace vc := vc f_3 ef_3
    refine pz_iastore (ws' := [(h0, .inr (2, [.ref hr, .ref hi, .ref hd, .ref ho, .int 0, .int (-1)])), (hd, .inl (g.2.1 1, 12, .inl f_3)), (ho, .inl (g.2.1 3, 12, .inl t1))]) F 1 rfl h_2 dX2_startDraft_24 (by rw [ef_3]; rfl) ?_
    refine pz_aload_n 0 F rfl dX2_startDraft_25 rfl ?_
    refine pz_get (ci := 2) (C := RX2) (T := TX2) (N := 6) (v := .ref ho) 0 F rfl rfl pz_inX2 3 (by decide) pw_85 rfl dX2_startDraft_26 ?_
    refine pz_iload_n 1 F rfl dX2_startDraft_29 rfl ?_
    refine pz_iconst (v := 0) F dX2_startDraft_30 rfl ?_
    obtain ⟨h_4, vc⟩ := vc
    obtain ⟨f_5, ef_5⟩ : ∃ z : Nat → Int32, z = upd t1 i.toNatClampNeg (vp_nar .boolean 0) := ⟨_, rfl⟩
    replace vc := vc f_5 ef_5
    refine pz_zastore (ws' := [(h0, .inr (2, [.ref hr, .ref hi, .ref hd, .ref ho, .int 0, .int (-1)])), (hd, .inl (g.2.1 1, 12, .inl f_3)), (ho, .inl (g.2.1 3, 12, .inl f_5))]) F 2 rfl h_4 dX2_startDraft_31 (by rw [ef_5]; rfl) ?_
    obtain ⟨x_6, ex_6⟩ : ∃ z : Int32, z = i + 1 := ⟨_, rfl⟩
    replace vc := vc x_6 ex_6
    refine pz_iinc (v := x_6) (lv' := [(1, .int x_6), (0, .ref h0)]) 1 F rfl dX2_startDraft_32 (by rw [ex_6]; rfl) (by decide) rfl ?_
    refine pz_goto (tgt := 12) F dX2_startDraft_35 (by decide) ?_
    exact pz_sub [1, 0] [0, 1, 2] rfl rfl rfl (hT12 x_6 f_3 f_5 vc)
theorem lpX2_startDraft_12 {B : pz_B} {g : pz_G} {wc : va_W} {Post : Option Value → va_W → Prop} (F : pz_F B cX2_startDraft 2 none yX2_startDraft.cls g rmX2_startDraft) (Rt : pz_Rt B g wc Post rmX2_startDraft) (h0 : Nat) (hr : Nat) (hi : Nat) (hd : Nat) (ho : Nat) (ff : Int32) (fp : Int32) (dr : Nat → Int32) (to : Nat → Int32) (Inv : Nat → Int32 → (Nat → Int32) → (Nat → Int32) → Prop) (step : ∀ (mz : Nat) (i : Int32) (d1 : Nat → Int32) (t1 : Nat → Int32), Inv mz i d1 t1 → ∀ TT : Int32 → (Nat → Int32) → (Nat → Int32) → Prop, TT = (fun i d1 t1 => ∃ mz', mz' < mz ∧ Inv mz' i d1 t1) → (((12 : Int32) ≤ i → Post none [(h0, .inr (2, [.ref hr, .ref hi, .ref hd, .ref ho, .int 0, .int (-1)])), (hd, .inl (g.2.1 1, 12, .inl d1)), (ho, .inl (g.2.1 3, 12, .inl t1))]) ∧ (¬ (12 : Int32) ≤ i → vp_in i 12 ∧ ∀ f_3 : Nat → Int32, f_3 = upd d1 i.toNatClampNeg 0 → vp_in i 12 ∧ ∀ f_5 : Nat → Int32, f_5 = upd t1 i.toNatClampNeg (vp_nar .boolean 0) → ∀ x_6 : Int32, x_6 = i + 1 → TT x_6 f_3 f_5))) : ∀ (mz : Nat) (i : Int32) (d1 : Nat → Int32) (t1 : Nat → Int32), Inv mz i d1 t1 → paX2_startDraft_12 B g h0 hr hi hd ho ff fp dr to i d1 t1 := by
  intro mz
  induction mz using Nat.strongRecOn with
  | _ mz ih =>
    intro i d1 t1 hI
    exact sgX2_startDraft_12 F Rt h0 hr hi hd ho ff fp dr to (fun i d1 t1 => ∃ mz', mz' < mz ∧ Inv mz' i d1 t1) (fun i d1 t1 ⟨mz', h1, h2⟩ => ih mz' h1 i d1 t1 h2) i d1 t1 (step mz i d1 t1 hI _ rfl)
set_option maxHeartbeats 4000000 in
set_option maxRecDepth 100000 in
theorem ctX2_startDraft (l : Launch) (g : pz_G) (h0 : Nat) (hr : Nat) (hi : Nat) (hd : Nat) (ho : Nat) (ff : Int32) (fp : Int32) (dr : Nat → Int32) (to : Nat → Int32) : pz_Ct l g yX2_startDraft cX2_startDraft 2 none rmX2_startDraft [.ref h0] [(h0, .inr (2, [.ref hr, .ref hi, .ref hd, .ref ho, .int ff, .int fp])), (hd, .inl (g.2.1 1, 12, .inl dr)), (ho, .inl (g.2.1 3, 12, .inl to))] (pz_pv (fun (u : (Nat → Int32) × (Nat → Int32)) => (∀ a, a < 12 → u.1 a = 0) ∧ (∀ a, a < 12 → u.2 a = 0)) (fun (u : (Nat → Int32) × (Nat → Int32)) => [(h0, .inr (2, [.ref hr, .ref hi, .ref hd, .ref ho, .int 0, .int (-1)])), (hd, .inl (g.2.1 1, 12, .inl u.1)), (ho, .inl (g.2.1 3, 12, .inl u.2))])) := by
  refine pz_ofAt (by decide +kernel) (Nat.le_of_ble_eq_true rfl) (fun B F Rt hme => ?_)
  have h12 := lpX2_startDraft_12 F Rt h0 hr hi hd ho ff fp dr to (fun z i d1 t1 => ∃ j, j + z = 12 ∧ i = nI j ∧ (∀ a, a < j → d1 a = 0) ∧ (∀ a, a < j → t1 a = 0)) (by
    rintro z i d1 t1 ⟨j, hj, rfl, hd, ht⟩ TT rfl
    refine ⟨fun q => ?_, fun q => ?_⟩
    · have h1 := pu_ge (n := 12) (by omega) q
      exact ⟨(d1, t1), rfl, rfl, fun a ha => hd a (by omega), fun a ha => ht a (by omega)⟩
    · have h1 := pu_lt (n := 12) (by omega) (by omega) q
      refine ⟨vp_in_nI (by omega) (by omega), ?_⟩
      rintro f rfl
      refine ⟨vp_in_nI (by omega) (by omega), ?_⟩
      rintro f2 rfl x rfl
      rw [nI_clamp (by omega)]
      refine ⟨z - 1, by omega, j + 1, by omega, nI_1 j, fun a ha => ?_, fun a ha => ?_⟩
      · by_cases h2 : a = j
        · rw [h2, pk_us]
        · rw [pk_un h2]; exact hd a (by omega)
      · by_cases h2 : a = j
        · rw [h2, pk_us]; rfl
        · rw [pk_un h2]; exact ht a (by omega))
  exact sgX2_startDraft_0 F Rt h0 hr hi hd ho ff fp dr to _ (fun i d1 t1 => h12 12 i d1 t1) ⟨0, by omega, nI_0.symm, fun a ha => absurd ha (by omega), fun a ha => absurd ha (by omega)⟩
abbrev rmX2_lineHere : Room := { frames := 5, cells := 0, slots := 0, locals := 107 }
abbrev paX2_lineHere_9 (B : pz_B) (g : pz_G) (h0 : Nat) (hr : Nat) (hi : Nat) (hd : Nat) (ho : Nat) (ff : Int32) (fp : Int32) (ht : Nat) (en : Int32) (tk : Int32) (sa : Int32) (bh : Int32) (nu : Int32) (hb : Nat) (ts : Int32) (byt : Nat → Int32) (j : Nat) (e : Nat) (i : Int32) : Prop := pz_At B 0 0 9 [(0, .ref h0), (1, .ref (g.2.2 20)), (2, .int 9), (3, .int i)] [] [(h0, .inr (2, [.ref hr, .ref hi, .ref hd, .ref ho, .int ff, .int fp])), (hr, .inr (4, [.ref ht, .int en, .int tk, .int sa, .int bh, .int nu])), (ht, .inr (6, [.ref hb, .int ts])), (hb, .inl (g.2.1 0, 400, .inl byt))]
set_option maxHeartbeats 4000000 in
set_option maxRecDepth 100000 in
theorem sgX2_lineHere_0 {B : pz_B} {g : pz_G} {wc : va_W} {Post : Option Value → va_W → Prop} (F : pz_F B cX2_lineHere 5 (some (.object "StoneHall$Line")) yX2_lineHere.cls g rmX2_lineHere) (Rt : pz_Rt B g wc Post rmX2_lineHere) (h0 : Nat) (hr : Nat) (hi : Nat) (hd : Nat) (ho : Nat) (ff : Int32) (fp : Int32) (ht : Nat) (en : Int32) (tk : Int32) (sa : Int32) (bh : Int32) (nu : Int32) (hb : Nat) (ts : Int32) (byt : Nat → Int32) (j : Nat) (e : Nat) (T9 : Int32 → Prop) (hT9 : ∀ (i : Int32), T9 i → paX2_lineHere_9 B g h0 hr hi hd ho ff fp ht en tk sa bh nu hb ts byt j e i)  (vc : T9 0) : pz_At B 0 0 0 [(0, .ref h0)] [] [(h0, .inr (2, [.ref hr, .ref hi, .ref hd, .ref ho, .int ff, .int fp])), (hr, .inr (4, [.ref ht, .int en, .int tk, .int sa, .int bh, .int nu])), (ht, .inr (6, [.ref hb, .int ts])), (hb, .inl (g.2.1 0, 400, .inl byt))] := by
  refine pz_getsN (host := "StoneHall") F (pz_LINES F) (pz_nest F).2.2.2.2.2.2.1 dX2_lineHere_0 ?_
  refine pz_astore_n (lv' := [(1, .ref (g.2.2 20)), (0, .ref h0)]) F dX2_lineHere_3 rfl (by decide) rfl ?_
  refine pz_aload_n 0 F rfl dX2_lineHere_4 rfl ?_
  refine pz_tlen (v := 9) F (pz_LINESt F) rfl dX2_lineHere_5 ?_
  refine pz_istore_n (lv' := [(2, .int 9), (1, .ref (g.2.2 20)), (0, .ref h0)]) F dX2_lineHere_6 rfl (by decide) rfl ?_
  refine pz_iconst (v := 0) F dX2_lineHere_7 rfl ?_
  refine pz_istore_n (lv' := [(3, .int 0), (2, .int 9), (1, .ref (g.2.2 20)), (0, .ref h0)]) F dX2_lineHere_8 rfl (by decide) rfl ?_
  exact pz_sub [3, 2, 1, 0] [0, 1, 2, 3] rfl rfl rfl (hT9 0 vc)
set_option maxHeartbeats 4000000 in
set_option maxRecDepth 100000 in
theorem sgX2_lineHere_9 {B : pz_B} {g : pz_G} {wc : va_W} {Post : Option Value → va_W → Prop} (F : pz_F B cX2_lineHere 5 (some (.object "StoneHall$Line")) yX2_lineHere.cls g rmX2_lineHere) (Rt : pz_Rt B g wc Post rmX2_lineHere) (h0 : Nat) (hr : Nat) (hi : Nat) (hd : Nat) (ho : Nat) (ff : Int32) (fp : Int32) (ht : Nat) (en : Int32) (tk : Int32) (sa : Int32) (bh : Int32) (nu : Int32) (hb : Nat) (ts : Int32) (byt : Nat → Int32) (j : Nat) (e : Nat) (T9 : Int32 → Prop) (hT9 : ∀ (i : Int32), T9 i → paX2_lineHere_9 B g h0 hr hi hd ho ff fp ht en tk sa bh nu hb ts byt j e i) (i : Int32) (vc : (((9 : Int32) ≤ i → Post (some (.null)) [(h0, .inr (2, [.ref hr, .ref hi, .ref hd, .ref ho, .int ff, .int fp])), (hr, .inr (4, [.ref ht, .int en, .int tk, .int sa, .int bh, .int nu])), (ht, .inr (6, [.ref hb, .int ts])), (hb, .inl (g.2.1 0, 400, .inl byt))]) ∧ (¬ (9 : Int32) ≤ i → vp_in i 9 ∧ i.toNatClampNeg < 9 ∧ ∃ a_4 : Nat, ∃ b_5 : Nat, (i.toNatClampNeg < 14 ∧ a_4 ≤ b_5 ∧ b_5 ≤ e ∧ e ≤ 400 ∧ sa = nI a_4 ∧ bh = nI b_5 ∧ en = nI e) ∧ ∀ r_7 : Int32, ∀ _ : ((r_7 = 1 ∧ tk = 1 ∧ pu_wd (pu_cs byt e) a_4 b_5 i.toNatClampNeg) ∨ (r_7 = 0 ∧ ¬ (tk = 1 ∧ pu_wd (pu_cs byt e) a_4 b_5 i.toNatClampNeg))), ((r_7 = 0 → ∀ x_10 : Int32, x_10 = i + 1 → T9 x_10) ∧ (¬ r_7 = 0 → Post (some (.ref (g.2.2 i.toNatClampNeg))) [(h0, .inr (2, [.ref hr, .ref hi, .ref hd, .ref ho, .int ff, .int fp])), (hr, .inr (4, [.ref ht, .int en, .int tk, .int sa, .int bh, .int nu])), (ht, .inr (6, [.ref hb, .int ts])), (hb, .inl (g.2.1 0, 400, .inl byt))]))))) : pz_At B 0 0 9 [(0, .ref h0), (1, .ref (g.2.2 20)), (2, .int 9), (3, .int i)] [] [(h0, .inr (2, [.ref hr, .ref hi, .ref hd, .ref ho, .int ff, .int fp])), (hr, .inr (4, [.ref ht, .int en, .int tk, .int sa, .int bh, .int nu])), (ht, .inr (6, [.ref hb, .int ts])), (hb, .inl (g.2.1 0, 400, .inl byt))] := by
  refine pz_iload_n 3 F rfl dX2_lineHere_9 rfl ?_
  refine pz_iload_n 2 F rfl dX2_lineHere_10 rfl ?_
  refine pz_icmp_ge (tgt := 43) F dX2_lineHere_11 (by decide) (fun q_1 => ?_) (fun q_1 => ?_)
  · replace vc := vc.1 q_1
    refine pz_null F dX2_lineHere_43 ?_
    exact pz_areturn (w1 := [(h0, .inr (2, [.ref hr, .ref hi, .ref hd, .ref ho, .int ff, .int fp])), (hr, .inr (4, [.ref ht, .int en, .int tk, .int sa, .int bh, .int nu])), (ht, .inr (6, [.ref hb, .int ts])), (hb, .inl (g.2.1 0, 400, .inl byt))]) F Rt (by decide) (by decide) (Or.inl ⟨_, rfl⟩) (Or.inl rfl) dX2_lineHere_44 [0, 1, 2, 3] rfl rfl vc
  · replace vc := vc.2 q_1
    refine pz_aload_n 1 F rfl dX2_lineHere_14 rfl ?_
    refine pz_iload_n 3 F rfl dX2_lineHere_15 rfl ?_
    obtain ⟨h_2, vc⟩ := vc
    refine pz_tq F (pz_LINESt F) h_2 rfl dX2_lineHere_16 ?_
    show pz_At B 0 0 17 [(0, .ref h0), (1, .ref (g.2.2 20)), (2, .int 9), (3, .int i)] [.ref (g.2.2 i.toNatClampNeg)] [(h0, .inr (2, [.ref hr, .ref hi, .ref hd, .ref ho, .int ff, .int fp])), (hr, .inr (4, [.ref ht, .int en, .int tk, .int sa, .int bh, .int nu])), (ht, .inr (6, [.ref hb, .int ts])), (hb, .inl (g.2.1 0, 400, .inl byt))]
    refine pz_astore (lv' := [(4, .ref (g.2.2 i.toNatClampNeg)), (0, .ref h0), (1, .ref (g.2.2 20)), (2, .int 9), (3, .int i)]) F dX2_lineHere_17 (by decide) rfl ?_
    refine pz_aload_n 1 F rfl dX2_lineHere_19 rfl ?_
    refine pz_get (ci := 2) (C := RX2) (T := TX2) (N := 6) (v := .ref hr) 0 F rfl rfl pz_inX2 0 (by decide) pw_82 rfl dX2_lineHere_20 ?_
    refine pz_aload 0 F rfl dX2_lineHere_23 ?_
    obtain ⟨h_3, vc⟩ := vc
    refine pz_getX (i := i.toNatClampNeg) F (pz_lineW F) h_3 pw_1150 dX2_lineHere_25 ?_
    show pz_At B 0 0 28 [(4, .ref (g.2.2 i.toNatClampNeg)), (0, .ref h0), (1, .ref (g.2.2 20)), (2, .int 9), (3, .int i)] [.ref (g.2.2 (30 + i.toNatClampNeg)), .ref hr] [(h0, .inr (2, [.ref hr, .ref hi, .ref hd, .ref ho, .int ff, .int fp])), (hr, .inr (4, [.ref ht, .int en, .int tk, .int sa, .int bh, .int nu])), (ht, .inr (6, [.ref hb, .int ts])), (hb, .inl (g.2.1 0, 400, .inl byt))]
    obtain ⟨a_4, vc⟩ := vc
    obtain ⟨b_5, vc⟩ := vc
    obtain ⟨h_6, vc⟩ := vc
    refine pz_callV (nA := 1) (ci := 4) (C := RX5) (T := TX5) (N := 6) (As := [.ref (g.2.2 (30 + i.toNatClampNeg))]) (rest := []) (wr := [(h0, .inr (2, [.ref hr, .ref hi, .ref hd, .ref ho, .int ff, .int fp]))]) F (ctX5_stands _ g i.toNatClampNeg hr ht en tk sa bh nu hb ts byt a_4 b_5 e h_6) 1 rfl rfl pw_306 pw_307 pw_308 pw_4 pw_309 (by decide +kernel) (by decide) (by decide) rfl rfl (Nat.le_of_ble_eq_true rfl) [1, 2, 3] [0] rfl rfl rfl rfl (by decide) dX2_lineHere_28 (fun r0 w0 hp0 => ?_)
    obtain ⟨r_7, _, rfl, rfl, hq_8⟩ := hp0
    replace vc := vc r_7  hq_8
    refine pz_eq (st' := [.int r_7]) (ws' := [(h0, .inr (2, [.ref hr, .ref hi, .ref hd, .ref ho, .int ff, .int fp])), (hr, .inr (4, [.ref ht, .int en, .int tk, .int sa, .int bh, .int nu])), (ht, .inr (6, [.ref hb, .int ts])), (hb, .inl (g.2.1 0, 400, .inl byt))]) rfl rfl ?_
    refine pz_if_eq (tgt := 37) F dX2_lineHere_31 (by decide) (fun q_9 => ?_) (fun q_9 => ?_)
    · replace vc := vc.1 q_9
      obtain ⟨x_10, ex_10⟩ : ∃ z : Int32, z = i + 1 := ⟨_, rfl⟩
      replace vc := vc x_10 ex_10
      refine pz_iinc (v := x_10) (lv' := [(3, .int x_10), (4, .ref (g.2.2 i.toNatClampNeg)), (0, .ref h0), (1, .ref (g.2.2 20)), (2, .int 9)]) 4 F rfl dX2_lineHere_37 (by rw [ex_10]; rfl) (by decide) rfl ?_
      refine pz_goto (tgt := 9) F dX2_lineHere_40 (by decide) ?_
      exact pz_sub [2, 3, 4, 0] [0, 1, 2, 3] rfl rfl rfl (hT9 x_10 vc)
    · replace vc := vc.2 q_9
      refine pz_aload 0 F rfl dX2_lineHere_34 ?_
      exact pz_areturn (w1 := [(h0, .inr (2, [.ref hr, .ref hi, .ref hd, .ref ho, .int ff, .int fp])), (hr, .inr (4, [.ref ht, .int en, .int tk, .int sa, .int bh, .int nu])), (ht, .inr (6, [.ref hb, .int ts])), (hb, .inl (g.2.1 0, 400, .inl byt))]) F Rt (by decide) (by decide) (Or.inl ⟨_, rfl⟩) (Or.inr ⟨_, rfl⟩) dX2_lineHere_36 [0, 1, 2, 3] rfl rfl vc
theorem lpX2_lineHere_9 {B : pz_B} {g : pz_G} {wc : va_W} {Post : Option Value → va_W → Prop} (F : pz_F B cX2_lineHere 5 (some (.object "StoneHall$Line")) yX2_lineHere.cls g rmX2_lineHere) (Rt : pz_Rt B g wc Post rmX2_lineHere) (h0 : Nat) (hr : Nat) (hi : Nat) (hd : Nat) (ho : Nat) (ff : Int32) (fp : Int32) (ht : Nat) (en : Int32) (tk : Int32) (sa : Int32) (bh : Int32) (nu : Int32) (hb : Nat) (ts : Int32) (byt : Nat → Int32) (j : Nat) (e : Nat) (Inv : Nat → Int32 → Prop) (step : ∀ (mz : Nat) (i : Int32), Inv mz i → ∀ TT : Int32 → Prop, TT = (fun i => ∃ mz', mz' < mz ∧ Inv mz' i) → (((9 : Int32) ≤ i → Post (some (.null)) [(h0, .inr (2, [.ref hr, .ref hi, .ref hd, .ref ho, .int ff, .int fp])), (hr, .inr (4, [.ref ht, .int en, .int tk, .int sa, .int bh, .int nu])), (ht, .inr (6, [.ref hb, .int ts])), (hb, .inl (g.2.1 0, 400, .inl byt))]) ∧ (¬ (9 : Int32) ≤ i → vp_in i 9 ∧ i.toNatClampNeg < 9 ∧ ∃ a_4 : Nat, ∃ b_5 : Nat, (i.toNatClampNeg < 14 ∧ a_4 ≤ b_5 ∧ b_5 ≤ e ∧ e ≤ 400 ∧ sa = nI a_4 ∧ bh = nI b_5 ∧ en = nI e) ∧ ∀ r_7 : Int32, ∀ _ : ((r_7 = 1 ∧ tk = 1 ∧ pu_wd (pu_cs byt e) a_4 b_5 i.toNatClampNeg) ∨ (r_7 = 0 ∧ ¬ (tk = 1 ∧ pu_wd (pu_cs byt e) a_4 b_5 i.toNatClampNeg))), ((r_7 = 0 → ∀ x_10 : Int32, x_10 = i + 1 → TT x_10) ∧ (¬ r_7 = 0 → Post (some (.ref (g.2.2 i.toNatClampNeg))) [(h0, .inr (2, [.ref hr, .ref hi, .ref hd, .ref ho, .int ff, .int fp])), (hr, .inr (4, [.ref ht, .int en, .int tk, .int sa, .int bh, .int nu])), (ht, .inr (6, [.ref hb, .int ts])), (hb, .inl (g.2.1 0, 400, .inl byt))]))))) : ∀ (mz : Nat) (i : Int32), Inv mz i → paX2_lineHere_9 B g h0 hr hi hd ho ff fp ht en tk sa bh nu hb ts byt j e i := by
  intro mz
  induction mz using Nat.strongRecOn with
  | _ mz ih =>
    intro i hI
    exact sgX2_lineHere_9 F Rt h0 hr hi hd ho ff fp ht en tk sa bh nu hb ts byt j e (fun i => ∃ mz', mz' < mz ∧ Inv mz' i) (fun i ⟨mz', h1, h2⟩ => ih mz' h1 i h2) i (step mz i hI _ rfl)
set_option maxHeartbeats 4000000 in
set_option maxRecDepth 100000 in
theorem ctX2_lineHere (l : Launch) (g : pz_G) (h0 : Nat) (hr : Nat) (hi : Nat) (hd : Nat) (ho : Nat) (ff : Int32) (fp : Int32) (ht : Nat) (en : Int32) (tk : Int32) (sa : Int32) (bh : Int32) (nu : Int32) (hb : Nat) (ts : Int32) (byt : Nat → Int32) (j : Nat) (e : Nat) (hpre : j ≤ e ∧ e ≤ 400 ∧ tk = tk_k (pu_cs byt e) e j ∧ sa = nI (tk_s (pu_cs byt e) e j) ∧ bh = nI (tk_e (pu_cs byt e) e j) ∧ en = nI e) : pz_Ct l g yX2_lineHere cX2_lineHere 5 (some (.object "StoneHall$Line")) rmX2_lineHere [.ref h0] [(h0, .inr (2, [.ref hr, .ref hi, .ref hd, .ref ho, .int ff, .int fp])), (hr, .inr (4, [.ref ht, .int en, .int tk, .int sa, .int bh, .int nu])), (ht, .inr (6, [.ref hb, .int ts])), (hb, .inl (g.2.1 0, 400, .inl byt))] (pz_pn g (fun (r : Option Nat) (u : Unit) => r = tk_l (pu_cs byt e) e j) (fun (u : Unit) => [(h0, .inr (2, [.ref hr, .ref hi, .ref hd, .ref ho, .int ff, .int fp])), (hr, .inr (4, [.ref ht, .int en, .int tk, .int sa, .int bh, .int nu])), (ht, .inr (6, [.ref hb, .int ts])), (hb, .inl (g.2.1 0, 400, .inl byt))])) := by
  refine pz_ofAt (by decide +kernel) (Nat.le_of_ble_eq_true rfl) (fun B F Rt hme => ?_)
  obtain ⟨hj, he, h1, h3, h4, h5⟩ := hpre
  subst h3; subst h4; subst h5
  have hs2 := tk_e_in (c := pu_cs byt e) hj
  have h9 := lpX2_lineHere_9 F Rt h0 hr hi hd ho ff fp ht (nI e) tk (nI (tk_s (pu_cs byt e) e j)) (nI (tk_e (pu_cs byt e) e j)) nu hb ts byt j e (fun z i => ∃ k, k + z = 9 ∧ i = nI k ∧ ∀ a, a < k → tk_w (pu_cs byt e) e j a = false) (by
    rintro z i ⟨k, hk, rfl, hp⟩ TT rfl
    rw [h1]
    refine ⟨fun q => ?_, fun q => ?_⟩
    · have h6 := pu_ge (n := 9) (by omega) q
      exact ⟨none, (), rfl, rfl, (pl_find0 (fun a ha => hp a (by omega))).symm⟩
    · have h6 := pu_lt (n := 9) (by omega) (by omega) q
      rw [nI_clamp (by omega)]
      refine ⟨vp_in_nI (by omega) (by omega), h6, _, _, ⟨by omega, hs2.1, hs2.2, he, rfl, rfl, rfl⟩, fun r hr => ⟨fun q2 => ?_, fun q2 => ?_⟩⟩
      · rintro x rfl
        refine ⟨z - 1, by omega, k + 1, by omega, nI_1 k, fun a ha => ?_⟩
        by_cases h7 : a = k
        · rw [h7]
          rcases hr with ⟨a1, a2⟩ | ⟨a1, a2⟩
          · rw [q2] at a1; exact absurd a1 (by decide)
          · exact tk_w_no a2
        · exact hp a (by omega)
      · have hyes : tk_w (pu_cs byt e) e j k = true := by
          rcases hr with ⟨a1, a2⟩ | ⟨a1, a2⟩
          · exact tk_w_of a2
          · exact absurd a1 q2
        exact ⟨some k, (), rfl, rfl, (pl_find 9 k h6 hyes hp).symm⟩)
  exact sgX2_lineHere_0 F Rt h0 hr hi hd ho ff fp ht (nI e) tk (nI (tk_s (pu_cs byt e) e j)) (nI (tk_e (pu_cs byt e) e j)) nu hb ts byt j e _ (fun i => h9 9 i) ⟨0, by omega, nI_0.symm, fun a ha => absurd ha (by omega)⟩
