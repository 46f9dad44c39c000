
abbrev rmX6_settle : Room := { frames := 2, cells := 0, slots := 0, locals := 47 }
set_option maxHeartbeats 4000000 in
set_option maxRecDepth 100000 in
theorem sgX6_settle_0 {B : pz_B} {g : pz_G} {wc : va_W} {Post : Option Value → va_W → Prop} (F : pz_F B cX6_settle 6 none yX6_settle.cls g rmX6_settle) (Rt : pz_Rt B g wc Post rmX6_settle) (wn : Int32) (ak : Int32) (h0 : Nat) (hs : Nat) (hc : Nat) (lI : Int32) (ou : Int32) (he : Int32) (pc : Int32) (df : Int32) (tx : Int32) (h4 : Nat) (hp : Nat) (hd : Nat) (sz : Int32) (pu : Nat → Int32) (du : Nat → Int32) (h3 : Nat) (h3_slices : Int32) (h3_inside : Int32) (hpa : Nat) (hbb : Nat) (hbc : Nat) (h3_bidCount : Int32) (h3_seen : Int32) (h3_spent : Int32) (pa : Nat → Int32) (h5 : Nat) (h5_reader : Nat) (hi : Nat) (h5_draft : Nat) (h5_told : Nat) (h5_faultFound : Int32) (h5_faultPlace : Int32) (inf : Nat → Int32) (n : Nat) (v : Nat)  (vc : (5 < 9) ∧ ∀ r_2 : Int32, ∀ _ : (r_2 = inf 5), ∀ x_4 : Int32, x_4 = ((ak * r_2) / 100) → vp_in wn 8 ∧ ∀ x_6 : Int32, x_6 = ((pu wn.toNatClampNeg) - ak) → vp_in wn 8 ∧ ∀ f_8 : Nat → Int32, f_8 = upd pu wn.toNatClampNeg x_6 → (n ≤ 8 ∧ sz = nI n) ∧ ∀ du2_10 : Nat → Int32, ∀ pu2_11 : Nat → Int32, ∀ _ : ((∀ a, a < n → du2_10 a = dv_f pa n (ak - x_4) a) ∧ (∀ a, a < 8 → pu2_11 a = if a < n then f_8 a + dv_f pa n (ak - x_4) a else f_8 a)), (vp_in wn 8) ∧ ∀ pa2_14 : Nat → Int32, ∀ _ : (∀ a, a < 8 → pa2_14 a = if a = wn.toNatClampNeg then 16 else 0), Post none [(h0, .inr (5, [.ref hs, .ref hc, .int lI, .int ou, .int he, .int ak, .int df, .int x_4])), (h4, .inr (3, [.ref hp, .ref hd, .int sz])), (hp, .inl (g.2.1 1, 8, .inl pu2_11)), (hd, .inl (g.2.1 1, 8, .inl du2_10)), (h3, .inr (0, [.int h3_slices, .int h3_inside, .ref hpa, .ref hbb, .ref hbc, .int h3_bidCount, .int h3_seen, .int h3_spent])), (hpa, .inl (g.2.1 1, 8, .inl pa2_14)), (h5, .inr (2, [.ref h5_reader, .ref hi, .ref h5_draft, .ref h5_told, .int h5_faultFound, .int h5_faultPlace])), (hi, .inl (g.2.1 1, 12, .inl inf))]) : pz_At B 0 0 0 [(0, .ref h0), (1, .int wn), (2, .int ak), (3, .ref h3), (4, .ref h4), (5, .ref h5)] [] [(h0, .inr (5, [.ref hs, .ref hc, .int lI, .int ou, .int he, .int pc, .int df, .int tx])), (h4, .inr (3, [.ref hp, .ref hd, .int sz])), (hp, .inl (g.2.1 1, 8, .inl pu)), (hd, .inl (g.2.1 1, 8, .inl du)), (h3, .inr (0, [.int h3_slices, .int h3_inside, .ref hpa, .ref hbb, .ref hbc, .int h3_bidCount, .int h3_seen, .int h3_spent])), (hpa, .inl (g.2.1 1, 8, .inl pa)), (h5, .inr (2, [.ref h5_reader, .ref hi, .ref h5_draft, .ref h5_told, .int h5_faultFound, .int h5_faultPlace])), (hi, .inl (g.2.1 1, 12, .inl inf))] := by
  refine pz_aload_n 0 F rfl dX6_settle_0 rfl ?_
  refine pz_iload_n 2 F rfl dX6_settle_1 rfl ?_
  refine pz_put (ws' := [(h0, .inr (5, [.ref hs, .ref hc, .int lI, .int ou, .int he, .int ak, .int df, .int tx])), (h4, .inr (3, [.ref hp, .ref hd, .int sz])), (hp, .inl (g.2.1 1, 8, .inl pu)), (hd, .inl (g.2.1 1, 8, .inl du)), (h3, .inr (0, [.int h3_slices, .int h3_inside, .ref hpa, .ref hbb, .ref hbc, .int h3_bidCount, .int h3_seen, .int h3_spent])), (hpa, .inl (g.2.1 1, 8, .inl pa)), (h5, .inr (2, [.ref h5_reader, .ref hi, .ref h5_draft, .ref h5_told, .int h5_faultFound, .int h5_faultPlace])), (hi, .inl (g.2.1 1, 12, .inl inf))]) (ci := 5) (C := RX6) (T := TX6) (N := 8) (v := .int ak) (ty := .int) 0 F rfl rfl pz_inX6 5 (by decide) pw_189 tyX6_ok nmX6 rfl rfl rfl rfl (Nat.le_of_ble_eq_true rfl) dX6_settle_2 rfl ?_
  refine pz_aload_n 0 F rfl dX6_settle_5 rfl ?_
  refine pz_iload_n 2 F rfl dX6_settle_6 rfl ?_
  refine pz_aload 5 F rfl dX6_settle_7 ?_
  refine pz_gets F (pz_line F (i := 5) (by decide)) pw_548 dX6_settle_9 ?_
  obtain ⟨h_1, vc⟩ := vc
  refine pz_callV (nA := 1) (ci := 2) (C := RX2) (T := TX2) (N := 6) (As := [.ref (g.2.2 5)]) (rest := [.int ak, .ref h0]) (wr := [(h0, .inr (5, [.ref hs, .ref hc, .int lI, .int ou, .int he, .int ak, .int df, .int tx])), (h4, .inr (3, [.ref hp, .ref hd, .int sz])), (hp, .inl (g.2.1 1, 8, .inl pu)), (hd, .inl (g.2.1 1, 8, .inl du)), (h3, .inr (0, [.int h3_slices, .int h3_inside, .ref hpa, .ref hbb, .ref hbc, .int h3_bidCount, .int h3_seen, .int h3_spent])), (hpa, .inl (g.2.1 1, 8, .inl pa))]) F (ctX2_coins _ g h5 5 h5_reader hi h5_draft h5_told h5_faultFound h5_faultPlace inf h_1) 6 rfl rfl pw_512 pw_513 pw_514 pw_3 pw_515 (by decide +kernel) (by decide) (by decide) rfl rfl (Nat.le_of_ble_eq_true rfl) [6, 7] [0, 1, 2, 3, 4, 5] rfl rfl rfl rfl (by decide) dX6_settle_12 (fun r0 w0 hp0 => ?_)
  obtain ⟨r_2, _, rfl, rfl, hq_3⟩ := hp0
  replace vc := vc r_2  hq_3
  refine pz_eq (st' := [.int r_2, .int ak, .ref h0]) (ws' := [(h0, .inr (5, [.ref hs, .ref hc, .int lI, .int ou, .int he, .int ak, .int df, .int tx])), (h4, .inr (3, [.ref hp, .ref hd, .int sz])), (hp, .inl (g.2.1 1, 8, .inl pu)), (hd, .inl (g.2.1 1, 8, .inl du)), (h3, .inr (0, [.int h3_slices, .int h3_inside, .ref hpa, .ref hbb, .ref hbc, .int h3_bidCount, .int h3_seen, .int h3_spent])), (hpa, .inl (g.2.1 1, 8, .inl pa)), (h5, .inr (2, [.ref h5_reader, .ref hi, .ref h5_draft, .ref h5_told, .int h5_faultFound, .int h5_faultPlace])), (hi, .inl (g.2.1 1, 12, .inl inf))]) rfl rfl ?_
  refine pz_imul F dX6_settle_15 ?_
  refine pz_bipush (v := 100) F dX6_settle_16 rfl ?_
  refine pz_idiv F (by decide) dX6_settle_18 ?_
  refine pz_topi (fun x_4 ex_4 => ?_)
  replace vc := vc x_4 ex_4
  refine pz_put (ws' := [(h0, .inr (5, [.ref hs, .ref hc, .int lI, .int ou, .int he, .int ak, .int df, .int x_4])), (h4, .inr (3, [.ref hp, .ref hd, .int sz])), (hp, .inl (g.2.1 1, 8, .inl pu)), (hd, .inl (g.2.1 1, 8, .inl du)), (h3, .inr (0, [.int h3_slices, .int h3_inside, .ref hpa, .ref hbb, .ref hbc, .int h3_bidCount, .int h3_seen, .int h3_spent])), (hpa, .inl (g.2.1 1, 8, .inl pa)), (h5, .inr (2, [.ref h5_reader, .ref hi, .ref h5_draft, .ref h5_told, .int h5_faultFound, .int h5_faultPlace])), (hi, .inl (g.2.1 1, 12, .inl inf))]) (ci := 5) (C := RX6) (T := TX6) (N := 8) (v := .int x_4) (ty := .int) 0 F rfl rfl pz_inX6 7 (by decide) pw_191 tyX6_ok nmX6 rfl rfl rfl rfl (Nat.le_of_ble_eq_true rfl) dX6_settle_19 rfl ?_
  refine pz_aload 4 F rfl dX6_settle_22 ?_
  refine pz_get (ci := 3) (C := RX4) (T := TX4) (N := 3) (v := .ref hp) 1 F rfl rfl pz_inX4 0 (by decide) pw_164 rfl dX6_settle_24 ?_
  refine pz_iload_n 1 F rfl dX6_settle_27 rfl ?_
  refine pz_dup2 F dX6_settle_28 rfl rfl ?_
  obtain ⟨h_5, vc⟩ := vc
  refine pz_iaload 2 F rfl h_5 dX6_settle_29 ?_
  refine pz_iload_n 2 F rfl dX6_settle_30 rfl ?_
  refine pz_isub F dX6_settle_31 ?_
  refine pz_topi (fun x_6 ex_6 => ?_)
  replace vc := vc x_6 ex_6
  obtain ⟨h_7, vc⟩ := vc
  obtain ⟨f_8, ef_8⟩ : ∃ z : Nat → Int32, z = upd pu wn.toNatClampNeg x_6 := ⟨_, rfl⟩
  replace vc := vc f_8 ef_8
  refine pz_iastore (ws' := [(h0, .inr (5, [.ref hs, .ref hc, .int lI, .int ou, .int he, .int ak, .int df, .int x_4])), (h4, .inr (3, [.ref hp, .ref hd, .int sz])), (hp, .inl (g.2.1 1, 8, .inl f_8)), (hd, .inl (g.2.1 1, 8, .inl du)), (h3, .inr (0, [.int h3_slices, .int h3_inside, .ref hpa, .ref hbb, .ref hbc, .int h3_bidCount, .int h3_seen, .int h3_spent])), (hpa, .inl (g.2.1 1, 8, .inl pa)), (h5, .inr (2, [.ref h5_reader, .ref hi, .ref h5_draft, .ref h5_told, .int h5_faultFound, .int h5_faultPlace])), (hi, .inl (g.2.1 1, 12, .inl inf))]) F 2 rfl h_7 dX6_settle_32 (by rw [ef_8]; rfl) ?_
  refine pz_aload 4 F rfl dX6_settle_33 ?_
  refine pz_aload_n 3 F rfl dX6_settle_35 rfl ?_
  refine pz_iload_n 2 F rfl dX6_settle_36 rfl ?_
  refine pz_aload_n 0 F rfl dX6_settle_37 rfl ?_
  refine pz_get (ci := 5) (C := RX6) (T := TX6) (N := 8) (v := .int x_4) 0 F rfl rfl pz_inX6 7 (by decide) pw_191 rfl dX6_settle_38 ?_
  refine pz_isub F dX6_settle_41 ?_
  obtain ⟨h_9, vc⟩ := vc
  refine pz_callV (nA := 2) (ci := 3) (C := RX4) (T := TX4) (N := 3) (As := [.ref h3, .int (ak - x_4)]) (rest := []) (wr := [(h0, .inr (5, [.ref hs, .ref hc, .int lI, .int ou, .int he, .int ak, .int df, .int x_4])), (h5, .inr (2, [.ref h5_reader, .ref hi, .ref h5_draft, .ref h5_told, .int h5_faultFound, .int h5_faultPlace])), (hi, .inl (g.2.1 1, 12, .inl inf))]) F (ctX4_give _ g (ak - x_4) h4 hp hd sz f_8 du h3 h3_slices h3_inside hpa hbb hbc h3_bidCount h3_seen h3_spent pa n h_9) 1 rfl rfl pw_550 pw_551 pw_552 pw_6 pw_553 (by decide +kernel) (by decide) (by decide) rfl rfl (Nat.le_of_ble_eq_true rfl) [1, 2, 3, 4, 5] [0, 6, 7] rfl rfl rfl rfl (by decide) dX6_settle_42 (fun r0 w0 hp0 => ?_)
  obtain ⟨⟨du2_10, pu2_11⟩, rfl, rfl, hq_12⟩ := hp0
  replace vc := vc du2_10 pu2_11 hq_12
  refine pz_eq (st' := []) (ws' := [(h0, .inr (5, [.ref hs, .ref hc, .int lI, .int ou, .int he, .int ak, .int df, .int x_4])), (h5, .inr (2, [.ref h5_reader, .ref hi, .ref h5_draft, .ref h5_told, .int h5_faultFound, .int h5_faultPlace])), (hi, .inl (g.2.1 1, 12, .inl inf)), (h4, .inr (3, [.ref hp, .ref hd, .int sz])), (hp, .inl (g.2.1 1, 8, .inl pu2_11)), (hd, .inl (g.2.1 1, 8, .inl du2_10)), (h3, .inr (0, [.int h3_slices, .int h3_inside, .ref hpa, .ref hbb, .ref hbc, .int h3_bidCount, .int h3_seen, .int h3_spent])), (hpa, .inl (g.2.1 1, 8, .inl pa))]) rfl rfl ?_
  refine pz_aload_n 3 F rfl dX6_settle_45 rfl ?_
  refine pz_iload_n 1 F rfl dX6_settle_46 rfl ?_
  obtain ⟨h_13, vc⟩ := vc
  refine pz_callV (nA := 1) (ci := 0) (C := RX0) (T := TX0) (N := 8) (As := [.int wn]) (rest := []) (wr := [(h0, .inr (5, [.ref hs, .ref hc, .int lI, .int ou, .int he, .int ak, .int df, .int x_4])), (h5, .inr (2, [.ref h5_reader, .ref hi, .ref h5_draft, .ref h5_told, .int h5_faultFound, .int h5_faultPlace])), (hi, .inl (g.2.1 1, 12, .inl inf)), (h4, .inr (3, [.ref hp, .ref hd, .int sz])), (hp, .inl (g.2.1 1, 8, .inl pu2_11)), (hd, .inl (g.2.1 1, 8, .inl du2_10))]) F (ctX0_passAllTo _ g h3 wn h3_slices h3_inside hpa hbb hbc h3_bidCount h3_seen h3_spent pa h_13) 6 rfl rfl pw_558 pw_559 pw_560 pw_17 pw_561 (by decide +kernel) (by decide) (by decide) rfl rfl (Nat.le_of_ble_eq_true rfl) [6, 7] [0, 1, 2, 3, 4, 5] rfl rfl rfl rfl (by decide) dX6_settle_47 (fun r0 w0 hp0 => ?_)
  obtain ⟨pa2_14, rfl, rfl, hq_15⟩ := hp0
  replace vc := vc pa2_14 hq_15
  refine pz_eq (st' := []) (ws' := [(h0, .inr (5, [.ref hs, .ref hc, .int lI, .int ou, .int he, .int ak, .int df, .int x_4])), (h5, .inr (2, [.ref h5_reader, .ref hi, .ref h5_draft, .ref h5_told, .int h5_faultFound, .int h5_faultPlace])), (hi, .inl (g.2.1 1, 12, .inl inf)), (h4, .inr (3, [.ref hp, .ref hd, .int sz])), (hp, .inl (g.2.1 1, 8, .inl pu2_11)), (hd, .inl (g.2.1 1, 8, .inl du2_10)), (h3, .inr (0, [.int h3_slices, .int h3_inside, .ref hpa, .ref hbb, .ref hbc, .int h3_bidCount, .int h3_seen, .int h3_spent])), (hpa, .inl (g.2.1 1, 8, .inl pa2_14))]) rfl rfl ?_
  exact pz_return (w1 := [(h0, .inr (5, [.ref hs, .ref hc, .int lI, .int ou, .int he, .int ak, .int df, .int x_4])), (h4, .inr (3, [.ref hp, .ref hd, .int sz])), (hp, .inl (g.2.1 1, 8, .inl pu2_11)), (hd, .inl (g.2.1 1, 8, .inl du2_10)), (h3, .inr (0, [.int h3_slices, .int h3_inside, .ref hpa, .ref hbb, .ref hbc, .int h3_bidCount, .int h3_seen, .int h3_spent])), (hpa, .inl (g.2.1 1, 8, .inl pa2_14)), (h5, .inr (2, [.ref h5_reader, .ref hi, .ref h5_draft, .ref h5_told, .int h5_faultFound, .int h5_faultPlace])), (hi, .inl (g.2.1 1, 12, .inl inf))]) F Rt (by decide) (by decide) dX6_settle_50 [0, 3, 4, 5, 6, 7, 1, 2] rfl rfl vc
set_option maxHeartbeats 4000000 in
set_option maxRecDepth 100000 in
theorem ctX6_settle (l : Launch) (g : pz_G) (wn : Int32) (ak : Int32) (h0 : Nat) (hs : Nat) (hc : Nat) (lI : Int32) (ou : Int32) (he : Int32) (pc : Int32) (df : Int32) (tx : Int32) (h4 : Nat) (hp : Nat) (hd : Nat) (sz : Int32) (pu : Nat → Int32) (du : Nat → Int32) (h3 : Nat) (h3_slices : Int32) (h3_inside : Int32) (hpa : Nat) (hbb : Nat) (hbc : Nat) (h3_bidCount : Int32) (h3_seen : Int32) (h3_spent : Int32) (pa : Nat → Int32) (h5 : Nat) (h5_reader : Nat) (hi : Nat) (h5_draft : Nat) (h5_told : Nat) (h5_faultFound : Int32) (h5_faultPlace : Int32) (inf : Nat → Int32) (n : Nat) (v : Nat) (hpre : n ≤ 8 ∧ v < 8 ∧ sz = nI n ∧ wn = nI v) : pz_Ct l g yX6_settle cX6_settle 6 none rmX6_settle [.ref h0, .int wn, .int ak, .ref h3, .ref h4, .ref h5] [(h0, .inr (5, [.ref hs, .ref hc, .int lI, .int ou, .int he, .int pc, .int df, .int tx])), (h4, .inr (3, [.ref hp, .ref hd, .int sz])), (hp, .inl (g.2.1 1, 8, .inl pu)), (hd, .inl (g.2.1 1, 8, .inl du)), (h3, .inr (0, [.int h3_slices, .int h3_inside, .ref hpa, .ref hbb, .ref hbc, .int h3_bidCount, .int h3_seen, .int h3_spent])), (hpa, .inl (g.2.1 1, 8, .inl pa)), (h5, .inr (2, [.ref h5_reader, .ref hi, .ref h5_draft, .ref h5_told, .int h5_faultFound, .int h5_faultPlace])), (hi, .inl (g.2.1 1, 12, .inl inf))] (pz_pv (fun (u : Int32 × (Nat → Int32) × (Nat → Int32) × (Nat → Int32)) => u.1 = ak * inf 5 / 100 ∧ (∀ x, x < 8 → u.2.1 x = sa_give pa n (ak - ak * inf 5 / 100) (sa_pay pu v ak) x) ∧ (∀ x, x < 8 → u.2.2.2 x = if x = v then 16 else 0)) (fun (u : Int32 × (Nat → Int32) × (Nat → Int32) × (Nat → Int32)) => [(h0, .inr (5, [.ref hs, .ref hc, .int lI, .int ou, .int he, .int ak, .int df, .int u.1])), (h4, .inr (3, [.ref hp, .ref hd, .int sz])), (hp, .inl (g.2.1 1, 8, .inl u.2.1)), (hd, .inl (g.2.1 1, 8, .inl u.2.2.1)), (h3, .inr (0, [.int h3_slices, .int h3_inside, .ref hpa, .ref hbb, .ref hbc, .int h3_bidCount, .int h3_seen, .int h3_spent])), (hpa, .inl (g.2.1 1, 8, .inl u.2.2.2)), (h5, .inr (2, [.ref h5_reader, .ref hi, .ref h5_draft, .ref h5_told, .int h5_faultFound, .int h5_faultPlace])), (hi, .inl (g.2.1 1, 12, .inl inf))])) := by
  refine pz_ofAt (by decide +kernel) (Nat.le_of_ble_eq_true rfl) (fun B F Rt hme => ?_)
  obtain ⟨hn8, hv8, h1, h2⟩ := hpre
  subst h1; subst h2
  refine sgX6_settle_0 F Rt (nI v) ak h0 hs hc lI ou he pc df tx h4 hp hd (nI n) pu du h3 h3_slices h3_inside hpa hbb hbc h3_bidCount h3_seen h3_spent pa h5 h5_reader hi h5_draft h5_told h5_faultFound h5_faultPlace inf n v ?_
  refine ⟨by omega, ?_⟩
  rintro tx rfl t2 rfl
  rw [nI_clamp (by omega)]
  have hin : vp_in (nI v) 8 := vp_in_nI hv8 (by omega)
  refine ⟨hin, ?_⟩
  rintro x rfl
  refine ⟨hin, ?_⟩
  rintro f rfl
  refine ⟨⟨hn8, rfl⟩, fun du2 pu2 h => ⟨hin, fun pa2 hpa => ?_⟩⟩
  refine ⟨(_, _, _, _), rfl, rfl, rfl, fun x hx => ?_, fun x hx => ?_⟩
  · show pu2 x = _
    rw [h.2 x hx]
    rfl
  · show pa2 x = _
    rw [hpa x hx]
abbrev rmX6_forfeit : Room := { frames := 2, cells := 0, slots := 0, locals := 47 }
set_option maxHeartbeats 4000000 in
set_option maxRecDepth 100000 in
theorem sgX6_forfeit_0 {B : pz_B} {g : pz_G} {wc : va_W} {Post : Option Value → va_W → Prop} (F : pz_F B cX6_forfeit 6 none yX6_forfeit.cls g rmX6_forfeit) (Rt : pz_Rt B g wc Post rmX6_forfeit) (fi : Int32) (h0 : Nat) (hs : Nat) (hc : Nat) (lI : Int32) (ou : Int32) (he : Int32) (pc : Int32) (df : Int32) (tx : Int32) (bb : Nat → Int32) (co : Nat → Int32) (h4 : Nat) (hp : Nat) (hd : Nat) (sz : Int32) (pu : Nat → Int32) (du : Nat → Int32) (h3 : Nat) (h3_slices : Int32) (h3_inside : Int32) (hpa : Nat) (hbb : Nat) (hbc : Nat) (h3_bidCount : Int32) (h3_seen : Int32) (h3_spent : Int32) (pa : Nat → Int32) (h5 : Nat) (h5_reader : Nat) (hi : Nat) (h5_draft : Nat) (h5_told : Nat) (h5_faultFound : Int32) (h5_faultPlace : Int32) (inf : Nat → Int32) (n : Nat) (f : Nat)  (vc : vp_in fi 8 ∧ ∀ r_2 : Int32, ∀ _ : (r_2 = sa_dep inf (co fi.toNatClampNeg)), vp_in fi 8 ∧ vp_in (bb fi.toNatClampNeg) 8 ∧ ∀ x_6 : Int32, x_6 = ((pu (bb fi.toNatClampNeg).toNatClampNeg) - r_2) → vp_in (bb fi.toNatClampNeg) 8 ∧ ∀ f_8 : Nat → Int32, f_8 = upd pu (bb fi.toNatClampNeg).toNatClampNeg x_6 → (n ≤ 8 ∧ sz = nI n) ∧ ∀ du2_10 : Nat → Int32, ∀ pu2_11 : Nat → Int32, ∀ _ : ((∀ a, a < n → du2_10 a = dv_f pa n r_2 a) ∧ (∀ a, a < 8 → pu2_11 a = if a < n then f_8 a + dv_f pa n r_2 a else f_8 a)), ∀ x_13 : Int32, x_13 = (df + 1) → Post none [(h0, .inr (5, [.ref hs, .ref hc, .int lI, .int ou, .int he, .int pc, .int x_13, .int tx])), (hs, .inl (g.2.1 1, 8, .inl bb)), (hc, .inl (g.2.1 1, 8, .inl co)), (h4, .inr (3, [.ref hp, .ref hd, .int sz])), (hp, .inl (g.2.1 1, 8, .inl pu2_11)), (hd, .inl (g.2.1 1, 8, .inl du2_10)), (h3, .inr (0, [.int h3_slices, .int h3_inside, .ref hpa, .ref hbb, .ref hbc, .int h3_bidCount, .int h3_seen, .int h3_spent])), (hpa, .inl (g.2.1 1, 8, .inl pa)), (h5, .inr (2, [.ref h5_reader, .ref hi, .ref h5_draft, .ref h5_told, .int h5_faultFound, .int h5_faultPlace])), (hi, .inl (g.2.1 1, 12, .inl inf))]) : pz_At B 0 0 0 [(0, .ref h0), (1, .int fi), (2, .ref h3), (3, .ref h4), (4, .ref h5)] [] [(h0, .inr (5, [.ref hs, .ref hc, .int lI, .int ou, .int he, .int pc, .int df, .int tx])), (hs, .inl (g.2.1 1, 8, .inl bb)), (hc, .inl (g.2.1 1, 8, .inl co)), (h4, .inr (3, [.ref hp, .ref hd, .int sz])), (hp, .inl (g.2.1 1, 8, .inl pu)), (hd, .inl (g.2.1 1, 8, .inl du)), (h3, .inr (0, [.int h3_slices, .int h3_inside, .ref hpa, .ref hbb, .ref hbc, .int h3_bidCount, .int h3_seen, .int h3_spent])), (hpa, .inl (g.2.1 1, 8, .inl pa)), (h5, .inr (2, [.ref h5_reader, .ref hi, .ref h5_draft, .ref h5_told, .int h5_faultFound, .int h5_faultPlace])), (hi, .inl (g.2.1 1, 12, .inl inf))] := by
  refine pz_aload_n 0 F rfl dX6_forfeit_0 rfl ?_
  refine pz_get (ci := 5) (C := RX6) (T := TX6) (N := 8) (v := .ref hc) 0 F rfl rfl pz_inX6 1 (by decide) pw_185 rfl dX6_forfeit_1 ?_
  refine pz_iload_n 1 F rfl dX6_forfeit_4 rfl ?_
  obtain ⟨h_1, vc⟩ := vc
  refine pz_iaload 2 F rfl h_1 dX6_forfeit_5 ?_
  refine pz_aload 4 F rfl dX6_forfeit_6 ?_
  refine pz_callS (nA := 2) (As := [.int (co fi.toNatClampNeg), .ref h5]) (rest := []) (wr := [(h0, .inr (5, [.ref hs, .ref hc, .int lI, .int ou, .int he, .int pc, .int df, .int tx])), (hs, .inl (g.2.1 1, 8, .inl bb)), (hc, .inl (g.2.1 1, 8, .inl co)), (h4, .inr (3, [.ref hp, .ref hd, .int sz])), (hp, .inl (g.2.1 1, 8, .inl pu)), (hd, .inl (g.2.1 1, 8, .inl du)), (h3, .inr (0, [.int h3_slices, .int h3_inside, .ref hpa, .ref hbb, .ref hbc, .int h3_bidCount, .int h3_seen, .int h3_spent])), (hpa, .inl (g.2.1 1, 8, .inl pa))]) F (ctX6_depositOf _ g (co fi.toNatClampNeg) h5 h5_reader hi h5_draft h5_told h5_faultFound h5_faultPlace inf) pw_516 pw_517 pw_7 pw_518 (by decide +kernel) (by decide) (by decide) rfl rfl (Nat.le_of_ble_eq_true rfl) [8, 9] [0, 1, 2, 3, 4, 5, 6, 7] rfl rfl rfl rfl (by decide) dX6_forfeit_8 (fun r0 w0 hp0 => ?_)
  obtain ⟨r_2, _, rfl, rfl, hq_3⟩ := hp0
  replace vc := vc r_2  hq_3
  refine pz_eq (st' := [.int r_2]) (ws' := [(h0, .inr (5, [.ref hs, .ref hc, .int lI, .int ou, .int he, .int pc, .int df, .int tx])), (hs, .inl (g.2.1 1, 8, .inl bb)), (hc, .inl (g.2.1 1, 8, .inl co)), (h4, .inr (3, [.ref hp, .ref hd, .int sz])), (hp, .inl (g.2.1 1, 8, .inl pu)), (hd, .inl (g.2.1 1, 8, .inl du)), (h3, .inr (0, [.int h3_slices, .int h3_inside, .ref hpa, .ref hbb, .ref hbc, .int h3_bidCount, .int h3_seen, .int h3_spent])), (hpa, .inl (g.2.1 1, 8, .inl pa)), (h5, .inr (2, [.ref h5_reader, .ref hi, .ref h5_draft, .ref h5_told, .int h5_faultFound, .int h5_faultPlace])), (hi, .inl (g.2.1 1, 12, .inl inf))]) rfl rfl ?_
  refine pz_istore (lv' := [(5, .int r_2), (0, .ref h0), (1, .int fi), (2, .ref h3), (3, .ref h4), (4, .ref h5)]) F dX6_forfeit_11 (by decide) rfl ?_
  refine pz_aload_n 4 F rfl dX6_forfeit_13 rfl ?_
  refine pz_get (ci := 3) (C := RX4) (T := TX4) (N := 3) (v := .ref hp) 3 F rfl rfl pz_inX4 0 (by decide) pw_164 rfl dX6_forfeit_14 ?_
  refine pz_aload_n 1 F rfl dX6_forfeit_17 rfl ?_
  refine pz_get (ci := 5) (C := RX6) (T := TX6) (N := 8) (v := .ref hs) 0 F rfl rfl pz_inX6 0 (by decide) pw_184 rfl dX6_forfeit_18 ?_
  refine pz_iload_n 2 F rfl dX6_forfeit_21 rfl ?_
  obtain ⟨h_4, vc⟩ := vc
  refine pz_iaload 1 F rfl h_4 dX6_forfeit_22 ?_
  refine pz_dup2 F dX6_forfeit_23 rfl rfl ?_
  obtain ⟨h_5, vc⟩ := vc
  refine pz_iaload 4 F rfl h_5 dX6_forfeit_24 ?_
  refine pz_iload 0 F rfl dX6_forfeit_25 ?_
  refine pz_isub F dX6_forfeit_27 ?_
  refine pz_topi (fun x_6 ex_6 => ?_)
  replace vc := vc x_6 ex_6
  obtain ⟨h_7, vc⟩ := vc
  obtain ⟨f_8, ef_8⟩ : ∃ z : Nat → Int32, z = upd pu (bb fi.toNatClampNeg).toNatClampNeg x_6 := ⟨_, rfl⟩
  replace vc := vc f_8 ef_8
  refine pz_iastore (ws' := [(h0, .inr (5, [.ref hs, .ref hc, .int lI, .int ou, .int he, .int pc, .int df, .int tx])), (hs, .inl (g.2.1 1, 8, .inl bb)), (hc, .inl (g.2.1 1, 8, .inl co)), (h4, .inr (3, [.ref hp, .ref hd, .int sz])), (hp, .inl (g.2.1 1, 8, .inl f_8)), (hd, .inl (g.2.1 1, 8, .inl du)), (h3, .inr (0, [.int h3_slices, .int h3_inside, .ref hpa, .ref hbb, .ref hbc, .int h3_bidCount, .int h3_seen, .int h3_spent])), (hpa, .inl (g.2.1 1, 8, .inl pa)), (h5, .inr (2, [.ref h5_reader, .ref hi, .ref h5_draft, .ref h5_told, .int h5_faultFound, .int h5_faultPlace])), (hi, .inl (g.2.1 1, 12, .inl inf))]) F 4 rfl h_7 dX6_forfeit_28 (by rw [ef_8]; rfl) ?_
  refine pz_aload_n 4 F rfl dX6_forfeit_29 rfl ?_
  refine pz_aload_n 3 F rfl dX6_forfeit_30 rfl ?_
  refine pz_iload 0 F rfl dX6_forfeit_31 ?_
  obtain ⟨h_9, vc⟩ := vc
  refine pz_callV (nA := 2) (ci := 3) (C := RX4) (T := TX4) (N := 3) (As := [.ref h3, .int r_2]) (rest := []) (wr := [(h0, .inr (5, [.ref hs, .ref hc, .int lI, .int ou, .int he, .int pc, .int df, .int tx])), (hs, .inl (g.2.1 1, 8, .inl bb)), (hc, .inl (g.2.1 1, 8, .inl co)), (h5, .inr (2, [.ref h5_reader, .ref hi, .ref h5_draft, .ref h5_told, .int h5_faultFound, .int h5_faultPlace])), (hi, .inl (g.2.1 1, 12, .inl inf))]) F (ctX4_give _ g r_2 h4 hp hd sz f_8 du h3 h3_slices h3_inside hpa hbb hbc h3_bidCount h3_seen h3_spent pa n h_9) 3 rfl rfl pw_550 pw_551 pw_552 pw_6 pw_553 (by decide +kernel) (by decide) (by decide) rfl rfl (Nat.le_of_ble_eq_true rfl) [3, 4, 5, 6, 7] [0, 1, 2, 8, 9] rfl rfl rfl rfl (by decide) dX6_forfeit_33 (fun r0 w0 hp0 => ?_)
  obtain ⟨⟨du2_10, pu2_11⟩, rfl, rfl, hq_12⟩ := hp0
  replace vc := vc du2_10 pu2_11 hq_12
  refine pz_eq (st' := []) (ws' := [(h0, .inr (5, [.ref hs, .ref hc, .int lI, .int ou, .int he, .int pc, .int df, .int tx])), (hs, .inl (g.2.1 1, 8, .inl bb)), (hc, .inl (g.2.1 1, 8, .inl co)), (h5, .inr (2, [.ref h5_reader, .ref hi, .ref h5_draft, .ref h5_told, .int h5_faultFound, .int h5_faultPlace])), (hi, .inl (g.2.1 1, 12, .inl inf)), (h4, .inr (3, [.ref hp, .ref hd, .int sz])), (hp, .inl (g.2.1 1, 8, .inl pu2_11)), (hd, .inl (g.2.1 1, 8, .inl du2_10)), (h3, .inr (0, [.int h3_slices, .int h3_inside, .ref hpa, .ref hbb, .ref hbc, .int h3_bidCount, .int h3_seen, .int h3_spent])), (hpa, .inl (g.2.1 1, 8, .inl pa))]) rfl rfl ?_
  refine pz_aload_n 1 F rfl dX6_forfeit_36 rfl ?_
  refine pz_dup F dX6_forfeit_37 rfl ?_
  refine pz_get (ci := 5) (C := RX6) (T := TX6) (N := 8) (v := .int df) 0 F rfl rfl pz_inX6 6 (by decide) pw_190 rfl dX6_forfeit_38 ?_
  refine pz_iconst (v := 1) F dX6_forfeit_41 rfl ?_
  refine pz_iadd F dX6_forfeit_42 ?_
  refine pz_topi (fun x_13 ex_13 => ?_)
  replace vc := vc x_13 ex_13
  refine pz_put (ws' := [(h0, .inr (5, [.ref hs, .ref hc, .int lI, .int ou, .int he, .int pc, .int x_13, .int tx])), (hs, .inl (g.2.1 1, 8, .inl bb)), (hc, .inl (g.2.1 1, 8, .inl co)), (h5, .inr (2, [.ref h5_reader, .ref hi, .ref h5_draft, .ref h5_told, .int h5_faultFound, .int h5_faultPlace])), (hi, .inl (g.2.1 1, 12, .inl inf)), (h4, .inr (3, [.ref hp, .ref hd, .int sz])), (hp, .inl (g.2.1 1, 8, .inl pu2_11)), (hd, .inl (g.2.1 1, 8, .inl du2_10)), (h3, .inr (0, [.int h3_slices, .int h3_inside, .ref hpa, .ref hbb, .ref hbc, .int h3_bidCount, .int h3_seen, .int h3_spent])), (hpa, .inl (g.2.1 1, 8, .inl pa))]) (ci := 5) (C := RX6) (T := TX6) (N := 8) (v := .int x_13) (ty := .int) 0 F rfl rfl pz_inX6 6 (by decide) pw_190 tyX6_ok nmX6 rfl rfl rfl rfl (Nat.le_of_ble_eq_true rfl) dX6_forfeit_43 rfl ?_
  exact pz_return (w1 := [(h0, .inr (5, [.ref hs, .ref hc, .int lI, .int ou, .int he, .int pc, .int x_13, .int tx])), (hs, .inl (g.2.1 1, 8, .inl bb)), (hc, .inl (g.2.1 1, 8, .inl co)), (h4, .inr (3, [.ref hp, .ref hd, .int sz])), (hp, .inl (g.2.1 1, 8, .inl pu2_11)), (hd, .inl (g.2.1 1, 8, .inl du2_10)), (h3, .inr (0, [.int h3_slices, .int h3_inside, .ref hpa, .ref hbb, .ref hbc, .int h3_bidCount, .int h3_seen, .int h3_spent])), (hpa, .inl (g.2.1 1, 8, .inl pa)), (h5, .inr (2, [.ref h5_reader, .ref hi, .ref h5_draft, .ref h5_told, .int h5_faultFound, .int h5_faultPlace])), (hi, .inl (g.2.1 1, 12, .inl inf))]) F Rt (by decide) (by decide) dX6_forfeit_46 [0, 1, 2, 5, 6, 7, 8, 9, 3, 4] rfl rfl vc
set_option maxHeartbeats 4000000 in
set_option maxRecDepth 100000 in
theorem ctX6_forfeit (l : Launch) (g : pz_G) (fi : Int32) (h0 : Nat) (hs : Nat) (hc : Nat) (lI : Int32) (ou : Int32) (he : Int32) (pc : Int32) (df : Int32) (tx : Int32) (bb : Nat → Int32) (co : Nat → Int32) (h4 : Nat) (hp : Nat) (hd : Nat) (sz : Int32) (pu : Nat → Int32) (du : Nat → Int32) (h3 : Nat) (h3_slices : Int32) (h3_inside : Int32) (hpa : Nat) (hbb : Nat) (hbc : Nat) (h3_bidCount : Int32) (h3_seen : Int32) (h3_spent : Int32) (pa : Nat → Int32) (h5 : Nat) (h5_reader : Nat) (hi : Nat) (h5_draft : Nat) (h5_told : Nat) (h5_faultFound : Int32) (h5_faultPlace : Int32) (inf : Nat → Int32) (n : Nat) (f : Nat) (hpre : n ≤ 8 ∧ f < 8 ∧ vp_in (bb f) 8 ∧ sz = nI n ∧ fi = nI f) : pz_Ct l g yX6_forfeit cX6_forfeit 6 none rmX6_forfeit [.ref h0, .int fi, .ref h3, .ref h4, .ref h5] [(h0, .inr (5, [.ref hs, .ref hc, .int lI, .int ou, .int he, .int pc, .int df, .int tx])), (hs, .inl (g.2.1 1, 8, .inl bb)), (hc, .inl (g.2.1 1, 8, .inl co)), (h4, .inr (3, [.ref hp, .ref hd, .int sz])), (hp, .inl (g.2.1 1, 8, .inl pu)), (hd, .inl (g.2.1 1, 8, .inl du)), (h3, .inr (0, [.int h3_slices, .int h3_inside, .ref hpa, .ref hbb, .ref hbc, .int h3_bidCount, .int h3_seen, .int h3_spent])), (hpa, .inl (g.2.1 1, 8, .inl pa)), (h5, .inr (2, [.ref h5_reader, .ref hi, .ref h5_draft, .ref h5_told, .int h5_faultFound, .int h5_faultPlace])), (hi, .inl (g.2.1 1, 12, .inl inf))] (pz_pv (fun (u : (Nat → Int32) × (Nat → Int32)) => ∀ x, x < 8 → u.1 x = sa_give pa n (sa_dep inf (co f)) (sa_pay pu (bb f).toNatClampNeg (sa_dep inf (co f))) x) (fun (u : (Nat → Int32) × (Nat → Int32)) => [(h0, .inr (5, [.ref hs, .ref hc, .int lI, .int ou, .int he, .int pc, .int (df + 1), .int tx])), (hs, .inl (g.2.1 1, 8, .inl bb)), (hc, .inl (g.2.1 1, 8, .inl co)), (h4, .inr (3, [.ref hp, .ref hd, .int sz])), (hp, .inl (g.2.1 1, 8, .inl u.1)), (hd, .inl (g.2.1 1, 8, .inl u.2)), (h3, .inr (0, [.int h3_slices, .int h3_inside, .ref hpa, .ref hbb, .ref hbc, .int h3_bidCount, .int h3_seen, .int h3_spent])), (hpa, .inl (g.2.1 1, 8, .inl pa)), (h5, .inr (2, [.ref h5_reader, .ref hi, .ref h5_draft, .ref h5_told, .int h5_faultFound, .int h5_faultPlace])), (hi, .inl (g.2.1 1, 12, .inl inf))])) := by
  refine pz_ofAt (by decide +kernel) (Nat.le_of_ble_eq_true rfl) (fun B F Rt hme => ?_)
  obtain ⟨hn8, hf8, hin, h1, h2⟩ := hpre
  subst h1; subst h2
  refine sgX6_forfeit_0 F Rt (nI f) h0 hs hc lI ou he pc df tx bb co h4 hp hd (nI n) pu du h3 h3_slices h3_inside hpa hbb hbc h3_bidCount h3_seen h3_spent pa h5 h5_reader hi h5_draft h5_told h5_faultFound h5_faultPlace inf n f ?_
  rw [nI_clamp (by omega)]
  have hif : vp_in (nI f) 8 := vp_in_nI hf8 (by omega)
  refine ⟨hif, ?_⟩
  rintro r rfl
  refine ⟨hif, hin, ?_⟩
  rintro x rfl
  refine ⟨hin, ?_⟩
  rintro f1 rfl
  refine ⟨⟨hn8, rfl⟩, fun du2 pu2 h => ?_⟩
  rintro y rfl
  refine ⟨(_, _), rfl, rfl, fun x hx => ?_⟩
  show pu2 x = _
  rw [h.2 x hx]
  rfl
abbrev rmX6_rankBids : Room := { frames := 2, cells := 0, slots := 0, locals := 42 }
abbrev paX6_rankBids_13 (B : pz_B) (g : pz_G) (h0 : Nat) (hs : Nat) (hc : Nat) (lI : Int32) (ou : Int32) (he : Int32) (pc : Int32) (df : Int32) (tx : Int32) (bb : Nat → Int32) (co : Nat → Int32) (h3 : Nat) (h3_slices : Int32) (h3_inside : Int32) (hpa : Nat) (hbb : Nat) (hbc : Nat) (cnt : Int32) (h3_seen : Int32) (h3_spent : Int32) (bd : Nat → Int32) (bc : Nat → Int32) (pa : Nat → Int32) (h4 : Nat) (hp : Nat) (hd : Nat) (sz : Int32) (pu : Nat → Int32) (h5 : Nat) (h5_reader : Nat) (hi : Nat) (h5_draft : Nat) (h5_told : Nat) (h5_faultFound : Int32) (h5_faultPlace : Int32) (inf : Nat → Int32) (b : Nat) (i : Int32) (l1 : Int32) (o1 : Int32) (b1 : Nat → Int32) (c1 : Nat → Int32) : Prop := pz_At B 0 0 13 [(0, .ref h0), (1, .ref h3), (2, .ref h4), (3, .ref h5), (4, .int i)] [] [(h0, .inr (5, [.ref hs, .ref hc, .int l1, .int o1, .int he, .int pc, .int df, .int tx])), (hs, .inl (g.2.1 1, 8, .inl b1)), (hc, .inl (g.2.1 1, 8, .inl c1)), (h3, .inr (0, [.int h3_slices, .int h3_inside, .ref hpa, .ref hbb, .ref hbc, .int cnt, .int h3_seen, .int h3_spent])), (hbb, .inl (g.2.1 1, 8, .inl bd)), (hbc, .inl (g.2.1 1, 8, .inl bc)), (hpa, .inl (g.2.1 1, 8, .inl pa)), (h4, .inr (3, [.ref hp, .ref hd, .int sz])), (hp, .inl (g.2.1 1, 8, .inl pu)), (h5, .inr (2, [.ref h5_reader, .ref hi, .ref h5_draft, .ref h5_told, .int h5_faultFound, .int h5_faultPlace])), (hi, .inl (g.2.1 1, 12, .inl inf))]
set_option maxHeartbeats 4000000 in
set_option maxRecDepth 100000 in
theorem sgX6_rankBids_0 {B : pz_B} {g : pz_G} {wc : va_W} {Post : Option Value → va_W → Prop} (F : pz_F B cX6_rankBids 8 none yX6_rankBids.cls g rmX6_rankBids) (Rt : pz_Rt B g wc Post rmX6_rankBids) (h0 : Nat) (hs : Nat) (hc : Nat) (lI : Int32) (ou : Int32) (he : Int32) (pc : Int32) (df : Int32) (tx : Int32) (bb : Nat → Int32) (co : Nat → Int32) (h3 : Nat) (h3_slices : Int32) (h3_inside : Int32) (hpa : Nat) (hbb : Nat) (hbc : Nat) (cnt : Int32) (h3_seen : Int32) (h3_spent : Int32) (bd : Nat → Int32) (bc : Nat → Int32) (pa : Nat → Int32) (h4 : Nat) (hp : Nat) (hd : Nat) (sz : Int32) (pu : Nat → Int32) (h5 : Nat) (h5_reader : Nat) (hi : Nat) (h5_draft : Nat) (h5_told : Nat) (h5_faultFound : Int32) (h5_faultPlace : Int32) (inf : Nat → Int32) (b : Nat) (T13 : Int32 → Int32 → Int32 → (Nat → Int32) → (Nat → Int32) → Prop) (hT13 : ∀ (i : Int32) (l1 : Int32) (o1 : Int32) (b1 : Nat → Int32) (c1 : Nat → Int32), T13 i l1 o1 b1 c1 → paX6_rankBids_13 B g h0 hs hc lI ou he pc df tx bb co h3 h3_slices h3_inside hpa hbb hbc cnt h3_seen h3_spent bd bc pa h4 hp hd sz pu h5 h5_reader hi h5_draft h5_told h5_faultFound h5_faultPlace inf b i l1 o1 b1 c1)  (vc : T13 0 0 0 bb co) : pz_At B 0 0 0 [(0, .ref h0), (1, .ref h3), (2, .ref h4), (3, .ref h5)] [] [(h0, .inr (5, [.ref hs, .ref hc, .int lI, .int ou, .int he, .int pc, .int df, .int tx])), (hs, .inl (g.2.1 1, 8, .inl bb)), (hc, .inl (g.2.1 1, 8, .inl co)), (h3, .inr (0, [.int h3_slices, .int h3_inside, .ref hpa, .ref hbb, .ref hbc, .int cnt, .int h3_seen, .int h3_spent])), (hbb, .inl (g.2.1 1, 8, .inl bd)), (hbc, .inl (g.2.1 1, 8, .inl bc)), (hpa, .inl (g.2.1 1, 8, .inl pa)), (h4, .inr (3, [.ref hp, .ref hd, .int sz])), (hp, .inl (g.2.1 1, 8, .inl pu)), (h5, .inr (2, [.ref h5_reader, .ref hi, .ref h5_draft, .ref h5_told, .int h5_faultFound, .int h5_faultPlace])), (hi, .inl (g.2.1 1, 12, .inl inf))] := by
  refine pz_aload_n 0 F rfl dX6_rankBids_0 rfl ?_
  refine pz_iconst (v := 0) F dX6_rankBids_1 rfl ?_
  refine pz_put (ws' := [(h0, .inr (5, [.ref hs, .ref hc, .int 0, .int ou, .int he, .int pc, .int df, .int tx])), (hs, .inl (g.2.1 1, 8, .inl bb)), (hc, .inl (g.2.1 1, 8, .inl co)), (h3, .inr (0, [.int h3_slices, .int h3_inside, .ref hpa, .ref hbb, .ref hbc, .int cnt, .int h3_seen, .int h3_spent])), (hbb, .inl (g.2.1 1, 8, .inl bd)), (hbc, .inl (g.2.1 1, 8, .inl bc)), (hpa, .inl (g.2.1 1, 8, .inl pa)), (h4, .inr (3, [.ref hp, .ref hd, .int sz])), (hp, .inl (g.2.1 1, 8, .inl pu)), (h5, .inr (2, [.ref h5_reader, .ref hi, .ref h5_draft, .ref h5_told, .int h5_faultFound, .int h5_faultPlace])), (hi, .inl (g.2.1 1, 12, .inl inf))]) (ci := 5) (C := RX6) (T := TX6) (N := 8) (v := .int 0) (ty := .int) 0 F rfl rfl pz_inX6 2 (by decide) pw_186 tyX6_ok nmX6 rfl rfl rfl rfl (Nat.le_of_ble_eq_true rfl) dX6_rankBids_2 rfl ?_
  refine pz_aload_n 0 F rfl dX6_rankBids_5 rfl ?_
  refine pz_iconst (v := 0) F dX6_rankBids_6 rfl ?_
  refine pz_put (ws' := [(h0, .inr (5, [.ref hs, .ref hc, .int 0, .int 0, .int he, .int pc, .int df, .int tx])), (hs, .inl (g.2.1 1, 8, .inl bb)), (hc, .inl (g.2.1 1, 8, .inl co)), (h3, .inr (0, [.int h3_slices, .int h3_inside, .ref hpa, .ref hbb, .ref hbc, .int cnt, .int h3_seen, .int h3_spent])), (hbb, .inl (g.2.1 1, 8, .inl bd)), (hbc, .inl (g.2.1 1, 8, .inl bc)), (hpa, .inl (g.2.1 1, 8, .inl pa)), (h4, .inr (3, [.ref hp, .ref hd, .int sz])), (hp, .inl (g.2.1 1, 8, .inl pu)), (h5, .inr (2, [.ref h5_reader, .ref hi, .ref h5_draft, .ref h5_told, .int h5_faultFound, .int h5_faultPlace])), (hi, .inl (g.2.1 1, 12, .inl inf))]) (ci := 5) (C := RX6) (T := TX6) (N := 8) (v := .int 0) (ty := .int) 0 F rfl rfl pz_inX6 3 (by decide) pw_187 tyX6_ok nmX6 rfl rfl rfl rfl (Nat.le_of_ble_eq_true rfl) dX6_rankBids_7 rfl ?_
  refine pz_iconst (v := 0) F dX6_rankBids_10 rfl ?_
  refine pz_istore (lv' := [(4, .int 0), (0, .ref h0), (1, .ref h3), (2, .ref h4), (3, .ref h5)]) F dX6_rankBids_11 (by decide) rfl ?_
  exact pz_sub [1, 2, 3, 4, 0] [0, 1, 2, 3, 4, 5, 6, 7, 8, 9, 10] rfl rfl rfl (hT13 0 0 0 bb co vc)
set_option maxHeartbeats 4000000 in
set_option maxRecDepth 100000 in
theorem sgX6_rankBids_13 {B : pz_B} {g : pz_G} {wc : va_W} {Post : Option Value → va_W → Prop} (F : pz_F B cX6_rankBids 8 none yX6_rankBids.cls g rmX6_rankBids) (Rt : pz_Rt B g wc Post rmX6_rankBids) (h0 : Nat) (hs : Nat) (hc : Nat) (lI : Int32) (ou : Int32) (he : Int32) (pc : Int32) (df : Int32) (tx : Int32) (bb : Nat → Int32) (co : Nat → Int32) (h3 : Nat) (h3_slices : Int32) (h3_inside : Int32) (hpa : Nat) (hbb : Nat) (hbc : Nat) (cnt : Int32) (h3_seen : Int32) (h3_spent : Int32) (bd : Nat → Int32) (bc : Nat → Int32) (pa : Nat → Int32) (h4 : Nat) (hp : Nat) (hd : Nat) (sz : Int32) (pu : Nat → Int32) (h5 : Nat) (h5_reader : Nat) (hi : Nat) (h5_draft : Nat) (h5_told : Nat) (h5_faultFound : Int32) (h5_faultPlace : Int32) (inf : Nat → Int32) (b : Nat) (T13 : Int32 → Int32 → Int32 → (Nat → Int32) → (Nat → Int32) → Prop) (hT13 : ∀ (i : Int32) (l1 : Int32) (o1 : Int32) (b1 : Nat → Int32) (c1 : Nat → Int32), T13 i l1 o1 b1 c1 → paX6_rankBids_13 B g h0 hs hc lI ou he pc df tx bb co h3 h3_slices h3_inside hpa hbb hbc cnt h3_seen h3_spent bd bc pa h4 hp hd sz pu h5 h5_reader hi h5_draft h5_told h5_faultFound h5_faultPlace inf b i l1 o1 b1 c1) (i : Int32) (l1 : Int32) (o1 : Int32) (b1 : Nat → Int32) (c1 : Nat → Int32) (vc : ((cnt ≤ i → Post none [(h0, .inr (5, [.ref hs, .ref hc, .int l1, .int o1, .int he, .int pc, .int df, .int tx])), (hs, .inl (g.2.1 1, 8, .inl b1)), (hc, .inl (g.2.1 1, 8, .inl c1)), (h3, .inr (0, [.int h3_slices, .int h3_inside, .ref hpa, .ref hbb, .ref hbc, .int cnt, .int h3_seen, .int h3_spent])), (hbb, .inl (g.2.1 1, 8, .inl bd)), (hbc, .inl (g.2.1 1, 8, .inl bc)), (hpa, .inl (g.2.1 1, 8, .inl pa)), (h4, .inr (3, [.ref hp, .ref hd, .int sz])), (hp, .inl (g.2.1 1, 8, .inl pu)), (h5, .inr (2, [.ref h5_reader, .ref hi, .ref h5_draft, .ref h5_told, .int h5_faultFound, .int h5_faultPlace])), (hi, .inl (g.2.1 1, 12, .inl inf))]) ∧ (¬ cnt ≤ i → vp_in i 8 ∧ ∀ x_3 : Int32, x_3 = (bd i.toNatClampNeg) → vp_in i 8 ∧ ∀ x_5 : Int32, x_5 = (bc i.toNatClampNeg) → (4 < 9) ∧ ∀ r_7 : Int32, ∀ _ : (r_7 = inf 4), ((x_5 < r_7 → (((1 : Int32) = 0 → ∃ n_11 : Nat, (n_11 < 8 ∧ l1 = nI n_11) ∧ ∀ bb2_13 : Nat → Int32, ∀ co2_14 : Nat → Int32, ∀ _ : (∃ p, p ≤ n_11 ∧ (p = 0 ∨ ¬ c1 (p - 1) < x_5) ∧ (∀ a, p ≤ a → a < n_11 → c1 a < x_5) ∧ (∀ a, a < p → co2_14 a = c1 a ∧ bb2_13 a = b1 a) ∧ co2_14 p = x_5 ∧ bb2_13 p = x_3 ∧ (∀ a, p < a → a ≤ n_11 → co2_14 a = c1 (a - 1) ∧ bb2_13 a = b1 (a - 1))), ∀ x_16 : Int32, x_16 = i + 1 → T13 x_16 (nI (n_11 + 1)) o1 bb2_13 co2_14) ∧ (¬ (1 : Int32) = 0 → ∀ x_17 : Int32, x_17 = (o1 + 1) → ∀ x_18 : Int32, x_18 = i + 1 → T13 x_18 l1 x_17 b1 c1))) ∧ (¬ x_5 < r_7 → vp_in x_3 8 ∧ (((0 : Int32) < (pa x_3.toNatClampNeg) → (((1 : Int32) = 0 → ∃ n_22 : Nat, (n_22 < 8 ∧ l1 = nI n_22) ∧ ∀ bb2_24 : Nat → Int32, ∀ co2_25 : Nat → Int32, ∀ _ : (∃ p, p ≤ n_22 ∧ (p = 0 ∨ ¬ c1 (p - 1) < x_5) ∧ (∀ a, p ≤ a → a < n_22 → c1 a < x_5) ∧ (∀ a, a < p → co2_25 a = c1 a ∧ bb2_24 a = b1 a) ∧ co2_25 p = x_5 ∧ bb2_24 p = x_3 ∧ (∀ a, p < a → a ≤ n_22 → co2_25 a = c1 (a - 1) ∧ bb2_24 a = b1 (a - 1))), ∀ x_27 : Int32, x_27 = i + 1 → T13 x_27 (nI (n_22 + 1)) o1 bb2_24 co2_25) ∧ (¬ (1 : Int32) = 0 → ∀ x_28 : Int32, x_28 = (o1 + 1) → ∀ x_29 : Int32, x_29 = i + 1 → T13 x_29 l1 x_28 b1 c1))) ∧ (¬ (0 : Int32) < (pa x_3.toNatClampNeg) → vp_in x_3 8 ∧ ∀ r_31 : Int32, ∀ _ : (r_31 = sa_dep inf x_5), ((r_31 ≤ (pu x_3.toNatClampNeg) → (((0 : Int32) = 0 → ∃ n_35 : Nat, (n_35 < 8 ∧ l1 = nI n_35) ∧ ∀ bb2_37 : Nat → Int32, ∀ co2_38 : Nat → Int32, ∀ _ : (∃ p, p ≤ n_35 ∧ (p = 0 ∨ ¬ c1 (p - 1) < x_5) ∧ (∀ a, p ≤ a → a < n_35 → c1 a < x_5) ∧ (∀ a, a < p → co2_38 a = c1 a ∧ bb2_37 a = b1 a) ∧ co2_38 p = x_5 ∧ bb2_37 p = x_3 ∧ (∀ a, p < a → a ≤ n_35 → co2_38 a = c1 (a - 1) ∧ bb2_37 a = b1 (a - 1))), ∀ x_40 : Int32, x_40 = i + 1 → T13 x_40 (nI (n_35 + 1)) o1 bb2_37 co2_38) ∧ (¬ (0 : Int32) = 0 → ∀ x_41 : Int32, x_41 = (o1 + 1) → ∀ x_42 : Int32, x_42 = i + 1 → T13 x_42 l1 x_41 b1 c1))) ∧ (¬ r_31 ≤ (pu x_3.toNatClampNeg) → (((1 : Int32) = 0 → ∃ n_44 : Nat, (n_44 < 8 ∧ l1 = nI n_44) ∧ ∀ bb2_46 : Nat → Int32, ∀ co2_47 : Nat → Int32, ∀ _ : (∃ p, p ≤ n_44 ∧ (p = 0 ∨ ¬ c1 (p - 1) < x_5) ∧ (∀ a, p ≤ a → a < n_44 → c1 a < x_5) ∧ (∀ a, a < p → co2_47 a = c1 a ∧ bb2_46 a = b1 a) ∧ co2_47 p = x_5 ∧ bb2_46 p = x_3 ∧ (∀ a, p < a → a ≤ n_44 → co2_47 a = c1 (a - 1) ∧ bb2_46 a = b1 (a - 1))), ∀ x_49 : Int32, x_49 = i + 1 → T13 x_49 (nI (n_44 + 1)) o1 bb2_46 co2_47) ∧ (¬ (1 : Int32) = 0 → ∀ x_50 : Int32, x_50 = (o1 + 1) → ∀ x_51 : Int32, x_51 = i + 1 → T13 x_51 l1 x_50 b1 c1))))))))))) : pz_At B 0 0 13 [(0, .ref h0), (1, .ref h3), (2, .ref h4), (3, .ref h5), (4, .int i)] [] [(h0, .inr (5, [.ref hs, .ref hc, .int l1, .int o1, .int he, .int pc, .int df, .int tx])), (hs, .inl (g.2.1 1, 8, .inl b1)), (hc, .inl (g.2.1 1, 8, .inl c1)), (h3, .inr (0, [.int h3_slices, .int h3_inside, .ref hpa, .ref hbb, .ref hbc, .int cnt, .int h3_seen, .int h3_spent])), (hbb, .inl (g.2.1 1, 8, .inl bd)), (hbc, .inl (g.2.1 1, 8, .inl bc)), (hpa, .inl (g.2.1 1, 8, .inl pa)), (h4, .inr (3, [.ref hp, .ref hd, .int sz])), (hp, .inl (g.2.1 1, 8, .inl pu)), (h5, .inr (2, [.ref h5_reader, .ref hi, .ref h5_draft, .ref h5_told, .int h5_faultFound, .int h5_faultPlace])), (hi, .inl (g.2.1 1, 12, .inl inf))] := by
  refine pz_iload 4 F rfl dX6_rankBids_13 ?_
  refine pz_aload_n 1 F rfl dX6_rankBids_15 rfl ?_
  refine pz_get (ci := 0) (C := RX0) (T := TX0) (N := 8) (v := .int cnt) 3 F rfl rfl pz_inX0 5 (by decide) pw_452 rfl dX6_rankBids_16 ?_
  refine pz_icmp_ge (tgt := 117) F dX6_rankBids_19 (by decide) (fun q_1 => ?_) (fun q_1 => ?_)
  · replace vc := vc.1 q_1
    exact pz_return (w1 := [(h0, .inr (5, [.ref hs, .ref hc, .int l1, .int o1, .int he, .int pc, .int df, .int tx])), (hs, .inl (g.2.1 1, 8, .inl b1)), (hc, .inl (g.2.1 1, 8, .inl c1)), (h3, .inr (0, [.int h3_slices, .int h3_inside, .ref hpa, .ref hbb, .ref hbc, .int cnt, .int h3_seen, .int h3_spent])), (hbb, .inl (g.2.1 1, 8, .inl bd)), (hbc, .inl (g.2.1 1, 8, .inl bc)), (hpa, .inl (g.2.1 1, 8, .inl pa)), (h4, .inr (3, [.ref hp, .ref hd, .int sz])), (hp, .inl (g.2.1 1, 8, .inl pu)), (h5, .inr (2, [.ref h5_reader, .ref hi, .ref h5_draft, .ref h5_told, .int h5_faultFound, .int h5_faultPlace])), (hi, .inl (g.2.1 1, 12, .inl inf))]) F Rt (by decide) (by decide) dX6_rankBids_117 [0, 1, 2, 3, 4, 5, 6, 7, 8, 9, 10] rfl rfl vc
  · replace vc := vc.2 q_1
    refine pz_aload_n 1 F rfl dX6_rankBids_22 rfl ?_
    refine pz_get (ci := 0) (C := RX0) (T := TX0) (N := 8) (v := .ref hbb) 3 F rfl rfl pz_inX0 3 (by decide) pw_449 rfl dX6_rankBids_23 ?_
    refine pz_iload 4 F rfl dX6_rankBids_26 ?_
    obtain ⟨h_2, vc⟩ := vc
    refine pz_iaload 4 F rfl h_2 dX6_rankBids_28 ?_
    refine pz_topi (fun x_3 ex_3 => ?_)
    replace vc := vc x_3 ex_3
    refine pz_istore (lv' := [(5, .int x_3), (0, .ref h0), (1, .ref h3), (2, .ref h4), (3, .ref h5), (4, .int i)]) F dX6_rankBids_29 (by decide) rfl ?_
    refine pz_aload_n 2 F rfl dX6_rankBids_31 rfl ?_
    refine pz_get (ci := 0) (C := RX0) (T := TX0) (N := 8) (v := .ref hbc) 3 F rfl rfl pz_inX0 4 (by decide) pw_451 rfl dX6_rankBids_32 ?_
    refine pz_iload 5 F rfl dX6_rankBids_35 ?_
    obtain ⟨h_4, vc⟩ := vc
    refine pz_iaload 5 F rfl h_4 dX6_rankBids_37 ?_
    refine pz_topi (fun x_5 ex_5 => ?_)
    replace vc := vc x_5 ex_5
    refine pz_istore (lv' := [(6, .int x_5), (5, .int x_3), (0, .ref h0), (1, .ref h3), (2, .ref h4), (3, .ref h5), (4, .int i)]) F dX6_rankBids_38 (by decide) rfl ?_
    refine pz_iload 0 F rfl dX6_rankBids_40 ?_
    refine pz_aload_n 5 F rfl dX6_rankBids_42 rfl ?_
    refine pz_gets F (pz_line F (i := 4) (by decide)) pw_510 dX6_rankBids_43 ?_
    obtain ⟨h_6, vc⟩ := vc
    refine pz_callV (nA := 1) (ci := 2) (C := RX2) (T := TX2) (N := 6) (As := [.ref (g.2.2 4)]) (rest := [.int x_5]) (wr := [(h0, .inr (5, [.ref hs, .ref hc, .int l1, .int o1, .int he, .int pc, .int df, .int tx])), (hs, .inl (g.2.1 1, 8, .inl b1)), (hc, .inl (g.2.1 1, 8, .inl c1)), (h3, .inr (0, [.int h3_slices, .int h3_inside, .ref hpa, .ref hbb, .ref hbc, .int cnt, .int h3_seen, .int h3_spent])), (hbb, .inl (g.2.1 1, 8, .inl bd)), (hbc, .inl (g.2.1 1, 8, .inl bc)), (hpa, .inl (g.2.1 1, 8, .inl pa)), (h4, .inr (3, [.ref hp, .ref hd, .int sz])), (hp, .inl (g.2.1 1, 8, .inl pu))]) F (ctX2_coins _ g h5 4 h5_reader hi h5_draft h5_told h5_faultFound h5_faultPlace inf h_6) 9 rfl rfl pw_512 pw_513 pw_514 pw_3 pw_515 (by decide +kernel) (by decide) (by decide) rfl rfl (Nat.le_of_ble_eq_true rfl) [9, 10] [0, 1, 2, 3, 4, 5, 6, 7, 8] rfl rfl rfl rfl (by decide) dX6_rankBids_46 (fun r0 w0 hp0 => ?_)
    obtain ⟨r_7, _, rfl, rfl, hq_8⟩ := hp0
    replace vc := vc r_7  hq_8
    refine pz_eq (st' := [.int r_7, .int x_5]) (ws' := [(h0, .inr (5, [.ref hs, .ref hc, .int l1, .int o1, .int he, .int pc, .int df, .int tx])), (hs, .inl (g.2.1 1, 8, .inl b1)), (hc, .inl (g.2.1 1, 8, .inl c1)), (h3, .inr (0, [.int h3_slices, .int h3_inside, .ref hpa, .ref hbb, .ref hbc, .int cnt, .int h3_seen, .int h3_spent])), (hbb, .inl (g.2.1 1, 8, .inl bd)), (hbc, .inl (g.2.1 1, 8, .inl bc)), (hpa, .inl (g.2.1 1, 8, .inl pa)), (h4, .inr (3, [.ref hp, .ref hd, .int sz])), (hp, .inl (g.2.1 1, 8, .inl pu)), (h5, .inr (2, [.ref h5_reader, .ref hi, .ref h5_draft, .ref h5_told, .int h5_faultFound, .int h5_faultPlace])), (hi, .inl (g.2.1 1, 12, .inl inf))]) rfl rfl ?_
    refine pz_icmp_lt (tgt := 78) F dX6_rankBids_49 (by decide) (fun q_9 => ?_) (fun q_9 => ?_)
    · replace vc := vc.1 q_9
      refine pz_iconst (v := 1) F dX6_rankBids_78 rfl ?_
      refine pz_goto (tgt := 83) F dX6_rankBids_79 (by decide) ?_
      refine pz_istore (lv' := [(7, .int 1), (6, .int x_5), (5, .int x_3), (0, .ref h0), (1, .ref h3), (2, .ref h4), (3, .ref h5), (4, .int i)]) F dX6_rankBids_83 (by decide) rfl ?_
      refine pz_iload 0 F rfl dX6_rankBids_85 ?_
      refine pz_if_eq (tgt := 103) F dX6_rankBids_87 (by decide) (fun q_10 => ?_) (fun q_10 => ?_)
      · replace vc := vc.1 q_10
        refine pz_aload_n 3 F rfl dX6_rankBids_103 rfl ?_
        refine pz_iload 2 F rfl dX6_rankBids_104 ?_
        refine pz_iload 1 F rfl dX6_rankBids_106 ?_
        obtain ⟨n_11, vc⟩ := vc
        obtain ⟨h_12, vc⟩ := vc
        refine pz_callV (nA := 2) (ci := 5) (C := RX6) (T := TX6) (N := 8) (As := [.int x_3, .int x_5]) (rest := []) (wr := [(h3, .inr (0, [.int h3_slices, .int h3_inside, .ref hpa, .ref hbb, .ref hbc, .int cnt, .int h3_seen, .int h3_spent])), (hbb, .inl (g.2.1 1, 8, .inl bd)), (hbc, .inl (g.2.1 1, 8, .inl bc)), (hpa, .inl (g.2.1 1, 8, .inl pa)), (h4, .inr (3, [.ref hp, .ref hd, .int sz])), (hp, .inl (g.2.1 1, 8, .inl pu)), (h5, .inr (2, [.ref h5_reader, .ref hi, .ref h5_draft, .ref h5_told, .int h5_faultFound, .int h5_faultPlace])), (hi, .inl (g.2.1 1, 12, .inl inf))]) F (ctX6_rank _ g x_3 x_5 h0 hs hc l1 o1 he pc df tx b1 c1 n_11 h_12) 0 rfl rfl pw_521 pw_523 pv_15 pw_7 pw_524 (by decide +kernel) (by decide) (by decide) rfl rfl (Nat.le_of_ble_eq_true rfl) [0, 1, 2] [3, 4, 5, 6, 7, 8, 9, 10] rfl rfl rfl rfl (by decide) dX6_rankBids_108 (fun r0 w0 hp0 => ?_)
        obtain ⟨⟨bb2_13, co2_14⟩, rfl, rfl, hq_15⟩ := hp0
        replace vc := vc bb2_13 co2_14 hq_15
        refine pz_eq (st' := []) (ws' := [(h3, .inr (0, [.int h3_slices, .int h3_inside, .ref hpa, .ref hbb, .ref hbc, .int cnt, .int h3_seen, .int h3_spent])), (hbb, .inl (g.2.1 1, 8, .inl bd)), (hbc, .inl (g.2.1 1, 8, .inl bc)), (hpa, .inl (g.2.1 1, 8, .inl pa)), (h4, .inr (3, [.ref hp, .ref hd, .int sz])), (hp, .inl (g.2.1 1, 8, .inl pu)), (h5, .inr (2, [.ref h5_reader, .ref hi, .ref h5_draft, .ref h5_told, .int h5_faultFound, .int h5_faultPlace])), (hi, .inl (g.2.1 1, 12, .inl inf)), (h0, .inr (5, [.ref hs, .ref hc, .int (nI (n_11 + 1)), .int o1, .int he, .int pc, .int df, .int tx])), (hs, .inl (g.2.1 1, 8, .inl bb2_13)), (hc, .inl (g.2.1 1, 8, .inl co2_14))]) rfl rfl ?_
        obtain ⟨x_16, ex_16⟩ : ∃ z : Int32, z = i + 1 := ⟨_, rfl⟩
        replace vc := vc x_16 ex_16
        refine pz_iinc (v := x_16) (lv' := [(4, .int x_16), (7, .int 1), (6, .int x_5), (5, .int x_3), (0, .ref h0), (1, .ref h3), (2, .ref h4), (3, .ref h5)]) 7 F rfl dX6_rankBids_111 (by rw [ex_16]; rfl) (by decide) rfl ?_
        refine pz_goto (tgt := 13) F dX6_rankBids_114 (by decide) ?_
        exact pz_sub [4, 5, 6, 7, 0] [8, 9, 10, 0, 1, 2, 3, 4, 5, 6, 7] rfl rfl rfl (hT13 x_16 (nI (n_11 + 1)) o1 bb2_13 co2_14 vc)
      · replace vc := vc.2 q_10
        refine pz_aload_n 3 F rfl dX6_rankBids_90 rfl ?_
        refine pz_dup F dX6_rankBids_91 rfl ?_
        refine pz_get (ci := 5) (C := RX6) (T := TX6) (N := 8) (v := .int o1) 0 F rfl rfl pz_inX6 3 (by decide) pw_187 rfl dX6_rankBids_92 ?_
        refine pz_iconst (v := 1) F dX6_rankBids_95 rfl ?_
        refine pz_iadd F dX6_rankBids_96 ?_
        refine pz_topi (fun x_17 ex_17 => ?_)
        replace vc := vc x_17 ex_17
        refine pz_put (ws' := [(h0, .inr (5, [.ref hs, .ref hc, .int l1, .int x_17, .int he, .int pc, .int df, .int tx])), (hs, .inl (g.2.1 1, 8, .inl b1)), (hc, .inl (g.2.1 1, 8, .inl c1)), (h3, .inr (0, [.int h3_slices, .int h3_inside, .ref hpa, .ref hbb, .ref hbc, .int cnt, .int h3_seen, .int h3_spent])), (hbb, .inl (g.2.1 1, 8, .inl bd)), (hbc, .inl (g.2.1 1, 8, .inl bc)), (hpa, .inl (g.2.1 1, 8, .inl pa)), (h4, .inr (3, [.ref hp, .ref hd, .int sz])), (hp, .inl (g.2.1 1, 8, .inl pu)), (h5, .inr (2, [.ref h5_reader, .ref hi, .ref h5_draft, .ref h5_told, .int h5_faultFound, .int h5_faultPlace])), (hi, .inl (g.2.1 1, 12, .inl inf))]) (ci := 5) (C := RX6) (T := TX6) (N := 8) (v := .int x_17) (ty := .int) 0 F rfl rfl pz_inX6 3 (by decide) pw_187 tyX6_ok nmX6 rfl rfl rfl rfl (Nat.le_of_ble_eq_true rfl) dX6_rankBids_97 rfl ?_
        refine pz_goto (tgt := 111) F dX6_rankBids_100 (by decide) ?_
        obtain ⟨x_18, ex_18⟩ : ∃ z : Int32, z = i + 1 := ⟨_, rfl⟩
        replace vc := vc x_18 ex_18
        refine pz_iinc (v := x_18) (lv' := [(4, .int x_18), (7, .int 1), (6, .int x_5), (5, .int x_3), (0, .ref h0), (1, .ref h3), (2, .ref h4), (3, .ref h5)]) 7 F rfl dX6_rankBids_111 (by rw [ex_18]; rfl) (by decide) rfl ?_
        refine pz_goto (tgt := 13) F dX6_rankBids_114 (by decide) ?_
        exact pz_sub [4, 5, 6, 7, 0] [0, 1, 2, 3, 4, 5, 6, 7, 8, 9, 10] rfl rfl rfl (hT13 x_18 l1 x_17 b1 c1 vc)
    · replace vc := vc.2 q_9
      refine pz_aload_n 3 F rfl dX6_rankBids_52 rfl ?_
      refine pz_get (ci := 0) (C := RX0) (T := TX0) (N := 8) (v := .ref hpa) 3 F rfl rfl pz_inX0 2 (by decide) pw_445 rfl dX6_rankBids_53 ?_
      refine pz_iload 1 F rfl dX6_rankBids_56 ?_
      obtain ⟨h_19, vc⟩ := vc
      refine pz_iaload 6 F rfl h_19 dX6_rankBids_58 ?_
      refine pz_if_gt (tgt := 78) F dX6_rankBids_59 (by decide) (fun q_20 => ?_) (fun q_20 => ?_)
      · replace vc := vc.1 q_20
        refine pz_iconst (v := 1) F dX6_rankBids_78 rfl ?_
        refine pz_goto (tgt := 83) F dX6_rankBids_79 (by decide) ?_
        refine pz_istore (lv' := [(7, .int 1), (6, .int x_5), (5, .int x_3), (0, .ref h0), (1, .ref h3), (2, .ref h4), (3, .ref h5), (4, .int i)]) F dX6_rankBids_83 (by decide) rfl ?_
        refine pz_iload 0 F rfl dX6_rankBids_85 ?_
        refine pz_if_eq (tgt := 103) F dX6_rankBids_87 (by decide) (fun q_21 => ?_) (fun q_21 => ?_)
        · replace vc := vc.1 q_21
          refine pz_aload_n 3 F rfl dX6_rankBids_103 rfl ?_
          refine pz_iload 2 F rfl dX6_rankBids_104 ?_
          refine pz_iload 1 F rfl dX6_rankBids_106 ?_
          obtain ⟨n_22, vc⟩ := vc
          obtain ⟨h_23, vc⟩ := vc
          refine pz_callV (nA := 2) (ci := 5) (C := RX6) (T := TX6) (N := 8) (As := [.int x_3, .int x_5]) (rest := []) (wr := [(h3, .inr (0, [.int h3_slices, .int h3_inside, .ref hpa, .ref hbb, .ref hbc, .int cnt, .int h3_seen, .int h3_spent])), (hbb, .inl (g.2.1 1, 8, .inl bd)), (hbc, .inl (g.2.1 1, 8, .inl bc)), (hpa, .inl (g.2.1 1, 8, .inl pa)), (h4, .inr (3, [.ref hp, .ref hd, .int sz])), (hp, .inl (g.2.1 1, 8, .inl pu)), (h5, .inr (2, [.ref h5_reader, .ref hi, .ref h5_draft, .ref h5_told, .int h5_faultFound, .int h5_faultPlace])), (hi, .inl (g.2.1 1, 12, .inl inf))]) F (ctX6_rank _ g x_3 x_5 h0 hs hc l1 o1 he pc df tx b1 c1 n_22 h_23) 0 rfl rfl pw_521 pw_523 pv_15 pw_7 pw_524 (by decide +kernel) (by decide) (by decide) rfl rfl (Nat.le_of_ble_eq_true rfl) [0, 1, 2] [3, 4, 5, 6, 7, 8, 9, 10] rfl rfl rfl rfl (by decide) dX6_rankBids_108 (fun r0 w0 hp0 => ?_)
          obtain ⟨⟨bb2_24, co2_25⟩, rfl, rfl, hq_26⟩ := hp0
          replace vc := vc bb2_24 co2_25 hq_26
          refine pz_eq (st' := []) (ws' := [(h3, .inr (0, [.int h3_slices, .int h3_inside, .ref hpa, .ref hbb, .ref hbc, .int cnt, .int h3_seen, .int h3_spent])), (hbb, .inl (g.2.1 1, 8, .inl bd)), (hbc, .inl (g.2.1 1, 8, .inl bc)), (hpa, .inl (g.2.1 1, 8, .inl pa)), (h4, .inr (3, [.ref hp, .ref hd, .int sz])), (hp, .inl (g.2.1 1, 8, .inl pu)), (h5, .inr (2, [.ref h5_reader, .ref hi, .ref h5_draft, .ref h5_told, .int h5_faultFound, .int h5_faultPlace])), (hi, .inl (g.2.1 1, 12, .inl inf)), (h0, .inr (5, [.ref hs, .ref hc, .int (nI (n_22 + 1)), .int o1, .int he, .int pc, .int df, .int tx])), (hs, .inl (g.2.1 1, 8, .inl bb2_24)), (hc, .inl (g.2.1 1, 8, .inl co2_25))]) rfl rfl ?_
          obtain ⟨x_27, ex_27⟩ : ∃ z : Int32, z = i + 1 := ⟨_, rfl⟩
          replace vc := vc x_27 ex_27
          refine pz_iinc (v := x_27) (lv' := [(4, .int x_27), (7, .int 1), (6, .int x_5), (5, .int x_3), (0, .ref h0), (1, .ref h3), (2, .ref h4), (3, .ref h5)]) 7 F rfl dX6_rankBids_111 (by rw [ex_27]; rfl) (by decide) rfl ?_
          refine pz_goto (tgt := 13) F dX6_rankBids_114 (by decide) ?_
          exact pz_sub [4, 5, 6, 7, 0] [8, 9, 10, 0, 1, 2, 3, 4, 5, 6, 7] rfl rfl rfl (hT13 x_27 (nI (n_22 + 1)) o1 bb2_24 co2_25 vc)
        · replace vc := vc.2 q_21
          refine pz_aload_n 3 F rfl dX6_rankBids_90 rfl ?_
          refine pz_dup F dX6_rankBids_91 rfl ?_
          refine pz_get (ci := 5) (C := RX6) (T := TX6) (N := 8) (v := .int o1) 0 F rfl rfl pz_inX6 3 (by decide) pw_187 rfl dX6_rankBids_92 ?_
          refine pz_iconst (v := 1) F dX6_rankBids_95 rfl ?_
          refine pz_iadd F dX6_rankBids_96 ?_
          refine pz_topi (fun x_28 ex_28 => ?_)
          replace vc := vc x_28 ex_28
          refine pz_put (ws' := [(h0, .inr (5, [.ref hs, .ref hc, .int l1, .int x_28, .int he, .int pc, .int df, .int tx])), (hs, .inl (g.2.1 1, 8, .inl b1)), (hc, .inl (g.2.1 1, 8, .inl c1)), (h3, .inr (0, [.int h3_slices, .int h3_inside, .ref hpa, .ref hbb, .ref hbc, .int cnt, .int h3_seen, .int h3_spent])), (hbb, .inl (g.2.1 1, 8, .inl bd)), (hbc, .inl (g.2.1 1, 8, .inl bc)), (hpa, .inl (g.2.1 1, 8, .inl pa)), (h4, .inr (3, [.ref hp, .ref hd, .int sz])), (hp, .inl (g.2.1 1, 8, .inl pu)), (h5, .inr (2, [.ref h5_reader, .ref hi, .ref h5_draft, .ref h5_told, .int h5_faultFound, .int h5_faultPlace])), (hi, .inl (g.2.1 1, 12, .inl inf))]) (ci := 5) (C := RX6) (T := TX6) (N := 8) (v := .int x_28) (ty := .int) 0 F rfl rfl pz_inX6 3 (by decide) pw_187 tyX6_ok nmX6 rfl rfl rfl rfl (Nat.le_of_ble_eq_true rfl) dX6_rankBids_97 rfl ?_
          refine pz_goto (tgt := 111) F dX6_rankBids_100 (by decide) ?_
          obtain ⟨x_29, ex_29⟩ : ∃ z : Int32, z = i + 1 := ⟨_, rfl⟩
          replace vc := vc x_29 ex_29
          refine pz_iinc (v := x_29) (lv' := [(4, .int x_29), (7, .int 1), (6, .int x_5), (5, .int x_3), (0, .ref h0), (1, .ref h3), (2, .ref h4), (3, .ref h5)]) 7 F rfl dX6_rankBids_111 (by rw [ex_29]; rfl) (by decide) rfl ?_
          refine pz_goto (tgt := 13) F dX6_rankBids_114 (by decide) ?_
          exact pz_sub [4, 5, 6, 7, 0] [0, 1, 2, 3, 4, 5, 6, 7, 8, 9, 10] rfl rfl rfl (hT13 x_29 l1 x_28 b1 c1 vc)
      · replace vc := vc.2 q_20
        refine pz_aload_n 4 F rfl dX6_rankBids_62 rfl ?_
        refine pz_get (ci := 3) (C := RX4) (T := TX4) (N := 3) (v := .ref hp) 7 F rfl rfl pz_inX4 0 (by decide) pw_164 rfl dX6_rankBids_63 ?_
        refine pz_iload 1 F rfl dX6_rankBids_66 ?_
        obtain ⟨h_30, vc⟩ := vc
        refine pz_iaload 8 F rfl h_30 dX6_rankBids_68 ?_
        refine pz_iload 0 F rfl dX6_rankBids_69 ?_
        refine pz_aload_n 5 F rfl dX6_rankBids_71 rfl ?_
        refine pz_callS (nA := 2) (As := [.int x_5, .ref h5]) (rest := [.int (pu x_3.toNatClampNeg)]) (wr := [(h0, .inr (5, [.ref hs, .ref hc, .int l1, .int o1, .int he, .int pc, .int df, .int tx])), (hs, .inl (g.2.1 1, 8, .inl b1)), (hc, .inl (g.2.1 1, 8, .inl c1)), (h3, .inr (0, [.int h3_slices, .int h3_inside, .ref hpa, .ref hbb, .ref hbc, .int cnt, .int h3_seen, .int h3_spent])), (hbb, .inl (g.2.1 1, 8, .inl bd)), (hbc, .inl (g.2.1 1, 8, .inl bc)), (hpa, .inl (g.2.1 1, 8, .inl pa)), (h4, .inr (3, [.ref hp, .ref hd, .int sz])), (hp, .inl (g.2.1 1, 8, .inl pu))]) F (ctX6_depositOf _ g x_5 h5 h5_reader hi h5_draft h5_told h5_faultFound h5_faultPlace inf) pw_516 pw_517 pw_7 pw_518 (by decide +kernel) (by decide) (by decide) rfl rfl (Nat.le_of_ble_eq_true rfl) [9, 10] [0, 1, 2, 3, 4, 5, 6, 7, 8] rfl rfl rfl rfl (by decide) dX6_rankBids_72 (fun r0 w0 hp0 => ?_)
        obtain ⟨r_31, _, rfl, rfl, hq_32⟩ := hp0
        replace vc := vc r_31  hq_32
        refine pz_eq (st' := [.int r_31, .int (pu x_3.toNatClampNeg)]) (ws' := [(h0, .inr (5, [.ref hs, .ref hc, .int l1, .int o1, .int he, .int pc, .int df, .int tx])), (hs, .inl (g.2.1 1, 8, .inl b1)), (hc, .inl (g.2.1 1, 8, .inl c1)), (h3, .inr (0, [.int h3_slices, .int h3_inside, .ref hpa, .ref hbb, .ref hbc, .int cnt, .int h3_seen, .int h3_spent])), (hbb, .inl (g.2.1 1, 8, .inl bd)), (hbc, .inl (g.2.1 1, 8, .inl bc)), (hpa, .inl (g.2.1 1, 8, .inl pa)), (h4, .inr (3, [.ref hp, .ref hd, .int sz])), (hp, .inl (g.2.1 1, 8, .inl pu)), (h5, .inr (2, [.ref h5_reader, .ref hi, .ref h5_draft, .ref h5_told, .int h5_faultFound, .int h5_faultPlace])), (hi, .inl (g.2.1 1, 12, .inl inf))]) rfl rfl ?_
        refine pz_icmp_ge (tgt := 82) F dX6_rankBids_75 (by decide) (fun q_33 => ?_) (fun q_33 => ?_)
        · replace vc := vc.1 q_33
          refine pz_iconst (v := 0) F dX6_rankBids_82 rfl ?_
          refine pz_istore (lv' := [(7, .int 0), (6, .int x_5), (5, .int x_3), (0, .ref h0), (1, .ref h3), (2, .ref h4), (3, .ref h5), (4, .int i)]) F dX6_rankBids_83 (by decide) rfl ?_
          refine pz_iload 0 F rfl dX6_rankBids_85 ?_
          refine pz_if_eq (tgt := 103) F dX6_rankBids_87 (by decide) (fun q_34 => ?_) (fun q_34 => ?_)
          · replace vc := vc.1 q_34
            refine pz_aload_n 3 F rfl dX6_rankBids_103 rfl ?_
            refine pz_iload 2 F rfl dX6_rankBids_104 ?_
            refine pz_iload 1 F rfl dX6_rankBids_106 ?_
            obtain ⟨n_35, vc⟩ := vc
            obtain ⟨h_36, vc⟩ := vc
            refine pz_callV (nA := 2) (ci := 5) (C := RX6) (T := TX6) (N := 8) (As := [.int x_3, .int x_5]) (rest := []) (wr := [(h3, .inr (0, [.int h3_slices, .int h3_inside, .ref hpa, .ref hbb, .ref hbc, .int cnt, .int h3_seen, .int h3_spent])), (hbb, .inl (g.2.1 1, 8, .inl bd)), (hbc, .inl (g.2.1 1, 8, .inl bc)), (hpa, .inl (g.2.1 1, 8, .inl pa)), (h4, .inr (3, [.ref hp, .ref hd, .int sz])), (hp, .inl (g.2.1 1, 8, .inl pu)), (h5, .inr (2, [.ref h5_reader, .ref hi, .ref h5_draft, .ref h5_told, .int h5_faultFound, .int h5_faultPlace])), (hi, .inl (g.2.1 1, 12, .inl inf))]) F (ctX6_rank _ g x_3 x_5 h0 hs hc l1 o1 he pc df tx b1 c1 n_35 h_36) 0 rfl rfl pw_521 pw_523 pv_15 pw_7 pw_524 (by decide +kernel) (by decide) (by decide) rfl rfl (Nat.le_of_ble_eq_true rfl) [0, 1, 2] [3, 4, 5, 6, 7, 8, 9, 10] rfl rfl rfl rfl (by decide) dX6_rankBids_108 (fun r0 w0 hp0 => ?_)
            obtain ⟨⟨bb2_37, co2_38⟩, rfl, rfl, hq_39⟩ := hp0
            replace vc := vc bb2_37 co2_38 hq_39
            refine pz_eq (st' := []) (ws' := [(h3, .inr (0, [.int h3_slices, .int h3_inside, .ref hpa, .ref hbb, .ref hbc, .int cnt, .int h3_seen, .int h3_spent])), (hbb, .inl (g.2.1 1, 8, .inl bd)), (hbc, .inl (g.2.1 1, 8, .inl bc)), (hpa, .inl (g.2.1 1, 8, .inl pa)), (h4, .inr (3, [.ref hp, .ref hd, .int sz])), (hp, .inl (g.2.1 1, 8, .inl pu)), (h5, .inr (2, [.ref h5_reader, .ref hi, .ref h5_draft, .ref h5_told, .int h5_faultFound, .int h5_faultPlace])), (hi, .inl (g.2.1 1, 12, .inl inf)), (h0, .inr (5, [.ref hs, .ref hc, .int (nI (n_35 + 1)), .int o1, .int he, .int pc, .int df, .int tx])), (hs, .inl (g.2.1 1, 8, .inl bb2_37)), (hc, .inl (g.2.1 1, 8, .inl co2_38))]) rfl rfl ?_
            obtain ⟨x_40, ex_40⟩ : ∃ z : Int32, z = i + 1 := ⟨_, rfl⟩
            replace vc := vc x_40 ex_40
            refine pz_iinc (v := x_40) (lv' := [(4, .int x_40), (7, .int 0), (6, .int x_5), (5, .int x_3), (0, .ref h0), (1, .ref h3), (2, .ref h4), (3, .ref h5)]) 7 F rfl dX6_rankBids_111 (by rw [ex_40]; rfl) (by decide) rfl ?_
            refine pz_goto (tgt := 13) F dX6_rankBids_114 (by decide) ?_
            exact pz_sub [4, 5, 6, 7, 0] [8, 9, 10, 0, 1, 2, 3, 4, 5, 6, 7] rfl rfl rfl (hT13 x_40 (nI (n_35 + 1)) o1 bb2_37 co2_38 vc)
          · replace vc := vc.2 q_34
            refine pz_aload_n 3 F rfl dX6_rankBids_90 rfl ?_
            refine pz_dup F dX6_rankBids_91 rfl ?_
            refine pz_get (ci := 5) (C := RX6) (T := TX6) (N := 8) (v := .int o1) 0 F rfl rfl pz_inX6 3 (by decide) pw_187 rfl dX6_rankBids_92 ?_
            refine pz_iconst (v := 1) F dX6_rankBids_95 rfl ?_
            refine pz_iadd F dX6_rankBids_96 ?_
            refine pz_topi (fun x_41 ex_41 => ?_)
            replace vc := vc x_41 ex_41
            refine pz_put (ws' := [(h0, .inr (5, [.ref hs, .ref hc, .int l1, .int x_41, .int he, .int pc, .int df, .int tx])), (hs, .inl (g.2.1 1, 8, .inl b1)), (hc, .inl (g.2.1 1, 8, .inl c1)), (h3, .inr (0, [.int h3_slices, .int h3_inside, .ref hpa, .ref hbb, .ref hbc, .int cnt, .int h3_seen, .int h3_spent])), (hbb, .inl (g.2.1 1, 8, .inl bd)), (hbc, .inl (g.2.1 1, 8, .inl bc)), (hpa, .inl (g.2.1 1, 8, .inl pa)), (h4, .inr (3, [.ref hp, .ref hd, .int sz])), (hp, .inl (g.2.1 1, 8, .inl pu)), (h5, .inr (2, [.ref h5_reader, .ref hi, .ref h5_draft, .ref h5_told, .int h5_faultFound, .int h5_faultPlace])), (hi, .inl (g.2.1 1, 12, .inl inf))]) (ci := 5) (C := RX6) (T := TX6) (N := 8) (v := .int x_41) (ty := .int) 0 F rfl rfl pz_inX6 3 (by decide) pw_187 tyX6_ok nmX6 rfl rfl rfl rfl (Nat.le_of_ble_eq_true rfl) dX6_rankBids_97 rfl ?_
            refine pz_goto (tgt := 111) F dX6_rankBids_100 (by decide) ?_
            obtain ⟨x_42, ex_42⟩ : ∃ z : Int32, z = i + 1 := ⟨_, rfl⟩
            replace vc := vc x_42 ex_42
            refine pz_iinc (v := x_42) (lv' := [(4, .int x_42), (7, .int 0), (6, .int x_5), (5, .int x_3), (0, .ref h0), (1, .ref h3), (2, .ref h4), (3, .ref h5)]) 7 F rfl dX6_rankBids_111 (by rw [ex_42]; rfl) (by decide) rfl ?_
            refine pz_goto (tgt := 13) F dX6_rankBids_114 (by decide) ?_
            exact pz_sub [4, 5, 6, 7, 0] [0, 1, 2, 3, 4, 5, 6, 7, 8, 9, 10] rfl rfl rfl (hT13 x_42 l1 x_41 b1 c1 vc)
        · replace vc := vc.2 q_33
          refine pz_iconst (v := 1) F dX6_rankBids_78 rfl ?_
          refine pz_goto (tgt := 83) F dX6_rankBids_79 (by decide) ?_
          refine pz_istore (lv' := [(7, .int 1), (6, .int x_5), (5, .int x_3), (0, .ref h0), (1, .ref h3), (2, .ref h4), (3, .ref h5), (4, .int i)]) F dX6_rankBids_83 (by decide) rfl ?_
          refine pz_iload 0 F rfl dX6_rankBids_85 ?_
          refine pz_if_eq (tgt := 103) F dX6_rankBids_87 (by decide) (fun q_43 => ?_) (fun q_43 => ?_)
          · replace vc := vc.1 q_43
            refine pz_aload_n 3 F rfl dX6_rankBids_103 rfl ?_
            refine pz_iload 2 F rfl dX6_rankBids_104 ?_
            refine pz_iload 1 F rfl dX6_rankBids_106 ?_
            obtain ⟨n_44, vc⟩ := vc
            obtain ⟨h_45, vc⟩ := vc
            refine pz_callV (nA := 2) (ci := 5) (C := RX6) (T := TX6) (N := 8) (As := [.int x_3, .int x_5]) (rest := []) (wr := [(h3, .inr (0, [.int h3_slices, .int h3_inside, .ref hpa, .ref hbb, .ref hbc, .int cnt, .int h3_seen, .int h3_spent])), (hbb, .inl (g.2.1 1, 8, .inl bd)), (hbc, .inl (g.2.1 1, 8, .inl bc)), (hpa, .inl (g.2.1 1, 8, .inl pa)), (h4, .inr (3, [.ref hp, .ref hd, .int sz])), (hp, .inl (g.2.1 1, 8, .inl pu)), (h5, .inr (2, [.ref h5_reader, .ref hi, .ref h5_draft, .ref h5_told, .int h5_faultFound, .int h5_faultPlace])), (hi, .inl (g.2.1 1, 12, .inl inf))]) F (ctX6_rank _ g x_3 x_5 h0 hs hc l1 o1 he pc df tx b1 c1 n_44 h_45) 0 rfl rfl pw_521 pw_523 pv_15 pw_7 pw_524 (by decide +kernel) (by decide) (by decide) rfl rfl (Nat.le_of_ble_eq_true rfl) [0, 1, 2] [3, 4, 5, 6, 7, 8, 9, 10] rfl rfl rfl rfl (by decide) dX6_rankBids_108 (fun r0 w0 hp0 => ?_)
            obtain ⟨⟨bb2_46, co2_47⟩, rfl, rfl, hq_48⟩ := hp0
            replace vc := vc bb2_46 co2_47 hq_48
            refine pz_eq (st' := []) (ws' := [(h3, .inr (0, [.int h3_slices, .int h3_inside, .ref hpa, .ref hbb, .ref hbc, .int cnt, .int h3_seen, .int h3_spent])), (hbb, .inl (g.2.1 1, 8, .inl bd)), (hbc, .inl (g.2.1 1, 8, .inl bc)), (hpa, .inl (g.2.1 1, 8, .inl pa)), (h4, .inr (3, [.ref hp, .ref hd, .int sz])), (hp, .inl (g.2.1 1, 8, .inl pu)), (h5, .inr (2, [.ref h5_reader, .ref hi, .ref h5_draft, .ref h5_told, .int h5_faultFound, .int h5_faultPlace])), (hi, .inl (g.2.1 1, 12, .inl inf)), (h0, .inr (5, [.ref hs, .ref hc, .int (nI (n_44 + 1)), .int o1, .int he, .int pc, .int df, .int tx])), (hs, .inl (g.2.1 1, 8, .inl bb2_46)), (hc, .inl (g.2.1 1, 8, .inl co2_47))]) rfl rfl ?_
            obtain ⟨x_49, ex_49⟩ : ∃ z : Int32, z = i + 1 := ⟨_, rfl⟩
            replace vc := vc x_49 ex_49
            refine pz_iinc (v := x_49) (lv' := [(4, .int x_49), (7, .int 1), (6, .int x_5), (5, .int x_3), (0, .ref h0), (1, .ref h3), (2, .ref h4), (3, .ref h5)]) 7 F rfl dX6_rankBids_111 (by rw [ex_49]; rfl) (by decide) rfl ?_
            refine pz_goto (tgt := 13) F dX6_rankBids_114 (by decide) ?_
            exact pz_sub [4, 5, 6, 7, 0] [8, 9, 10, 0, 1, 2, 3, 4, 5, 6, 7] rfl rfl rfl (hT13 x_49 (nI (n_44 + 1)) o1 bb2_46 co2_47 vc)
          · replace vc := vc.2 q_43
            refine pz_aload_n 3 F rfl dX6_rankBids_90 rfl ?_
            refine pz_dup F dX6_rankBids_91 rfl ?_
            refine pz_get (ci := 5) (C := RX6) (T := TX6) (N := 8) (v := .int o1) 0 F rfl rfl pz_inX6 3 (by decide) pw_187 rfl dX6_rankBids_92 ?_
            refine pz_iconst (v := 1) F dX6_rankBids_95 rfl ?_
            refine pz_iadd F dX6_rankBids_96 ?_
            refine pz_topi (fun x_50 ex_50 => ?_)
            replace vc := vc x_50 ex_50
            refine pz_put (ws' := [(h0, .inr (5, [.ref hs, .ref hc, .int l1, .int x_50, .int he, .int pc, .int df, .int tx])), (hs, .inl (g.2.1 1, 8, .inl b1)), (hc, .inl (g.2.1 1, 8, .inl c1)), (h3, .inr (0, [.int h3_slices, .int h3_inside, .ref hpa, .ref hbb, .ref hbc, .int cnt, .int h3_seen, .int h3_spent])), (hbb, .inl (g.2.1 1, 8, .inl bd)), (hbc, .inl (g.2.1 1, 8, .inl bc)), (hpa, .inl (g.2.1 1, 8, .inl pa)), (h4, .inr (3, [.ref hp, .ref hd, .int sz])), (hp, .inl (g.2.1 1, 8, .inl pu)), (h5, .inr (2, [.ref h5_reader, .ref hi, .ref h5_draft, .ref h5_told, .int h5_faultFound, .int h5_faultPlace])), (hi, .inl (g.2.1 1, 12, .inl inf))]) (ci := 5) (C := RX6) (T := TX6) (N := 8) (v := .int x_50) (ty := .int) 0 F rfl rfl pz_inX6 3 (by decide) pw_187 tyX6_ok nmX6 rfl rfl rfl rfl (Nat.le_of_ble_eq_true rfl) dX6_rankBids_97 rfl ?_
            refine pz_goto (tgt := 111) F dX6_rankBids_100 (by decide) ?_
            obtain ⟨x_51, ex_51⟩ : ∃ z : Int32, z = i + 1 := ⟨_, rfl⟩
            replace vc := vc x_51 ex_51
            refine pz_iinc (v := x_51) (lv' := [(4, .int x_51), (7, .int 1), (6, .int x_5), (5, .int x_3), (0, .ref h0), (1, .ref h3), (2, .ref h4), (3, .ref h5)]) 7 F rfl dX6_rankBids_111 (by rw [ex_51]; rfl) (by decide) rfl ?_
            refine pz_goto (tgt := 13) F dX6_rankBids_114 (by decide) ?_
            exact pz_sub [4, 5, 6, 7, 0] [0, 1, 2, 3, 4, 5, 6, 7, 8, 9, 10] rfl rfl rfl (hT13 x_51 l1 x_50 b1 c1 vc)
theorem lpX6_rankBids_13 {B : pz_B} {g : pz_G} {wc : va_W} {Post : Option Value → va_W → Prop} (F : pz_F B cX6_rankBids 8 none yX6_rankBids.cls g rmX6_rankBids) (Rt : pz_Rt B g wc Post rmX6_rankBids) (h0 : Nat) (hs : Nat) (hc : Nat) (lI : Int32) (ou : Int32) (he : Int32) (pc : Int32) (df : Int32) (tx : Int32) (bb : Nat → Int32) (co : Nat → Int32) (h3 : Nat) (h3_slices : Int32) (h3_inside : Int32) (hpa : Nat) (hbb : Nat) (hbc : Nat) (cnt : Int32) (h3_seen : Int32) (h3_spent : Int32) (bd : Nat → Int32) (bc : Nat → Int32) (pa : Nat → Int32) (h4 : Nat) (hp : Nat) (hd : Nat) (sz : Int32) (pu : Nat → Int32) (h5 : Nat) (h5_reader : Nat) (hi : Nat) (h5_draft : Nat) (h5_told : Nat) (h5_faultFound : Int32) (h5_faultPlace : Int32) (inf : Nat → Int32) (b : Nat) (Inv : Nat → Int32 → Int32 → Int32 → (Nat → Int32) → (Nat → Int32) → Prop) (step : ∀ (mz : Nat) (i : Int32) (l1 : Int32) (o1 : Int32) (b1 : Nat → Int32) (c1 : Nat → Int32), Inv mz i l1 o1 b1 c1 → ∀ TT : Int32 → Int32 → Int32 → (Nat → Int32) → (Nat → Int32) → Prop, TT = (fun i l1 o1 b1 c1 => ∃ mz', mz' < mz ∧ Inv mz' i l1 o1 b1 c1) → ((cnt ≤ i → Post none [(h0, .inr (5, [.ref hs, .ref hc, .int l1, .int o1, .int he, .int pc, .int df, .int tx])), (hs, .inl (g.2.1 1, 8, .inl b1)), (hc, .inl (g.2.1 1, 8, .inl c1)), (h3, .inr (0, [.int h3_slices, .int h3_inside, .ref hpa, .ref hbb, .ref hbc, .int cnt, .int h3_seen, .int h3_spent])), (hbb, .inl (g.2.1 1, 8, .inl bd)), (hbc, .inl (g.2.1 1, 8, .inl bc)), (hpa, .inl (g.2.1 1, 8, .inl pa)), (h4, .inr (3, [.ref hp, .ref hd, .int sz])), (hp, .inl (g.2.1 1, 8, .inl pu)), (h5, .inr (2, [.ref h5_reader, .ref hi, .ref h5_draft, .ref h5_told, .int h5_faultFound, .int h5_faultPlace])), (hi, .inl (g.2.1 1, 12, .inl inf))]) ∧ (¬ cnt ≤ i → vp_in i 8 ∧ ∀ x_3 : Int32, x_3 = (bd i.toNatClampNeg) → vp_in i 8 ∧ ∀ x_5 : Int32, x_5 = (bc i.toNatClampNeg) → (4 < 9) ∧ ∀ r_7 : Int32, ∀ _ : (r_7 = inf 4), ((x_5 < r_7 → (((1 : Int32) = 0 → ∃ n_11 : Nat, (n_11 < 8 ∧ l1 = nI n_11) ∧ ∀ bb2_13 : Nat → Int32, ∀ co2_14 : Nat → Int32, ∀ _ : (∃ p, p ≤ n_11 ∧ (p = 0 ∨ ¬ c1 (p - 1) < x_5) ∧ (∀ a, p ≤ a → a < n_11 → c1 a < x_5) ∧ (∀ a, a < p → co2_14 a = c1 a ∧ bb2_13 a = b1 a) ∧ co2_14 p = x_5 ∧ bb2_13 p = x_3 ∧ (∀ a, p < a → a ≤ n_11 → co2_14 a = c1 (a - 1) ∧ bb2_13 a = b1 (a - 1))), ∀ x_16 : Int32, x_16 = i + 1 → TT x_16 (nI (n_11 + 1)) o1 bb2_13 co2_14) ∧ (¬ (1 : Int32) = 0 → ∀ x_17 : Int32, x_17 = (o1 + 1) → ∀ x_18 : Int32, x_18 = i + 1 → TT x_18 l1 x_17 b1 c1))) ∧ (¬ x_5 < r_7 → vp_in x_3 8 ∧ (((0 : Int32) < (pa x_3.toNatClampNeg) → (((1 : Int32) = 0 → ∃ n_22 : Nat, (n_22 < 8 ∧ l1 = nI n_22) ∧ ∀ bb2_24 : Nat → Int32, ∀ co2_25 : Nat → Int32, ∀ _ : (∃ p, p ≤ n_22 ∧ (p = 0 ∨ ¬ c1 (p - 1) < x_5) ∧ (∀ a, p ≤ a → a < n_22 → c1 a < x_5) ∧ (∀ a, a < p → co2_25 a = c1 a ∧ bb2_24 a = b1 a) ∧ co2_25 p = x_5 ∧ bb2_24 p = x_3 ∧ (∀ a, p < a → a ≤ n_22 → co2_25 a = c1 (a - 1) ∧ bb2_24 a = b1 (a - 1))), ∀ x_27 : Int32, x_27 = i + 1 → TT x_27 (nI (n_22 + 1)) o1 bb2_24 co2_25) ∧ (¬ (1 : Int32) = 0 → ∀ x_28 : Int32, x_28 = (o1 + 1) → ∀ x_29 : Int32, x_29 = i + 1 → TT x_29 l1 x_28 b1 c1))) ∧ (¬ (0 : Int32) < (pa x_3.toNatClampNeg) → vp_in x_3 8 ∧ ∀ r_31 : Int32, ∀ _ : (r_31 = sa_dep inf x_5), ((r_31 ≤ (pu x_3.toNatClampNeg) → (((0 : Int32) = 0 → ∃ n_35 : Nat, (n_35 < 8 ∧ l1 = nI n_35) ∧ ∀ bb2_37 : Nat → Int32, ∀ co2_38 : Nat → Int32, ∀ _ : (∃ p, p ≤ n_35 ∧ (p = 0 ∨ ¬ c1 (p - 1) < x_5) ∧ (∀ a, p ≤ a → a < n_35 → c1 a < x_5) ∧ (∀ a, a < p → co2_38 a = c1 a ∧ bb2_37 a = b1 a) ∧ co2_38 p = x_5 ∧ bb2_37 p = x_3 ∧ (∀ a, p < a → a ≤ n_35 → co2_38 a = c1 (a - 1) ∧ bb2_37 a = b1 (a - 1))), ∀ x_40 : Int32, x_40 = i + 1 → TT x_40 (nI (n_35 + 1)) o1 bb2_37 co2_38) ∧ (¬ (0 : Int32) = 0 → ∀ x_41 : Int32, x_41 = (o1 + 1) → ∀ x_42 : Int32, x_42 = i + 1 → TT x_42 l1 x_41 b1 c1))) ∧ (¬ r_31 ≤ (pu x_3.toNatClampNeg) → (((1 : Int32) = 0 → ∃ n_44 : Nat, (n_44 < 8 ∧ l1 = nI n_44) ∧ ∀ bb2_46 : Nat → Int32, ∀ co2_47 : Nat → Int32, ∀ _ : (∃ p, p ≤ n_44 ∧ (p = 0 ∨ ¬ c1 (p - 1) < x_5) ∧ (∀ a, p ≤ a → a < n_44 → c1 a < x_5) ∧ (∀ a, a < p → co2_47 a = c1 a ∧ bb2_46 a = b1 a) ∧ co2_47 p = x_5 ∧ bb2_46 p = x_3 ∧ (∀ a, p < a → a ≤ n_44 → co2_47 a = c1 (a - 1) ∧ bb2_46 a = b1 (a - 1))), ∀ x_49 : Int32, x_49 = i + 1 → TT x_49 (nI (n_44 + 1)) o1 bb2_46 co2_47) ∧ (¬ (1 : Int32) = 0 → ∀ x_50 : Int32, x_50 = (o1 + 1) → ∀ x_51 : Int32, x_51 = i + 1 → TT x_51 l1 x_50 b1 c1))))))))))) : ∀ (mz : Nat) (i : Int32) (l1 : Int32) (o1 : Int32) (b1 : Nat → Int32) (c1 : Nat → Int32), Inv mz i l1 o1 b1 c1 → paX6_rankBids_13 B g h0 hs hc lI ou he pc df tx bb co h3 h3_slices h3_inside hpa hbb hbc cnt h3_seen h3_spent bd bc pa h4 hp hd sz pu h5 h5_reader hi h5_draft h5_told h5_faultFound h5_faultPlace inf b i l1 o1 b1 c1 := by
  intro mz
  induction mz using Nat.strongRecOn with
  | _ mz ih =>
    intro i l1 o1 b1 c1 hI
    exact sgX6_rankBids_13 F Rt h0 hs hc lI ou he pc df tx bb co h3 h3_slices h3_inside hpa hbb hbc cnt h3_seen h3_spent bd bc pa h4 hp hd sz pu h5 h5_reader hi h5_draft h5_told h5_faultFound h5_faultPlace inf b (fun i l1 o1 b1 c1 => ∃ mz', mz' < mz ∧ Inv mz' i l1 o1 b1 c1) (fun i l1 o1 b1 c1 ⟨mz', h1, h2⟩ => ih mz' h1 i l1 o1 b1 c1 h2) i l1 o1 b1 c1 (step mz i l1 o1 b1 c1 hI _ rfl)
set_option maxHeartbeats 4000000 in
set_option maxRecDepth 100000 in
theorem ctX6_rankBids (l : Launch) (g : pz_G) (h0 : Nat) (hs : Nat) (hc : Nat) (lI : Int32) (ou : Int32) (he : Int32) (pc : Int32) (df : Int32) (tx : Int32) (bb : Nat → Int32) (co : Nat → Int32) (h3 : Nat) (h3_slices : Int32) (h3_inside : Int32) (hpa : Nat) (hbb : Nat) (hbc : Nat) (cnt : Int32) (h3_seen : Int32) (h3_spent : Int32) (bd : Nat → Int32) (bc : Nat → Int32) (pa : Nat → Int32) (h4 : Nat) (hp : Nat) (hd : Nat) (sz : Int32) (pu : Nat → Int32) (h5 : Nat) (h5_reader : Nat) (hi : Nat) (h5_draft : Nat) (h5_told : Nat) (h5_faultFound : Int32) (h5_faultPlace : Int32) (inf : Nat → Int32) (b : Nat) (hpre : b ≤ 8 ∧ (∀ k, k < b → vp_in (bd k) 8) ∧ cnt = nI b) : pz_Ct l g yX6_rankBids cX6_rankBids 8 none rmX6_rankBids [.ref h0, .ref h3, .ref h4, .ref h5] [(h0, .inr (5, [.ref hs, .ref hc, .int lI, .int ou, .int he, .int pc, .int df, .int tx])), (hs, .inl (g.2.1 1, 8, .inl bb)), (hc, .inl (g.2.1 1, 8, .inl co)), (h3, .inr (0, [.int h3_slices, .int h3_inside, .ref hpa, .ref hbb, .ref hbc, .int cnt, .int h3_seen, .int h3_spent])), (hbb, .inl (g.2.1 1, 8, .inl bd)), (hbc, .inl (g.2.1 1, 8, .inl bc)), (hpa, .inl (g.2.1 1, 8, .inl pa)), (h4, .inr (3, [.ref hp, .ref hd, .int sz])), (hp, .inl (g.2.1 1, 8, .inl pu)), (h5, .inr (2, [.ref h5_reader, .ref hi, .ref h5_draft, .ref h5_told, .int h5_faultFound, .int h5_faultPlace])), (hi, .inl (g.2.1 1, 12, .inl inf))] (pz_pv (fun (u : Int32 × Int32 × (Nat → Int32) × (Nat → Int32)) => u.1 = nI (sa_rl bc (sa_ok bd bc inf pa pu) b).length ∧ u.2.1 = nI (sa_out (sa_ok bd bc inf pa pu) b) ∧ sa_rep bd bc u.2.2.1 u.2.2.2 (sa_rl bc (sa_ok bd bc inf pa pu) b)) (fun (u : Int32 × Int32 × (Nat → Int32) × (Nat → Int32)) => [(h0, .inr (5, [.ref hs, .ref hc, .int u.1, .int u.2.1, .int he, .int pc, .int df, .int tx])), (hs, .inl (g.2.1 1, 8, .inl u.2.2.1)), (hc, .inl (g.2.1 1, 8, .inl u.2.2.2)), (h3, .inr (0, [.int h3_slices, .int h3_inside, .ref hpa, .ref hbb, .ref hbc, .int cnt, .int h3_seen, .int h3_spent])), (hbb, .inl (g.2.1 1, 8, .inl bd)), (hbc, .inl (g.2.1 1, 8, .inl bc)), (hpa, .inl (g.2.1 1, 8, .inl pa)), (h4, .inr (3, [.ref hp, .ref hd, .int sz])), (hp, .inl (g.2.1 1, 8, .inl pu)), (h5, .inr (2, [.ref h5_reader, .ref hi, .ref h5_draft, .ref h5_told, .int h5_faultFound, .int h5_faultPlace])), (hi, .inl (g.2.1 1, 12, .inl inf))])) := by
  refine pz_ofAt (by decide +kernel) (Nat.le_of_ble_eq_true rfl) (fun B F Rt hme => ?_)
  obtain ⟨hb8, hin, h1⟩ := hpre
  subst h1
  refine sgX6_rankBids_0 F Rt h0 hs hc lI ou he pc df tx bb co h3 h3_slices h3_inside hpa hbb hbc (nI b) h3_seen h3_spent bd bc pa h4 hp hd sz pu h5 h5_reader hi h5_draft h5_told h5_faultFound h5_faultPlace inf b _ (fun i l1 o1 b1 c1 h => lpX6_rankBids_13 F Rt h0 hs hc lI ou he pc df tx bb co h3 h3_slices h3_inside hpa hbb hbc (nI b) h3_seen h3_spent bd bc pa h4 hp hd sz pu h5 h5_reader hi h5_draft h5_told h5_faultFound h5_faultPlace inf b (fun z i l1 o1 b1 c1 => ∃ j, j + z = b ∧ i = nI j ∧ l1 = nI (sa_rl bc (sa_ok bd bc inf pa pu) j).length ∧ o1 = nI (sa_out (sa_ok bd bc inf pa pu) j) ∧ sa_rep bd bc b1 c1 (sa_rl bc (sa_ok bd bc inf pa pu) j)) ?_ b i l1 o1 b1 c1 h) ⟨0, by omega, nI_0.symm, rfl, rfl, fun a ha => absurd ha (by simp [sa_rl])⟩
  rintro z i l1 o1 b1 c1 ⟨j, hj, rfl, rfl, rfl, hrep⟩ TT rfl
  have hlen := sa_rl_len bc (sa_ok bd bc inf pa pu) j
  refine ⟨fun q => ?_, fun q => ?_⟩
  · have h1 := pu_ge (by omega) q
    have e : j = b := by omega
    subst e
    exact ⟨(_, _, _, _), rfl, rfl, rfl, rfl, hrep⟩
  · have h1 := pu_lt (by omega) (by omega) q
    have hij : vp_in (nI j) 8 := vp_in_nI (by omega) (by omega)
    have hout : (sa_ok bd bc inf pa pu) j = false → sa_rl bc (sa_ok bd bc inf pa pu) (j + 1) = sa_rl bc (sa_ok bd bc inf pa pu) j ∧ sa_out (sa_ok bd bc inf pa pu) (j + 1) = sa_out (sa_ok bd bc inf pa pu) j + 1 := fun h => by
      constructor
      · rw [sa_rl, if_neg (by rw [h]; decide)]
      · rw [sa_out, if_neg (by rw [h]; decide)]
    have hinn : (sa_ok bd bc inf pa pu) j = true → sa_rl bc (sa_ok bd bc inf pa pu) (j + 1) = sa_ins bc j (sa_rl bc (sa_ok bd bc inf pa pu) j) ∧ sa_out (sa_ok bd bc inf pa pu) (j + 1) = sa_out (sa_ok bd bc inf pa pu) j := fun h => by
      constructor
      · rw [sa_rl, if_pos h]
      · rw [sa_out, if_pos h]
    rw [nI_clamp (by omega)]
    refine ⟨hij, ?_⟩
    rintro m rfl
    refine ⟨hij, ?_⟩
    rintro su rfl
    refine ⟨by omega, fun r hr => ?_⟩
    rw [hr]
    have hbad : (sa_ok bd bc inf pa pu) j = false → ∀ (x : Int32), x = nI (sa_out (sa_ok bd bc inf pa pu) j) + 1 → ∀ (y : Int32), y = nI j + 1 → ∃ mz', mz' < z ∧ ∃ j, j + mz' = b ∧ y = nI j ∧ nI (sa_rl bc (sa_ok bd bc inf pa pu) (j - 1)).length = nI (sa_rl bc (sa_ok bd bc inf pa pu) j).length ∧ x = nI (sa_out (sa_ok bd bc inf pa pu) j) ∧ sa_rep bd bc b1 c1 (sa_rl bc (sa_ok bd bc inf pa pu) j) := by
      intro h x hx y hy
      obtain ⟨a1, a2⟩ := hout h
      exact ⟨z - 1, by omega, j + 1, by omega, by rw [hy, nI_1], by rw [Nat.add_sub_cancel, a1], by rw [hx, a2, nI_1], by rw [a1]; exact hrep⟩
    have hbad2 : (sa_ok bd bc inf pa pu) j = false → ∀ (x : Int32), x = nI (sa_out (sa_ok bd bc inf pa pu) j) + 1 → ∀ (y : Int32), y = nI j + 1 → ∃ mz', mz' < z ∧ ∃ j_1, j_1 + mz' = b ∧ y = nI j_1 ∧ nI (sa_rl bc (sa_ok bd bc inf pa pu) j).length = nI (sa_rl bc (sa_ok bd bc inf pa pu) j_1).length ∧ x = nI (sa_out (sa_ok bd bc inf pa pu) j_1) ∧ sa_rep bd bc b1 c1 (sa_rl bc (sa_ok bd bc inf pa pu) j_1) := by
      intro h x hx y hy
      obtain ⟨a1, a2⟩ := hout h
      exact ⟨z - 1, by omega, j + 1, by omega, by rw [hy, nI_1], by rw [a1], by rw [hx, a2, nI_1], by rw [a1]; exact hrep⟩
    refine ⟨fun q2 => ?_, fun q2 => ⟨hin j h1, fun q3 => ?_, fun q3 => ⟨hin j h1, fun r2 hr2 => ?_⟩⟩⟩
    · have hk : (sa_ok bd bc inf pa pu) j = false := by
        unfold sa_ok
        rw [decide_eq_false (not_not_intro q2)]
        rfl
      exact ⟨fun q4 => absurd q4 (by decide), fun _ => hbad2 hk⟩
    · have hk : (sa_ok bd bc inf pa pu) j = false := by
        unfold sa_ok
        rw [decide_eq_false (p := ¬ 0 < pa (bd j).toNatClampNeg) (not_not_intro q3)]
        simp
      exact ⟨fun q4 => absurd q4 (by decide), fun _ => hbad2 hk⟩
    · rw [hr2]
      refine ⟨fun q4 => ?_, fun q4 => ?_⟩
      · have hk : (sa_ok bd bc inf pa pu) j = true := by
          unfold sa_ok
          rw [decide_eq_true q2, decide_eq_true q3, decide_eq_true (Int32.not_lt.mpr q4)]
          rfl
        obtain ⟨a1, a2⟩ := hinn hk
        refine ⟨fun _ => ⟨(sa_rl bc (sa_ok bd bc inf pa pu) j).length, ⟨by omega, rfl⟩, fun b2 c2 hb2 => ?_⟩, fun q5 => absurd rfl q5⟩
        obtain ⟨p, p1, p2, p3, p4, p5, p6, p7⟩ := hb2
        rintro y rfl
        refine ⟨z - 1, by omega, j + 1, by omega, nI_1 j, by rw [a1, sa_ins_len], by rw [a2], ?_⟩
        rw [a1]
        exact sa_rep_ins rfl hrep p1 p2 p3 p4 p5 p6 p7
      · have hk : (sa_ok bd bc inf pa pu) j = false := by
          unfold sa_ok
          rw [decide_eq_false (p := ¬ pu (bd j).toNatClampNeg < sa_dep inf (bc j)) (not_not_intro (Int32.not_le.mp q4))]
          simp
        exact ⟨fun q5 => absurd q5 (by decide), fun _ => hbad2 hk⟩
