
abbrev rmX8_cut_A : Room := { frames := 2, cells := 0, slots := 0, locals := 43 }
set_option maxHeartbeats 4000000 in
set_option maxRecDepth 100000 in
theorem sgX8_cut_A_0 {B : pz_B} {g : pz_G} {wc : va_W} {Post : Option Value → va_W → Prop} (F : pz_F B cX8_cut 5 (some .int) yX8_cut.cls g rmX8_cut_A) (Rt : pz_Rt B g wc Post rmX8_cut_A) (x : Int32) (h0 : Nat) (zt : Nat) (zl : Nat) (zc : Nat) (zm : Nat) (zb : Nat) (zs : Nat) (bn : Int32) (hk : Int32) (bq : Nat → Option Nat) (zlr : Nat) (zli : Nat) (zld : Nat) (zlt : Nat) (ff : Int32) (fp : Int32) (inf : Nat → Int32)  (vc : (x < 0 ∨ bn ≤ x) ∧ ∀ _ : (True), (6 < 9) ∧ ∀ r_4 : Int32, ∀ _ : (r_4 = inf 6), Post (some (.int (-1))) [(h0, .inr (7, [.ref zt, .ref zl, .ref zc, .ref zm, .ref zb, .ref zs, .int bn, .int hk])), (zb, .inl (g.2.1 4, 10, .inr (.inr (.inr (.inr bq))))), (zl, .inr (2, [.ref zlr, .ref zli, .ref zld, .ref zlt, .int ff, .int fp])), (zli, .inl (g.2.1 1, 12, .inl inf))]) : pz_At B 0 0 0 [(0, .ref h0), (1, .int x)] [] [(h0, .inr (7, [.ref zt, .ref zl, .ref zc, .ref zm, .ref zb, .ref zs, .int bn, .int hk])), (zb, .inl (g.2.1 4, 10, .inr (.inr (.inr (.inr bq))))), (zl, .inr (2, [.ref zlr, .ref zli, .ref zld, .ref zlt, .int ff, .int fp])), (zli, .inl (g.2.1 1, 12, .inl inf))] := by
  refine pz_aload_n 0 F rfl dX8_cut_0 rfl ?_
  refine pz_iload_n 1 F rfl dX8_cut_1 rfl ?_
  obtain ⟨h_1, vc⟩ := vc
  refine pz_callV (nA := 1) (ci := 7) (C := RX8) (T := TX8) (N := 8) (As := [.int x]) (rest := []) (wr := [(zl, .inr (2, [.ref zlr, .ref zli, .ref zld, .ref zlt, .int ff, .int fp])), (zli, .inl (g.2.1 1, 12, .inl inf))]) F (ctX8_unspent_A _ g h0 x zt zl zc zm zb zs bn hk bq h_1) 0 rfl rfl pw_481 pw_483 pv_12 pw_1 pw_484 (by decide +kernel) (by decide) (by decide) rfl rfl (Nat.le_of_ble_eq_true rfl) [0, 1] [2, 3] rfl rfl rfl rfl (by decide) dX8_cut_2 (fun r0 w0 hp0 => ?_)
  obtain ⟨_, rfl, rfl, hq_2⟩ := hp0
  replace vc := vc  hq_2
  refine pz_eq (st' := [.null]) (ws' := [(zl, .inr (2, [.ref zlr, .ref zli, .ref zld, .ref zlt, .int ff, .int fp])), (zli, .inl (g.2.1 1, 12, .inl inf)), (h0, .inr (7, [.ref zt, .ref zl, .ref zc, .ref zm, .ref zb, .ref zs, .int bn, .int hk])), (zb, .inl (g.2.1 4, 10, .inr (.inr (.inr (.inr bq)))))]) rfl rfl ?_
  refine pz_astore_nN (lv' := [(2, .null), (0, .ref h0), (1, .int x)]) F dX8_cut_5 rfl (by decide) rfl ?_
  refine pz_aload_n 1 F rfl dX8_cut_6 rfl ?_
  refine pz_get (ci := 7) (C := RX8) (T := TX8) (N := 8) (v := .ref zl) 2 F rfl rfl pz_inX8 1 (by decide) pw_211 rfl dX8_cut_7 ?_
  refine pz_gets F (pz_line F (i := 6) (by decide)) pw_583 dX8_cut_10 ?_
  obtain ⟨h_3, vc⟩ := vc
  refine pz_callV (nA := 1) (ci := 2) (C := RX2) (T := TX2) (N := 6) (As := [.ref (g.2.2 6)]) (rest := []) (wr := [(h0, .inr (7, [.ref zt, .ref zl, .ref zc, .ref zm, .ref zb, .ref zs, .int bn, .int hk])), (zb, .inl (g.2.1 4, 10, .inr (.inr (.inr (.inr bq)))))]) F (ctX2_coins _ g zl 6 zlr zli zld zlt ff fp inf h_3) 0 rfl rfl pw_585 pw_513 pw_514 pw_3 pw_515 (by decide +kernel) (by decide) (by decide) rfl rfl (Nat.le_of_ble_eq_true rfl) [0, 1] [2, 3] rfl rfl rfl rfl (by decide) dX8_cut_13 (fun r0 w0 hp0 => ?_)
  obtain ⟨r_4, _, rfl, rfl, hq_5⟩ := hp0
  replace vc := vc r_4  hq_5
  refine pz_eq (st' := [.int r_4]) (ws' := [(h0, .inr (7, [.ref zt, .ref zl, .ref zc, .ref zm, .ref zb, .ref zs, .int bn, .int hk])), (zb, .inl (g.2.1 4, 10, .inr (.inr (.inr (.inr bq))))), (zl, .inr (2, [.ref zlr, .ref zli, .ref zld, .ref zlt, .int ff, .int fp])), (zli, .inl (g.2.1 1, 12, .inl inf))]) rfl rfl ?_
  refine pz_istore_n (lv' := [(3, .int r_4), (2, .null), (0, .ref h0), (1, .int x)]) F dX8_cut_16 rfl (by decide) rfl ?_
  refine pz_aload_nN 1 F rfl dX8_cut_17 rfl ?_
  refine pz_ifnullN (tgt := 33) F dX8_cut_18 (by decide) ?_
  refine pz_iconst (v := (-1)) F dX8_cut_33 rfl ?_
  exact pz_ireturn (w1 := [(h0, .inr (7, [.ref zt, .ref zl, .ref zc, .ref zm, .ref zb, .ref zs, .int bn, .int hk])), (zb, .inl (g.2.1 4, 10, .inr (.inr (.inr (.inr bq))))), (zl, .inr (2, [.ref zlr, .ref zli, .ref zld, .ref zlt, .int ff, .int fp])), (zli, .inl (g.2.1 1, 12, .inl inf))]) F Rt (by decide) (by decide) dX8_cut_34 [0, 1, 2, 3] rfl rfl rfl vc
set_option maxHeartbeats 4000000 in
set_option maxRecDepth 100000 in
theorem ctX8_cut_A (l : Launch) (g : pz_G) (x : Int32) (h0 : Nat) (zt : Nat) (zl : Nat) (zc : Nat) (zm : Nat) (zb : Nat) (zs : Nat) (bn : Int32) (hk : Int32) (bq : Nat → Option Nat) (zlr : Nat) (zli : Nat) (zld : Nat) (zlt : Nat) (ff : Int32) (fp : Int32) (inf : Nat → Int32) (hpre : x < 0 ∨ bn ≤ x) : pz_Ct l g yX8_cut cX8_cut 5 (some .int) rmX8_cut_A [.ref h0, .int x] [(h0, .inr (7, [.ref zt, .ref zl, .ref zc, .ref zm, .ref zb, .ref zs, .int bn, .int hk])), (zb, .inl (g.2.1 4, 10, .inr (.inr (.inr (.inr bq))))), (zl, .inr (2, [.ref zlr, .ref zli, .ref zld, .ref zlt, .int ff, .int fp])), (zli, .inl (g.2.1 1, 12, .inl inf))] (pz_pi (fun (r : Int32) (u : Unit) => r = -1) (fun (u : Unit) => [(h0, .inr (7, [.ref zt, .ref zl, .ref zc, .ref zm, .ref zb, .ref zs, .int bn, .int hk])), (zb, .inl (g.2.1 4, 10, .inr (.inr (.inr (.inr bq))))), (zl, .inr (2, [.ref zlr, .ref zli, .ref zld, .ref zlt, .int ff, .int fp])), (zli, .inl (g.2.1 1, 12, .inl inf))])) := by
  refine pz_ofAt (by decide +kernel) (Nat.le_of_ble_eq_true rfl) (fun B F Rt hme => ?_)
  refine sgX8_cut_A_0 F Rt x h0 zt zl zc zm zb zs bn hk bq zlr zli zld zlt ff fp inf ?_
  clear F Rt hme
  refine ⟨hpre, fun _ => ⟨by omega, ?_⟩⟩
  rintro r1 rfl
  exact ⟨_, (), rfl, rfl, rfl⟩
abbrev rmX8_cut_S : Room := { frames := 2, cells := 0, slots := 0, locals := 43 }
set_option maxHeartbeats 4000000 in
set_option maxRecDepth 100000 in
theorem sgX8_cut_S_0 {B : pz_B} {g : pz_G} {wc : va_W} {Post : Option Value → va_W → Prop} (F : pz_F B cX8_cut 5 (some .int) yX8_cut.cls g rmX8_cut_S) (Rt : pz_Rt B g wc Post rmX8_cut_S) (x : Int32) (h0 : Nat) (zt : Nat) (zl : Nat) (zc : Nat) (zm : Nat) (zb : Nat) (zs : Nat) (bn : Int32) (hk : Int32) (bq : Nat → Option Nat) (ba : Nat) (sl : Int32) (ins : Int32) (bpa : Nat) (bbd : Nat) (bbc : Nat) (cnt : Int32) (se : Int32) (zlr : Nat) (zli : Nat) (zld : Nat) (zlt : Nat) (ff : Int32) (fp : Int32) (inf : Nat → Int32) (jb : Nat) (NB : Nat)  (vc : (jb < NB ∧ NB ≤ 10 ∧ x = nI jb ∧ bn = nI NB ∧ bq jb = some ba) ∧ ∀ _ : (True), (6 < 9) ∧ ∀ r_4 : Int32, ∀ _ : (r_4 = inf 6), Post (some (.int (-1))) [(h0, .inr (7, [.ref zt, .ref zl, .ref zc, .ref zm, .ref zb, .ref zs, .int bn, .int hk])), (zb, .inl (g.2.1 4, 10, .inr (.inr (.inr (.inr bq))))), (ba, .inr (0, [.int sl, .int ins, .ref bpa, .ref bbd, .ref bbc, .int cnt, .int se, .int 1])), (zl, .inr (2, [.ref zlr, .ref zli, .ref zld, .ref zlt, .int ff, .int fp])), (zli, .inl (g.2.1 1, 12, .inl inf))]) : pz_At B 0 0 0 [(0, .ref h0), (1, .int x)] [] [(h0, .inr (7, [.ref zt, .ref zl, .ref zc, .ref zm, .ref zb, .ref zs, .int bn, .int hk])), (zb, .inl (g.2.1 4, 10, .inr (.inr (.inr (.inr bq))))), (ba, .inr (0, [.int sl, .int ins, .ref bpa, .ref bbd, .ref bbc, .int cnt, .int se, .int 1])), (zl, .inr (2, [.ref zlr, .ref zli, .ref zld, .ref zlt, .int ff, .int fp])), (zli, .inl (g.2.1 1, 12, .inl inf))] := by
  refine pz_aload_n 0 F rfl dX8_cut_0 rfl ?_
  refine pz_iload_n 1 F rfl dX8_cut_1 rfl ?_
  obtain ⟨h_1, vc⟩ := vc
  refine pz_callV (nA := 1) (ci := 7) (C := RX8) (T := TX8) (N := 8) (As := [.int x]) (rest := []) (wr := [(zl, .inr (2, [.ref zlr, .ref zli, .ref zld, .ref zlt, .int ff, .int fp])), (zli, .inl (g.2.1 1, 12, .inl inf))]) F (ctX8_unspent_S _ g x h0 zt zl zc zm zb zs bn hk bq ba sl ins bpa bbd bbc cnt se jb NB h_1) 0 rfl rfl pw_481 pw_483 pv_12 pw_1 pw_484 (by decide +kernel) (by decide) (by decide) rfl rfl (Nat.le_of_ble_eq_true rfl) [0, 1, 2] [3, 4] rfl rfl rfl rfl (by decide) dX8_cut_2 (fun r0 w0 hp0 => ?_)
  obtain ⟨_, rfl, rfl, hq_2⟩ := hp0
  replace vc := vc  hq_2
  refine pz_eq (st' := [.null]) (ws' := [(zl, .inr (2, [.ref zlr, .ref zli, .ref zld, .ref zlt, .int ff, .int fp])), (zli, .inl (g.2.1 1, 12, .inl inf)), (h0, .inr (7, [.ref zt, .ref zl, .ref zc, .ref zm, .ref zb, .ref zs, .int bn, .int hk])), (zb, .inl (g.2.1 4, 10, .inr (.inr (.inr (.inr bq))))), (ba, .inr (0, [.int sl, .int ins, .ref bpa, .ref bbd, .ref bbc, .int cnt, .int se, .int 1]))]) rfl rfl ?_
  refine pz_astore_nN (lv' := [(2, .null), (0, .ref h0), (1, .int x)]) F dX8_cut_5 rfl (by decide) rfl ?_
  refine pz_aload_n 1 F rfl dX8_cut_6 rfl ?_
  refine pz_get (ci := 7) (C := RX8) (T := TX8) (N := 8) (v := .ref zl) 2 F rfl rfl pz_inX8 1 (by decide) pw_211 rfl dX8_cut_7 ?_
  refine pz_gets F (pz_line F (i := 6) (by decide)) pw_583 dX8_cut_10 ?_
  obtain ⟨h_3, vc⟩ := vc
  refine pz_callV (nA := 1) (ci := 2) (C := RX2) (T := TX2) (N := 6) (As := [.ref (g.2.2 6)]) (rest := []) (wr := [(h0, .inr (7, [.ref zt, .ref zl, .ref zc, .ref zm, .ref zb, .ref zs, .int bn, .int hk])), (zb, .inl (g.2.1 4, 10, .inr (.inr (.inr (.inr bq))))), (ba, .inr (0, [.int sl, .int ins, .ref bpa, .ref bbd, .ref bbc, .int cnt, .int se, .int 1]))]) F (ctX2_coins _ g zl 6 zlr zli zld zlt ff fp inf h_3) 0 rfl rfl pw_585 pw_513 pw_514 pw_3 pw_515 (by decide +kernel) (by decide) (by decide) rfl rfl (Nat.le_of_ble_eq_true rfl) [0, 1] [2, 3, 4] rfl rfl rfl rfl (by decide) dX8_cut_13 (fun r0 w0 hp0 => ?_)
  obtain ⟨r_4, _, rfl, rfl, hq_5⟩ := hp0
  replace vc := vc r_4  hq_5
  refine pz_eq (st' := [.int r_4]) (ws' := [(h0, .inr (7, [.ref zt, .ref zl, .ref zc, .ref zm, .ref zb, .ref zs, .int bn, .int hk])), (zb, .inl (g.2.1 4, 10, .inr (.inr (.inr (.inr bq))))), (ba, .inr (0, [.int sl, .int ins, .ref bpa, .ref bbd, .ref bbc, .int cnt, .int se, .int 1])), (zl, .inr (2, [.ref zlr, .ref zli, .ref zld, .ref zlt, .int ff, .int fp])), (zli, .inl (g.2.1 1, 12, .inl inf))]) rfl rfl ?_
  refine pz_istore_n (lv' := [(3, .int r_4), (2, .null), (0, .ref h0), (1, .int x)]) F dX8_cut_16 rfl (by decide) rfl ?_
  refine pz_aload_nN 1 F rfl dX8_cut_17 rfl ?_
  refine pz_ifnullN (tgt := 33) F dX8_cut_18 (by decide) ?_
  refine pz_iconst (v := (-1)) F dX8_cut_33 rfl ?_
  exact pz_ireturn (w1 := [(h0, .inr (7, [.ref zt, .ref zl, .ref zc, .ref zm, .ref zb, .ref zs, .int bn, .int hk])), (zb, .inl (g.2.1 4, 10, .inr (.inr (.inr (.inr bq))))), (ba, .inr (0, [.int sl, .int ins, .ref bpa, .ref bbd, .ref bbc, .int cnt, .int se, .int 1])), (zl, .inr (2, [.ref zlr, .ref zli, .ref zld, .ref zlt, .int ff, .int fp])), (zli, .inl (g.2.1 1, 12, .inl inf))]) F Rt (by decide) (by decide) dX8_cut_34 [0, 1, 2, 3, 4] rfl rfl rfl vc
set_option maxHeartbeats 4000000 in
set_option maxRecDepth 100000 in
theorem ctX8_cut_S (l : Launch) (g : pz_G) (x : Int32) (h0 : Nat) (zt : Nat) (zl : Nat) (zc : Nat) (zm : Nat) (zb : Nat) (zs : Nat) (bn : Int32) (hk : Int32) (bq : Nat → Option Nat) (ba : Nat) (sl : Int32) (ins : Int32) (bpa : Nat) (bbd : Nat) (bbc : Nat) (cnt : Int32) (se : Int32) (zlr : Nat) (zli : Nat) (zld : Nat) (zlt : Nat) (ff : Int32) (fp : Int32) (inf : Nat → Int32) (jb : Nat) (NB : Nat) (hpre : jb < NB ∧ NB ≤ 10 ∧ x = nI jb ∧ bn = nI NB ∧ bq jb = some ba) : pz_Ct l g yX8_cut cX8_cut 5 (some .int) rmX8_cut_S [.ref h0, .int x] [(h0, .inr (7, [.ref zt, .ref zl, .ref zc, .ref zm, .ref zb, .ref zs, .int bn, .int hk])), (zb, .inl (g.2.1 4, 10, .inr (.inr (.inr (.inr bq))))), (ba, .inr (0, [.int sl, .int ins, .ref bpa, .ref bbd, .ref bbc, .int cnt, .int se, .int 1])), (zl, .inr (2, [.ref zlr, .ref zli, .ref zld, .ref zlt, .int ff, .int fp])), (zli, .inl (g.2.1 1, 12, .inl inf))] (pz_pi (fun (r : Int32) (u : Unit) => r = -1) (fun (u : Unit) => [(h0, .inr (7, [.ref zt, .ref zl, .ref zc, .ref zm, .ref zb, .ref zs, .int bn, .int hk])), (zb, .inl (g.2.1 4, 10, .inr (.inr (.inr (.inr bq))))), (ba, .inr (0, [.int sl, .int ins, .ref bpa, .ref bbd, .ref bbc, .int cnt, .int se, .int 1])), (zl, .inr (2, [.ref zlr, .ref zli, .ref zld, .ref zlt, .int ff, .int fp])), (zli, .inl (g.2.1 1, 12, .inl inf))])) := by
  refine pz_ofAt (by decide +kernel) (Nat.le_of_ble_eq_true rfl) (fun B F Rt hme => ?_)
  refine sgX8_cut_S_0 F Rt x h0 zt zl zc zm zb zs bn hk bq ba sl ins bpa bbd bbc cnt se zlr zli zld zlt ff fp inf jb NB ?_
  clear F Rt hme
  refine ⟨hpre, fun _ => ⟨by omega, ?_⟩⟩
  rintro r1 rfl
  exact ⟨_, (), rfl, rfl, rfl⟩
