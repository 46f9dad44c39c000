section LAW3
theorem pz_lvs {B : pz_B} {k n pc : Nat} {lv lv' : List (Nat × Value)} {st : List Value} {ws : va_W} (is : List Nat) (hl' : lv_pick lv is = lv') (h : pz_At B k n pc lv' st ws) : pz_At B k n pc lv st ws := fun ls H locs hl hP hD hS => h ls H locs (lv_sub hl is hl') hP hD hS
theorem lk_pair {s : cs_S} {t : rs_S} {n : Nat} {x w r r' u : Int32} {f : Nat → Int64} (hR : Rel s t n) (h1 : lk_P s x w r f)
    (h2 : (¬ hs_in x (rs_rn t 4) ∧ u = 1) ∨ (hs_in x (rs_rn t 4) ∧ (w = 0 ∨ w = 1 ∨ w = 2 ∨ w = 3) ∧ u = 0 ∧ r' = if w = 0 then (rs_rf t 5) x.toNatClampNeg else if w = 1 then (rs_rf t 7) x.toNatClampNeg else if w = 2 then (if (rs_rf t 8) x.toNatClampNeg = 0 then 0 else 1) else (rs_rf t 10) x.toNatClampNeg) ∨ (hs_in x (rs_rn t 4) ∧ ¬ (w = 0 ∨ w = 1 ∨ w = 2 ∨ w = 3) ∧ u = 2)) :
    u = r ∧ (r = 0 → f 0 = r'.toInt64) ∧ Rel s (rs_rn t, st_u (rs_ri t) 0 u, rs_rf t, rs_rl t, rs_rF t) (n + 1) := by
  obtain ⟨hc, hT, hRu, hf, hG, hK, hM, hB, hS, hh, hW⟩ := hR
  have eN := hc.2.2.2.2
  have hN := hB.1
  rw [← eN] at h2
  refine ⟨?_, fun h0 => ?_, hc, hT, hRu, hf, hG, hK, rl_M_le hM, hB, hS, hh, hW⟩
  · rcases h1 with ⟨a1, a2⟩ | ⟨a1, a3, a2⟩ | ⟨j, a1, a3, a4, a2, _⟩
    · rcases h2 with ⟨b1, b2⟩ | ⟨b1, _⟩ | ⟨b1, _⟩
      · rw [a2, b2]
      · exact absurd b1 a1
      · exact absurd b1 a1
    · rcases h2 with ⟨b1, b2⟩ | ⟨_, b1, _⟩ | ⟨_, _, b2⟩
      · exact absurd a1 b1
      · exact absurd b1 a3
      · rw [a2, b2]
    · rcases h2 with ⟨b1, b2⟩ | ⟨_, _, b2, _⟩ | ⟨_, b1, _⟩
      · exact absurd (by rw [a3]; exact wh_in a1 hN) b1
      · rw [a2, b2]
      · exact absurd a4 b1
  · rcases h1 with ⟨a1, a2⟩ | ⟨a1, a3, a2⟩ | ⟨j, a1, a3, a4, a2, a5⟩
    · rw [a2] at h0; exact absurd h0 (by decide)
    · rw [a2] at h0; exact absurd h0 (by decide)
    · rcases h2 with ⟨b1, b2⟩ | ⟨_, _, _, b2⟩ | ⟨_, b1, _⟩
      · exact absurd (by rw [a3]; exact wh_in a1 hN) b1
      · obtain ⟨c1, c2, c3, c4, c5, _⟩ := (hB.2 j a1).2
        rw [a5, b2, a3, nI_clamp (by omega), c1.1, c3.1, c4.1, c5]
      · exact absurd a4 b1
set_option maxHeartbeats 4000000 in
set_option maxRecDepth 100000 in
theorem lwc_look {B : pz_B} {g : pz_G} {b L o K N i : Nat} {xs : Nat → Int32} {ad rd : Nat → Nat} {s : cs_S} {t : rs_S} {fo : Nat → Int64} (F : pz_F B cL_law 7 ret "StoneHallLaw" g room_1) (hlk : lk_W (pz_s B)) (hl : B.1.2.1.stackTraces = false) (hX : lw_X B b L xs) (hi : 6 * i + 6 ≤ L) (hL : L ≤ 3072) (hR : Rel s t i) (hc : K + 10 ≤ 601024 ∧ N + 80 ≤ 7293034)
    (h : ∀ s' t' fo', Rel s' t' (i + 1) → pz_At B (K + 10) (N + 80) 922 (lw_lv b (ad 0) (rd 0) o i) [] (lw_w g ad rd o s' t' fo')) : pz_At B K N 641 (lw_lv b (ad 0) (rd 0) o i) [] (lw_w g ad rd o s t fo) := by
  have hN10 : rs_rn t 4 ≤ 10 := by have := hR.2.2.2.2.2.2.2.1.1; have := hR.1.2.2.2.2; omega
  refine pz_aload_n 2 F rfl dL_law_641 rfl ?_
  refine ar_ld (q := 1) (h := ad 0) (r := rd 0) (o := o) F hX hi hL (by omega) rfl rfl rfl dL_law_642 dL_law_643 dL_law_645 dL_law_646 dL_law_647 ?_
  refine ar_ld (q := 2) (h := ad 0) (r := rd 0) (o := o) F hX hi hL (by omega) rfl rfl rfl dL_law_648 dL_law_649 dL_law_651 dL_law_652 dL_law_653 ?_
  refine pz_aload_n 4 F rfl dL_law_654 rfl ?_
  refine pz_perm (pm_rot _ _ _) ?_
  refine lk_callS (As := [.ref (ad 0), .int (xs (6 * i + 1)), .int (xs (6 * i + 2)), .ref o]) (rest := []) (wr := RWd g rd t) F hlk (ctL_look B.1.2.1 g ad hl hR o fo (xs (6 * i + 1)) (xs (6 * i + 2))) (by decide) ⟨by show K + 1 ≤ 601024; omega, by show N + 6 ≤ 7293034; omega⟩ rfl rfl (Nat.le_of_ble_eq_true rfl) dL_law_655 ?_
  rintro _ _ ⟨z, f, rfl, rfl, hP⟩
  refine pz_perm (pm_rot _ _ _).symm ?_
  refine pz_istore (i := 5) (x := z) (lv' := (5, .int z) :: lw_lv b (ad 0) (rd 0) o i) F dL_law_658 (by decide) rfl ?_
  refine pz_lvs [1, 2, 3, 4, 5, 0] (lv' := lw_lv b (ad 0) (rd 0) o i ++ [(5, .int z)]) rfl ?_
  refine pz_aload_n 3 F rfl dL_law_660 rfl ?_
  refine ar_ld (q := 1) (h := ad 0) (r := rd 0) (o := o) F hX hi hL (by omega) rfl rfl rfl dL_law_661 dL_law_662 dL_law_664 dL_law_665 dL_law_666 ?_
  refine ar_ld (q := 2) (h := ad 0) (r := rd 0) (o := o) F hX hi hL (by omega) rfl rfl rfl dL_law_667 dL_law_668 dL_law_670 dL_law_671 dL_law_672 ?_
  refine pz_perm (pm_sw _ _ _) ?_
  refine pz_callW (nA := 2) (ci := 8) (C := RX9) (T := TX9) (N := 42) (As := [.int (xs (6 * i + 1)), .int (xs (6 * i + 2))]) (rest := []) (wr := lo_c g o f ++ CW g ad s) F (ocX9_look _ g rd t (xs (6 * i + 1)) (xs (6 * i + 2)) hN10) rfl rfl pw_1076 pw_1077 pw_1078 pw_8 pw_1079 (by decide +kernel) (by decide) ⟨by show K + 1 + rmX9_look.cells ≤ 601024; show K + 1 + 0 ≤ 601024; omega, by show N + 6 + 0 ≤ 7293034; omega⟩ rfl rfl (Nat.le_of_ble_eq_true rfl) dL_law_673 ?_
  rintro _ _ ⟨z', t', rfl, rfl, u, hu, rfl⟩
  obtain ⟨e1, e2, e3⟩ := lk_pair hR hP hu
  refine pz_istore (i := 6) (x := z') (lv' := (6, .int z') :: (lw_lv b (ad 0) (rd 0) o i ++ [(5, .int z)])) F dL_law_676 (by decide) rfl ?_
  refine pz_aload_n 4 F rfl dL_law_678 rfl ?_
  refine pz_callW (nA := 0) (ci := 8) (C := RX9) (T := TX9) (N := 42) (As := []) (rest := []) (wr := lo_c g o f ++ CW g ad s) F (ocX9_thrown _ g rd _) rfl rfl pw_935 pw_936 pw_937 pw_8 pw_938 (by decide +kernel) (by decide) ⟨by show K + 1 + 0 + 0 ≤ 601024; omega, by show N + 6 + 0 + 0 ≤ 7293034; omega⟩ rfl rfl (Nat.le_of_ble_eq_true rfl) dL_law_679 ?_
  rintro _ _ ⟨z2, t2, rfl, rfl, _, hz2, rfl⟩
  refine pz_perm (pm_sw _ _ _) ?_
  have hz3 : z2 = z := hz2.trans e1
  refine pz_iload 6 F rfl dL_law_682 ?_
  refine pz_icmp_eq (tgt := 689) F dL_law_684 (by decide) (fun _ => ?_) (fun hne => absurd hz3 hne)
  refine pz_iload 6 F rfl dL_law_689 ?_
  have fin : pz_At B (K + 1 + 0 + 0) (N + 6 + 0 + 0) 706 ((6, .int z') :: (lw_lv b (ad 0) (rd 0) o i ++ [(5, .int z)])) [] (lw_w g ad rd o s (rs_rn t, st_u (rs_ri t) 0 u, rs_rf t, rs_rl t, rs_rF t) f) := by
    refine pz_goto (tgt := 922) F dL_law_706 (by decide) ?_
    refine pz_lvs [1, 2, 3, 4, 5] (lv' := lw_lv b (ad 0) (rd 0) o i) rfl ?_
    exact pz_wid (by omega) (by omega) (h s _ f e3)
  refine pz_if_ne (tgt := 706) F dL_law_691 (by decide) (fun _ => fin) (fun q0 => ?_)
  refine pz_aload_n 5 F rfl dL_law_694 rfl ?_
  refine pz_iconst (v := 0) F dL_law_695 rfl ?_
  refine pz_laload 0 F rfl (show vp_in (0 : Int32) 1 from vp_in_nI (n := 0) (by omega) (by omega)) dL_law_696 ?_
  refine pz_iload 0 F rfl dL_law_697 ?_
  refine pz_i2l F dL_law_699 ?_
  refine pz_lcmp F dL_law_700 ?_
  refine pz_if_eq (tgt := 706) F dL_law_701 (by decide) (fun _ => fin) (fun hne => absurd (by rw [lg_cmp_eq]; exact e2 q0) hne)
end LAW3
