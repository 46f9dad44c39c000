section LAW4
/-- the law's loop: from any call on, to the end -/
theorem lw_loop {B : pz_B} {g : pz_G} {b L o K0 N0 : Nat} {xs : Nat → Int32} {ad rd : Nat → Nat} (F : pz_F B cL_law 7 ret "StoneHallLaw" g room_1) (hlk : lk_W (pz_s B)) (hl : B.1.2.1.stackTraces = false) (hX : lw_X B b L xs) (hL : L ≤ 3072) (hK0 : K0 ≤ 1000) (hN0 : N0 ≤ 100000)
    (hEnd : ∀ (k n : Nat) (lv : List (Nat × Value)) (ws : va_W), k ≤ 601024 → n ≤ 7293034 → pz_At B k n 929 lv [.int 1] ws) :
    ∀ (d i : Nat) (s : cs_S) (t : rs_S) (fo : Nat → Int64), 6 * i + 6 * d ≥ 3072 → i ≤ 512 → Rel s t i → pz_At B (K0 + 10 * i) (N0 + 80 * i) 23 (lw_lv b (ad 0) (rd 0) o i) [] (lw_w g ad rd o s t fo) := by
  intro d
  induction d with
  | zero =>
    intro i s t fo hd hi hR
    refine pz_iload 0 F rfl dL_law_23 ?_
    refine pz_aload_n 1 F rfl dL_law_25 rfl ?_
    refine pz_slen F hX dL_law_26 ?_
    refine pz_bipush (v := 6) F dL_law_27 rfl ?_
    refine pz_isub F dL_law_29 ?_
    refine pz_icmp_gt (tgt := 928) F dL_law_30 (by decide) (fun _ => ?_) (fun q => absurd ?_ q)
    · refine pz_iconst (v := 1) F dL_law_928 rfl ?_
      exact hEnd _ _ _ _ (by omega) (by omega)
    · rw [Int32.lt_iff_toInt_lt, show (6 : Int32) = nI 6 from rfl, pk_sub_toInt (by omega) (by omega), nI_toInt (by omega)]
      omega
  | succ d ih =>
    intro i s t fo hd hi hR
    refine pz_iload 0 F rfl dL_law_23 ?_
    refine pz_aload_n 1 F rfl dL_law_25 rfl ?_
    refine pz_slen F hX dL_law_26 ?_
    refine pz_bipush (v := 6) F dL_law_27 rfl ?_
    refine pz_isub F dL_law_29 ?_
    refine pz_icmp_gt (tgt := 928) F dL_law_30 (by decide) (fun _ => ?_) (fun q => ?_)
    · refine pz_iconst (v := 1) F dL_law_928 rfl ?_
      exact hEnd _ _ _ _ (by omega) (by omega)
    · have h6 : 6 * i + 6 ≤ L := by
        rw [Int32.lt_iff_toInt_lt, show (6 : Int32) = nI 6 from rfl, pk_sub_toInt (by omega) (by omega), nI_toInt (by omega)] at q
        omega
      have next : ∀ s' t' fo', Rel s' t' (i + 1) → pz_At B (K0 + 10 * i + 10) (N0 + 80 * i + 80) 922 (lw_lv b (ad 0) (rd 0) o i) [] (lw_w g ad rd o s' t' fo') := fun s' t' fo' hR' => by
        refine pz_iinc 0 (v := nI (6 * (i + 1))) (lv' := lw_lv b (ad 0) (rd 0) o (i + 1)) F rfl dL_law_922 ?_ (by decide) rfl ?_
        · rw [show Int32.ofInt 6 = nI 6 from rfl, nI_add]
          rfl
        refine pz_goto (tgt := 23) F dL_law_925 (by decide) ?_
        exact ih (i + 1) s' t' fo' (by omega) (by omega) hR'
      refine pz_aload_n 1 F rfl dL_law_33 rfl ?_
      refine pz_iload 0 F rfl dL_law_34 ?_
      refine pz_sld F hX (vp_in_nI (by omega) (by omega)) dL_law_36 ?_
      refine pz_bipush (v := 31) F dL_law_37 rfl ?_
      refine pz_iand F dL_law_39 ?_
      obtain ⟨v, hv, ev⟩ := pk_andE (xs (nI (6 * i)).toNatClampNeg) (m := 31) 5 (by decide)
      rw [ev]
      have hKN : K0 + 10 * i + 10 ≤ 601024 ∧ N0 + 80 * i + 80 ≤ 7293034 := by omega
      by_cases h20 : v < 20
      · rcases (show v = 0 ∨ v = 1 ∨ v = 2 ∨ v = 3 ∨ v = 4 ∨ v = 5 ∨ v = 6 ∨ v = 7 ∨ v = 8 ∨ v = 9 ∨ v = 10 ∨ v = 11 ∨ v = 12 ∨ v = 13 ∨ v = 14 ∨ v = 15 ∨ v = 16 ∨ v = 17 ∨ v = 18 ∨ v = 19 by omega) with rfl | rfl | rfl | rfl | rfl | rfl | rfl | rfl | rfl | rfl | rfl | rfl | rfl | rfl | rfl | rfl | rfl | rfl | rfl | rfl
        · exact pz_tsw (off := 96) (tgt := 136) F dL_law_40 (by decide) (by decide) rfl (by decide) (lwc_feed F hX h6 hL hR hKN next)
        · exact pz_tsw (off := 169) (tgt := 209) F dL_law_40 (by decide) (by decide) rfl (by decide) (lwc_customs F hX h6 hL hR hKN next)
        · exact pz_tsw (off := 194) (tgt := 234) F dL_law_40 (by decide) (by decide) rfl (by decide) (lwc_fault F hX h6 hL hR hKN next)
        · exact pz_tsw (off := 219) (tgt := 259) F dL_law_40 (by decide) (by decide) rfl (by decide) (lwc_grade F hX h6 hL hR hKN next)
        · exact pz_tsw (off := 244) (tgt := 284) F dL_law_40 (by decide) (by decide) rfl (by decide) (lwc_kind F hX h6 hL hR hKN next)
        · exact pz_tsw (off := 317) (tgt := 357) F dL_law_40 (by decide) (by decide) rfl (by decide) (lwc_man F hX h6 hL hR hKN next)
        · exact pz_tsw (off := 342) (tgt := 382) F dL_law_40 (by decide) (by decide) rfl (by decide) (lwc_boulder F hX h6 hL hR hKN next)
        · exact pz_tsw (off := 391) (tgt := 431) F dL_law_40 (by decide) (by decide) rfl (by decide) (lwc_share F hX h6 hL hR hKN next)
        · exact pz_tsw (off := 452) (tgt := 492) F dL_law_40 (by decide) (by decide) rfl (by decide) (lwc_bid F hX h6 hL hR hKN next)
        · exact pz_tsw (off := 501) (tgt := 541) F dL_law_40 (by decide) (by decide) rfl (by decide) (lwc_open F hX h6 hL hR hKN next)
        · exact pz_tsw (off := 526) (tgt := 566) F dL_law_40 (by decide) (by decide) rfl (by decide) (lwc_sale F hX h6 hL hR hKN next)
        · exact pz_tsw (off := 551) (tgt := 591) F dL_law_40 (by decide) (by decide) rfl (by decide) (lwc_cut F hX h6 hL hR hKN next)
        · exact pz_tsw (off := 576) (tgt := 616) F dL_law_40 (by decide) (by decide) rfl (by decide) (lwc_sell F hX h6 hL hR hKN next)
        · exact pz_tsw (off := 601) (tgt := 641) F dL_law_40 (by decide) (by decide) rfl (by decide) (lwc_look F hlk hl hX h6 hL hR hKN next)
        · exact pz_tsw (off := 669) (tgt := 709) F dL_law_40 (by decide) (by decide) rfl (by decide) (lwc_parts F hX h6 hL hR hKN next)
        · exact pz_tsw (off := 706) (tgt := 746) F dL_law_40 (by decide) (by decide) rfl (by decide) (lwc_purse F hX h6 hL hR hKN next)
        · exact pz_tsw (off := 731) (tgt := 771) F dL_law_40 (by decide) (by decide) rfl (by decide) (lwc_rest F hX h6 hL hR hKN next)
        · exact pz_tsw (off := 769) (tgt := 809) F dL_law_40 (by decide) (by decide) rfl (by decide) (lwc_best F hX h6 hL hR hKN next)
        · exact pz_tsw (off := 807) (tgt := 847) F dL_law_40 (by decide) (by decide) rfl (by decide) (lwc_likely F hX h6 hL hR hKN next)
        · exact pz_tsw (off := 857) (tgt := 897) F dL_law_40 (by decide) (by decide) rfl (by decide) (lwc_count F hX h6 hL hR hKN next)
      · refine pz_tswO (tgt := 922) F dL_law_40 (Or.inr ?_) (by decide) ?_
        · rw [nI_toInt (by omega)]; omega
        · exact pz_wid (by omega) (by omega) (next s t fo (rl_ui hR))
end LAW4
