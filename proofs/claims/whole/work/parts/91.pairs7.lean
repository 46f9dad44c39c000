section PZQ7
variable (l : Launch) (g : pz_G) (ad rd : Nat → Nat)
def bo_a (u : Nat × Nat × Nat × Nat) (i : Nat) : Nat := if i = 0 then u.1 else if i = 1 then u.2.1 else if i = 2 then u.2.2.1 else u.2.2.2
def bo_nn (v : Nat) (i : Nat) : Nat := if i = 0 then v else 0
def bo_i (iv : Int32) (i : Nat) : Int32 := if i = 0 then iv else 0
def bo_f (ow : Int32) (i : Nat) : Nat → Int32 := if i = 0 then upd (fun _ => 0) ow.toNatClampNeg 16 else fun _ => 0
theorem cw_bo_new {s s' : cs_S} (hn : cs_cn s' 4 = cs_cn s 4 + 1) (h : ∀ i, i < cs_cn s 4 → bo_c g s' i = bo_c g s i) : cw_bo g s' = cw_bo g s ++ bo_c g s' (cs_cn s 4) := by
  unfold cw_bo
  rw [hn, List.range_succ, List.flatMap_append, List.flatMap_cons, List.flatMap_nil, List.append_nil]
  congr 1
  have : ∀ L : List Nat, (∀ i ∈ L, i < cs_cn s 4) → L.flatMap (bo_c g s') = L.flatMap (bo_c g s) := by
    intro L
    induction L with
    | nil => intro _; rfl
    | cons a L ih =>
      intro hl
      rw [List.flatMap_cons, List.flatMap_cons, h a (hl a List.mem_cons_self), ih (fun i hi => hl i (List.mem_cons_of_mem _ hi))]
  exact this _ (fun i hi => List.mem_range.mp hi)
theorem pm_abcd (a b c d : va_W) : ((a ++ b) ++ (c ++ d)).Perm ((a ++ (b ++ d)) ++ c) := by
  rw [List.append_assoc, List.append_assoc, List.append_assoc]
  exact (List.perm_append_comm.append_left b).append_left a
set_option maxHeartbeats 4000000 in
set_option maxRecDepth 100000 in
theorem ocX8_boulder_T (s : cs_S) (ow sv iv : Int32) (v : Nat) (hv : sv = nI v) (hpre : (cs_cn s 3) ≤ 8 ∧ ((cs_cn s 4) < 10 ∧ hs_in ow (cs_cn s 3) ∧ ¬ sv < 1 ∧ ¬ (8 : Int32) < sv ∧ ∀ a, a < sv.toNatClampNeg → pu_gi iv (nI a) < (nI (cs_cn s 1)))) : pz_Ct l g yX8_boulder cX8_boulder 4 (some .int) rmX8_boulder_T [.ref (ad 0), .int ow, .int sv, .int iv] (CW g ad s) (pz_pi (fun (r : Int32) (s' : cs_S) => ∃ u : Nat × Nat × Nat × Nat, r = nI (cs_cn s 4) ∧ s' = (st_u (cs_cn s) 4 (cs_cn s 4 + 1), cs_ci s, cs_cf s, cs_cl s, cs_cF s, cs_cz s, va_up (cs_cq s) (cs_cn s 4) (some u.1), st_u (cs_ba s) (cs_cn s 4) (bo_a u), st_u (cs_bn s) (cs_cn s 4) (bo_nn v), st_u (cs_bi s) (cs_cn s 4) (bo_i iv), st_u (cs_bf s) (cs_cn s 4) (bo_f ow))) (fun s' => CW g ad s')) := by
  have hM := ctX8_boulder_T l g ow sv iv (ad 0) (ad 1) (ad 3) (ad 8) (ad 17) (ad 20) (ad 21) (cs_ci s 18) (cs_cq s) (ad 18) (ad 19) (ad 9) (nI (cs_cn s 1)) (nI (cs_cn s 2)) (ad 10) (ad 11) (ad 12) (ad 13) (cs_cl s 0) (ad 14) (ad 15) (ad 16) (cs_cl s 1) (cs_cl s 2) (cs_cn s 3) (cs_cn s 4) hpre
  have hp : ((cw_fix g ad s) ++ cw_bo g s).Perm (([1, 2, 3, 4, 5, 6, 7, 9, 10, 11, 12, 13, 14, 15, 16, 18, 19, 21, 22, 23].filterMap (fun i => (cw_fix g ad s)[i]?) ++ cw_bo g s) ++ ([((ad 0), .inr (7, [.ref (ad 1), .ref (ad 3), .ref (ad 8), .ref (ad 17), .ref (ad 20), .ref (ad 21), .int (nI (cs_cn s 4)), .int (cs_ci s 18)])), ((ad 20), .inl (g.2.1 4, 10, .inr (.inr (.inr (.inr (cs_cq s)))))), ((ad 17), .inr (3, [.ref (ad 18), .ref (ad 19), .int (nI (cs_cn s 3))])), ((ad 8), .inr (1, [.ref (ad 9), .int (nI (cs_cn s 1)), .int (nI (cs_cn s 2)), .ref (ad 10), .ref (ad 11), .ref (ad 12), .ref (ad 13), .long (cs_cl s 0), .ref (ad 14), .ref (ad 15), .ref (ad 16), .long (cs_cl s 1), .long (cs_cl s 2)]))] : va_W)) := pz_W1 [0, 20, 17, 8] [1, 2, 3, 4, 5, 6, 7, 9, 10, 11, 12, 13, 14, 15, 16, 18, 19, 21, 22, 23] (show ([0, 20, 17, 8] ++ [1, 2, 3, 4, 5, 6, 7, 9, 10, 11, 12, 13, 14, 15, 16, 18, 19, 21, 22, 23] : List Nat).Perm (List.range 24) by decide +kernel) rfl
  have hr : [1, 2, 3, 4, 5, 6, 7, 9, 10, 11, 12, 13, 14, 15, 16, 18, 19, 21, 22, 23].filterMap (fun i => (cw_fix g ad s)[i]?) = [((ad 1), .inr (6, [.ref (ad 2), .int (nI (cs_cn s 0))])), ((ad 2), .inl (g.2.1 0, 400, .inl (cs_cf s 0))), ((ad 3), .inr (2, [.ref (ad 4), .ref (ad 5), .ref (ad 6), .ref (ad 7), .int (cs_ci s 1), .int (cs_ci s 2)])), ((ad 4), .inr (4, [va_rf (cs_cz s), .int (cs_ci s 3), .int (cs_ci s 4), .int (cs_ci s 5), .int (cs_ci s 6), .int (cs_ci s 7)])), ((ad 5), .inl (g.2.1 1, 12, .inl (cs_cf s 1))), ((ad 6), .inl (g.2.1 1, 12, .inl (cs_cf s 2))), ((ad 7), .inl (g.2.1 3, 12, .inl (cs_cf s 3))), ((ad 9), .inl (g.2.1 1, 4, .inl (cs_cf s 4))), ((ad 10), .inl (g.2.1 1, 3, .inl (cs_cf s 5))), ((ad 11), .inl (g.2.1 1, 12, .inl (cs_cf s 6))), ((ad 12), .inl (g.2.1 2, 108, .inr (.inl (cs_cF s 0)))), ((ad 13), .inl (g.2.1 2, 3, .inr (.inl (cs_cF s 1)))), ((ad 14), .inl (g.2.1 1, 4, .inl (cs_cf s 7))), ((ad 15), .inl (g.2.1 2, 3, .inr (.inl (cs_cF s 2)))), ((ad 16), .inl (g.2.1 2, 729, .inr (.inl (cs_cF s 3)))), ((ad 18), .inl (g.2.1 1, 8, .inl (cs_cf s 8))), ((ad 19), .inl (g.2.1 1, 8, .inl (cs_cf s 9))), ((ad 21), .inr (5, [.ref (ad 22), .ref (ad 23), .int (cs_ci s 11), .int (cs_ci s 12), .int (cs_ci s 13), .int (cs_ci s 14), .int (cs_ci s 15), .int (cs_ci s 16)])), ((ad 22), .inl (g.2.1 1, 8, .inl (cs_cf s 10))), ((ad 23), .inl (g.2.1 1, 8, .inl (cs_cf s 11)))] := rfl
  refine pz_oc hM hp ?_
  rintro r w1 ⟨z, ⟨x0, x1, x2, x3, x4⟩, rfl, rfl, hz, hx4⟩
  dsimp only at hz hx4 ⊢
  subst hx4
  obtain ⟨u, hu⟩ : ∃ u : Nat × Nat × Nat × Nat, u = (x0, x1, x2, x3) := ⟨_, rfl⟩
  refine ⟨CW g ad (st_u (cs_cn s) 4 (cs_cn s 4 + 1), cs_ci s, cs_cf s, cs_cl s, cs_cF s, cs_cz s, va_up (cs_cq s) (cs_cn s 4) (some u.1), st_u (cs_ba s) (cs_cn s 4) (bo_a u), st_u (cs_bn s) (cs_cn s 4) (bo_nn v), st_u (cs_bi s) (cs_cn s 4) (bo_i iv), st_u (cs_bf s) (cs_cn s 4) (bo_f ow)), ?_, z, (st_u (cs_cn s) 4 (cs_cn s 4 + 1), cs_ci s, cs_cf s, cs_cl s, cs_cF s, cs_cz s, va_up (cs_cq s) (cs_cn s 4) (some u.1), st_u (cs_ba s) (cs_cn s 4) (bo_a u), st_u (cs_bn s) (cs_cn s 4) (bo_nn v), st_u (cs_bi s) (cs_cn s 4) (bo_i iv), st_u (cs_bf s) (cs_cn s 4) (bo_f ow)), rfl, rfl, u, hz, rfl⟩
  have hr2 : [1, 2, 3, 4, 5, 6, 7, 9, 10, 11, 12, 13, 14, 15, 16, 18, 19, 21, 22, 23].filterMap (fun i => (cw_fix g ad (st_u (cs_cn s) 4 (cs_cn s 4 + 1), cs_ci s, cs_cf s, cs_cl s, cs_cF s, cs_cz s, va_up (cs_cq s) (cs_cn s 4) (some u.1), st_u (cs_ba s) (cs_cn s 4) (bo_a u), st_u (cs_bn s) (cs_cn s 4) (bo_nn v), st_u (cs_bi s) (cs_cn s 4) (bo_i iv), st_u (cs_bf s) (cs_cn s 4) (bo_f ow)))[i]?) = [((ad 1), .inr (6, [.ref (ad 2), .int (nI (cs_cn s 0))])), ((ad 2), .inl (g.2.1 0, 400, .inl (cs_cf s 0))), ((ad 3), .inr (2, [.ref (ad 4), .ref (ad 5), .ref (ad 6), .ref (ad 7), .int (cs_ci s 1), .int (cs_ci s 2)])), ((ad 4), .inr (4, [va_rf (cs_cz s), .int (cs_ci s 3), .int (cs_ci s 4), .int (cs_ci s 5), .int (cs_ci s 6), .int (cs_ci s 7)])), ((ad 5), .inl (g.2.1 1, 12, .inl (cs_cf s 1))), ((ad 6), .inl (g.2.1 1, 12, .inl (cs_cf s 2))), ((ad 7), .inl (g.2.1 3, 12, .inl (cs_cf s 3))), ((ad 9), .inl (g.2.1 1, 4, .inl (cs_cf s 4))), ((ad 10), .inl (g.2.1 1, 3, .inl (cs_cf s 5))), ((ad 11), .inl (g.2.1 1, 12, .inl (cs_cf s 6))), ((ad 12), .inl (g.2.1 2, 108, .inr (.inl (cs_cF s 0)))), ((ad 13), .inl (g.2.1 2, 3, .inr (.inl (cs_cF s 1)))), ((ad 14), .inl (g.2.1 1, 4, .inl (cs_cf s 7))), ((ad 15), .inl (g.2.1 2, 3, .inr (.inl (cs_cF s 2)))), ((ad 16), .inl (g.2.1 2, 729, .inr (.inl (cs_cF s 3)))), ((ad 18), .inl (g.2.1 1, 8, .inl (cs_cf s 8))), ((ad 19), .inl (g.2.1 1, 8, .inl (cs_cf s 9))), ((ad 21), .inr (5, [.ref (ad 22), .ref (ad 23), .int (cs_ci s 11), .int (cs_ci s 12), .int (cs_ci s 13), .int (cs_ci s 14), .int (cs_ci s 15), .int (cs_ci s 16)])), ((ad 22), .inl (g.2.1 1, 8, .inl (cs_cf s 10))), ((ad 23), .inl (g.2.1 1, 8, .inl (cs_cf s 11)))] := rfl
  have hb : bo_c g (st_u (cs_cn s) 4 (cs_cn s 4 + 1), cs_ci s, cs_cf s, cs_cl s, cs_cF s, cs_cz s, va_up (cs_cq s) (cs_cn s 4) (some u.1), st_u (cs_ba s) (cs_cn s 4) (bo_a u), st_u (cs_bn s) (cs_cn s 4) (bo_nn v), st_u (cs_bi s) (cs_cn s 4) (bo_i iv), st_u (cs_bf s) (cs_cn s 4) (bo_f ow)) (cs_cn s 4) = [(u.1, .inr (0, [.int sv, .int iv, .ref u.2.1, .ref u.2.2.1, .ref u.2.2.2, .int 0, .int 0, .int 0])), (u.2.1, .inl (g.2.1 1, 8, .inl (upd (fun _ => 0) ow.toNatClampNeg 16))), (u.2.2.1, .inl (g.2.1 1, 8, .inl (fun _ => 0))), (u.2.2.2, .inl (g.2.1 1, 8, .inl (fun _ => 0)))] := by
    simp only [bo_c, cs_ba, cs_bn, cs_bi, cs_bf, st_us, hv]
    rfl
  have hn : cw_bo g (st_u (cs_cn s) 4 (cs_cn s 4 + 1), cs_ci s, cs_cf s, cs_cl s, cs_cF s, cs_cz s, va_up (cs_cq s) (cs_cn s 4) (some u.1), st_u (cs_ba s) (cs_cn s 4) (bo_a u), st_u (cs_bn s) (cs_cn s 4) (bo_nn v), st_u (cs_bi s) (cs_cn s 4) (bo_i iv), st_u (cs_bf s) (cs_cn s 4) (bo_f ow)) = cw_bo g s ++ bo_c g (st_u (cs_cn s) 4 (cs_cn s 4 + 1), cs_ci s, cs_cf s, cs_cl s, cs_cF s, cs_cz s, va_up (cs_cq s) (cs_cn s 4) (some u.1), st_u (cs_ba s) (cs_cn s 4) (bo_a u), st_u (cs_bn s) (cs_cn s 4) (bo_nn v), st_u (cs_bi s) (cs_cn s 4) (bo_i iv), st_u (cs_bf s) (cs_cn s 4) (bo_f ow)) (cs_cn s 4) := cw_bo_new g rfl (fun i hi => by simp only [bo_c, cs_ba, cs_bn, cs_bi, cs_bf, st_un (Nat.ne_of_lt hi)])
  have hz := pz_W2 (L := (cw_fix g ad s)) (L' := cw_fix g ad (st_u (cs_cn s) 4 (cs_cn s 4 + 1), cs_ci s, cs_cf s, cs_cl s, cs_cF s, cs_cz s, va_up (cs_cq s) (cs_cn s 4) (some u.1), st_u (cs_ba s) (cs_cn s 4) (bo_a u), st_u (cs_bn s) (cs_cn s 4) (bo_nn v), st_u (cs_bi s) (cs_cn s 4) (bo_i iv), st_u (cs_bf s) (cs_cn s 4) (bo_f ow))) (w1 := [((ad 0), .inr (7, [.ref (ad 1), .ref (ad 3), .ref (ad 8), .ref (ad 17), .ref (ad 20), .ref (ad 21), .int (nI (cs_cn s 4 + 1)), .int (cs_ci s 18)])), ((ad 20), .inl (g.2.1 4, 10, .inr (.inr (.inr (.inr (va_up (cs_cq s) (cs_cn s 4) (some u.1))))))), ((ad 17), .inr (3, [.ref (ad 18), .ref (ad 19), .int (nI (cs_cn s 3))])), ((ad 8), .inr (1, [.ref (ad 9), .int (nI (cs_cn s 1)), .int (nI (cs_cn s 2)), .ref (ad 10), .ref (ad 11), .ref (ad 12), .ref (ad 13), .long (cs_cl s 0), .ref (ad 14), .ref (ad 15), .ref (ad 16), .long (cs_cl s 1), .long (cs_cl s 2)]))]) (t := cw_bo g s ++ [(u.1, .inr (0, [.int sv, .int iv, .ref u.2.1, .ref u.2.2.1, .ref u.2.2.2, .int 0, .int 0, .int 0])), (u.2.1, .inl (g.2.1 1, 8, .inl (upd (fun _ => 0) ow.toNatClampNeg 16))), (u.2.2.1, .inl (g.2.1 1, 8, .inl (fun _ => 0))), (u.2.2.2, .inl (g.2.1 1, 8, .inl (fun _ => 0)))]) [0, 20, 17, 8] [1, 2, 3, 4, 5, 6, 7, 9, 10, 11, 12, 13, 14, 15, 16, 18, 19, 21, 22, 23] (show ([0, 20, 17, 8] ++ [1, 2, 3, 4, 5, 6, 7, 9, 10, 11, 12, 13, 14, 15, 16, 18, 19, 21, 22, 23] : List Nat).Perm (List.range 24) by decide +kernel) rfl (hr2.trans hr.symm)
  rw [← hb, ← hn] at hz
  refine List.Perm.trans ?_ hz
  rw [hn, hb, hu]
  exact pm_abcd _ _ ([((ad 0), .inr (7, [.ref (ad 1), .ref (ad 3), .ref (ad 8), .ref (ad 17), .ref (ad 20), .ref (ad 21), .int (nI (cs_cn s 4 + 1)), .int (cs_ci s 18)])), ((ad 20), .inl (g.2.1 4, 10, .inr (.inr (.inr (.inr (va_up (cs_cq s) (cs_cn s 4) (some x0))))))), ((ad 17), .inr (3, [.ref (ad 18), .ref (ad 19), .int (nI (cs_cn s 3))])), ((ad 8), .inr (1, [.ref (ad 9), .int (nI (cs_cn s 1)), .int (nI (cs_cn s 2)), .ref (ad 10), .ref (ad 11), .ref (ad 12), .ref (ad 13), .long (cs_cl s 0), .ref (ad 14), .ref (ad 15), .ref (ad 16), .long (cs_cl s 1), .long (cs_cl s 2)]))] : va_W) ([(x0, .inr (0, [.int sv, .int iv, .ref x1, .ref x2, .ref x3, .int 0, .int 0, .int 0])), (x1, .inl (g.2.1 1, 8, .inl (upd (fun _ => 0) ow.toNatClampNeg 16))), (x2, .inl (g.2.1 1, 8, .inl (fun _ => 0))), (x3, .inl (g.2.1 1, 8, .inl (fun _ => 0)))] : va_W)
theorem rl_sm0 : ∀ n, rl_sm (fun _ => 0) n = 0 := by
  intro n
  induction n with
  | zero => rfl
  | succ n ih => rw [rl_sm, ih]
theorem pr_boulder (ow sv iv : Int32) : pr_I l g ad rd yX8_boulder cX8_boulder 4 yX9_boulder cX9_boulder 5 (some .int) [.int ow, .int sv, .int iv] := by
  intro s t n hR hn
  obtain ⟨hc, hT, hRu, hf, hG, hK, hM, hB, hS, hh, hW⟩ := hR
  have hM8 := hM.1
  have hN := hB.1
  have eM := hc.2.2.2.1
  have eN := hc.2.2.2.2
  have eG := hc.2.1
  have hr := ocX9_boulder l g rd t ow sv iv ⟨by omega, by omega⟩ (fun r u h => by
    rcases h with h | h
    · rw [h.2.2.1, nI_clamp (by omega)]
    · rw [h.2.2.1, nI_clamp (by omega)])
  by_cases ok : (cs_cn s 4) < 10 ∧ hs_in ow (cs_cn s 3) ∧ ¬ sv < 1 ∧ ¬ (8 : Int32) < sv ∧ ∀ a, a < sv.toNatClampNeg → pu_gi iv (nI a) < (nI (cs_cn s 1))
  · obtain ⟨v, hv8, hv⟩ := bo_n ok.2.2.1 ok.2.2.2.1
    refine ⟨_, _, ⟨rmX8_boulder_T, by decide, ocX8_boulder_T l g ad s ow sv iv v hv ⟨hM8, ok⟩⟩, ⟨rmX9_boulder, by decide, hr⟩, ?_⟩
    rintro r s' r' t' ⟨u, h1, rfl⟩ ⟨⟨w1, w2, w3, w4, w5, w6, w7⟩, h2, rfl⟩
    rcases h2 with ⟨q2, h2, rfl, rfl, rfl, rfl, rfl, rfl, h3⟩ | ⟨q2, h2⟩
    · dsimp only at h3 ⊢
      obtain ⟨o, ho, eo⟩ := hs_nI (by omega) ok.2.1
      rw [nI_clamp (show rs_rn t 4 + 1 < 2 ^ 31 by omega)]
      refine ⟨by rw [h1, h2, eN], ⟨hc.1, hc.2.1, hc.2.2.1, hc.2.2.2.1, ?_⟩, hT, hRu, hf, hG, hK, rl_M_le hM, ⟨?_, fun k hk => ?_⟩, hS, hh, hW⟩
      · show cs_cn s 4 + 1 = rs_rn t 4 + 1
        omega
      · show cs_cn s 4 + 1 ≤ 10
        omega
      · have hk' : k < cs_cn s 4 + 1 := hk
        show va_up (cs_cq s) (cs_cn s 4) (some u.1) k = some (st_u (cs_ba s) (cs_cn s 4) (bo_a u) k 0) ∧ rl_B (cs_cn s 3) (st_u (cs_bn s) (cs_cn s 4) (bo_nn v) k 0) (st_u (cs_bn s) (cs_cn s 4) (bo_nn v) k 1) (st_u (cs_bn s) (cs_cn s 4) (bo_nn v) k 2) (st_u (cs_bi s) (cs_cn s 4) (bo_i iv) k 0) (st_u (cs_bi s) (cs_cn s 4) (bo_i iv) k 1) (st_u (cs_bf s) (cs_cn s 4) (bo_f ow) k 0) (st_u (cs_bf s) (cs_cn s 4) (bo_f ow) k 1) (st_u (cs_bf s) (cs_cn s 4) (bo_f ow) k 2) (upd (rs_rf t 5) (rs_rn t 4) sv k) (upd (rs_rf t 6) (rs_rn t 4) iv k) (upd (rs_rf t 7) (rs_rn t 4) 0 k) (upd (rs_rf t 8) (rs_rn t 4) 0 k) (upd (rs_rf t 10) (rs_rn t 4) 0 k) (sl8 w7 k) (sl8 (rs_rf t 11) k) (sl8 (rs_rf t 12) k)
        rw [← eN]
        by_cases e : k = cs_cn s 4
        · rw [e, st_us (f := cs_ba s), st_us (f := cs_bn s), st_us (f := cs_bi s), st_us (f := cs_bf s), pk_us, pk_us, pk_us, pk_us, pk_us]
          refine ⟨if_pos rfl, ⟨hv, ?_, hv8⟩, rfl, ⟨nI_0.symm, Nat.zero_le _⟩, ⟨rfl, Or.inl ⟨rfl, ?_⟩⟩, nI_0.symm, fun a ha => ?_, ?_, fun a ha => absurd ha (by show ¬ a < 0; omega), ⟨Nat.zero_le _, fun a ha => absurd ha (by show ¬ a < 0; omega), fun a c ha => absurd ha (by show ¬ a < 0; omega)⟩⟩
          · show 1 ≤ v
            rcases Nat.eq_zero_or_pos v with h | h
            · rw [h] at hv; rw [hv] at ok; exact absurd (by decide) ok.2.2.1
            · exact h
          · show 0 < v
            rcases Nat.eq_zero_or_pos v with h | h
            · rw [h] at hv; rw [hv] at ok; exact absurd (by decide) ok.2.2.1
            · exact h
          · show upd (fun _ => 0) ow.toNatClampNeg 16 a = w7 (8 * cs_cn s 4 + a)
            rw [h3 _ (by omega), bo_p, ← eN, if_pos (by omega), show 8 * cs_cn s 4 + a - 8 * cs_cn s 4 = a by omega, eo, nI_clamp (by omega)]
            by_cases q : a = o
            · rw [q, pk_us, if_pos rfl]
            · rw [pk_un q, if_neg (by rw [nI_eq (by omega) (by omega)]; exact q)]
          · show rl_P _ (upd (fun _ => 0) ow.toNatClampNeg 16)
            rw [eo, nI_clamp (by omega)]
            refine ⟨st_u (fun _ => 0) o 16, fun j hj => ⟨?_, fun z => st_un (by omega)⟩, ?_⟩
            · exact st_nI (f := fun _ => 0) (v := fun _ => 0) (y := 16) nI_0.symm
            · have := rl_sm_u (v := fun _ => 0) (i := o) (y := 16) 8 (by omega)
              rw [rl_sm0] at this
              omega
        · rw [st_un (f := cs_ba s) e, st_un (f := cs_bn s) e, st_un (f := cs_bi s) e, st_un (f := cs_bf s) e, pk_un e, pk_un e, pk_un e, pk_un e, pk_un e]
          obtain ⟨b1, b2⟩ := hB.2 k (by omega)
          refine ⟨?_, rl_B_cg b2 (fun a ha => ?_) (fun _ _ => rfl) (fun _ _ => rfl)⟩
          · rw [← b1]; exact if_neg e
          · show w7 (8 * k + a) = rs_rf t 9 (8 * k + a)
            rw [h3 _ (by omega), bo_p, if_neg (by omega)]
    · refine absurd ⟨by rw [← eM]; exact ok.2.1, ok.2.2.1, ok.2.2.2.1, by omega, ?_⟩ q2
      rw [← eG]; exact ok.2.2.2.2
  · refine ⟨_, _, ⟨rmX8_boulder_R, by decide, ocX8_boulder_R l g ad s ow sv iv ⟨hN, ok⟩⟩, ⟨rmX9_boulder, by decide, hr⟩, ?_⟩
    rintro r s' r' t' ⟨u, h1, rfl⟩ ⟨⟨w1, w2, w3, w4, w5, w6, w7⟩, h2, rfl⟩
    rcases h2 with ⟨q2, h2⟩ | ⟨q2, h2, rfl, rfl, rfl, rfl, rfl, rfl, rfl⟩
    · refine absurd ⟨by omega, by rw [eM]; exact q2.1, q2.2.1, q2.2.2.1, ?_⟩ ok
      rw [eG]; exact q2.2.2.2.2
    · dsimp only
      rw [st_id (nI_clamp (show rs_rn t 4 < 2 ^ 31 by omega)).symm, st_id (f := rs_rf t) (i := 5) rfl, st_id (f := rs_rf t) (i := 6) rfl, st_id (f := rs_rf t) (i := 7) rfl, st_id (f := rs_rf t) (i := 8) rfl, st_id (f := rs_rf t) (i := 10) rfl, st_id (f := rs_rf t) (i := 9) rfl]
      exact ⟨h1.trans h2.symm, hc, hT, hRu, hf, hG, hK, rl_M_le hM, hB, hS, hh, hW⟩
end PZQ7
