/-! ===== the law's look ===== -/
section LK
variable {l : Launch} {g : pz_G} {y : MethodName} {cc : ByteArray} {nL : Nat} {ret : Option FieldType} {R : Room} {av : List Value}
/-- a throwing contract over a larger world -/
theorem px_oc {wc wr W : va_W} {E : String} (hM : px_Ct l g y cc nL ret R av wc E) (hp : W.Perm (wr ++ wc)) : px_Ct l g y cc nL ret R av W E := by
  intro sz
  intro p e ha hc hk s m args below hf happ hP ht
  obtain ⟨⟨hav, hsz, hPW, hK, hD, hSt⟩, hlk⟩ := hP
  have hP2 : va_P g.1 vwCl (wr ++ wc) s.heap := pz_Pperm hp hPW
  have hD2 : va_D (fun _ => True) (wr ++ wc) := pz_Dperm hp hD
  have hin : ∀ q ∈ wc, q ∈ W := fun q h => hp.mem_iff.mpr (List.mem_append_right _ h)
  have hPc : va_P g.1 vwCl wc s.heap := hP2.sub _ (pz_pick (pz_rgC wr wc))
  have hDc : va_D (fun _ => True) wc := hD2.sub _ (pz_rgN _ _) (pz_rgC wr wc)
  obtain ⟨k, o, t, h2, h3, hQ⟩ := hM sz p e ha hc hk s m args below hf happ ⟨⟨hav, hsz, hPc, hK, hDc, hSt.narrow (pz_Asub hin)⟩, hlk⟩ ht
  rcases hQ with ⟨hF, _⟩ | ⟨q, ho, E', ce, L, ⟨hE, hP1, hD1, hF⟩, c1, c2, c3, c4, c5, hL⟩
  · exact hF.elim
  · have hA : ∀ q, va_A wc s.heap.size q → va_A W s.heap.size q := pz_Asub hin
    have hDW : va_D (va_A W s.heap.size) (wr ++ wc) := pz_Dperm hp hD.self
    obtain ⟨hP4, hD4⟩ := va_join (w1 := wc) hP2 hDW ((List.range wc.length).map (fun i => i + wr.length)) (List.range wr.length) (pz_rgC wr wc) (pz_rgR wr wc) (pz_nd_of List.nodup_range) (pz_rgD _ _) hF.2 hA hP1 hD1
    exact ⟨k, o, t, h2, h3, Or.inr ⟨q, ho, E', ce, L, ⟨hE, pz_Pperm hp.symm hP4, pz_Dperm hp.symm hD4, hF.1, fun q a b => hF.2 q a (fun z => b (hA q z))⟩, c1, c2, c3, c4, c5, fun z hz => by rw [hsz] at hA; exact hA _ (hL z hz)⟩⟩
def lk_hh : List (Nat × Nat × Nat × Nat) := [(0, 10, 13, 13), (0, 10, 17, 15)]
def lk_Ct (l : Launch) (g : pz_G) (R : Room) (av : List Value) (wc : va_W) (Post : Option Value → va_W → Prop) : Prop :=
  ∀ sz, vx_Met l yL_look (.codeWith yL_look cL_look 5 (some .int) lk_hh :: pz_T) R (lk_Pc g av wc sz) (pz_Qc g wc Post) (fun _ _ _ => False) R.cells R.slots (va_A wc sz)
def lk_Rt (B : pz_B) (l : Launch) (g : pz_G) (wc : va_W) (Post : Option Value → va_W → Prop) (R : Room) : Prop :=
  B.2.2.1 = va_A wc (pz_s B).heap.size ∧ B.2.2.2.1 = vx_MQ (pz_be B) (pz_Qc g wc Post) (fun _ _ _ => False) (pz_a B) (pz_s B) R.cells R.slots (va_A wc (pz_s B).heap.size) ∧ (pz_c B).exceptionTable.toList = tableOf lk_hh ∧ lk_W (pz_s B) ∧ B.1.2.1 = l
theorem lk_ofAt {wc : va_W} {Post : Option Value → va_W → Prop} (hav : (lg_sl av).length ≤ 5)
    (body : ∀ B : pz_B, pz_F B cL_look 5 (some .int) yL_look.cls g R → lk_Rt B l g wc Post R → pz_At B 0 0 0 (lv_args 0 av) [] wc) : lk_Ct l g R av wc Post := by
  intro sz
  refine vx_ofWH (cc := cL_look) (maxL := 5) (ret := some .int) (by decide +kernel) rfl ?_
  intro p e s m args below meth c s₁ Bd hml hv
  obtain ⟨⟨rfl, hsz, hP, hK, hD0, hSt⟩, hlk⟩ := hv
  subst hsz
  have hts := atoms_spec (ws := .codeWith yL_look cL_look 5 (some .int) lk_hh :: pz_T) Bd.pre
  have hD := hD0.self (sz := s.heap.size)
  have hl := lv_entry av (n := 5) hav
  rw [lg_entry_eq]
  exact body ((p, l, e, R, s, m, av.toArray, below, meth, c), g, va_A wc s.heap.size, vx_MQ below (pz_Qc g wc Post) (fun _ _ _ => False) av.toArray s R.cells R.slots (va_A wc s.heap.size), 5) ⟨Bd.exec, Bd.bytes, hml, Bd.returns, findClass_of_methodNamed Bd.named, fun w h => hts w (List.mem_cons_of_mem _ h), hK, fun q h => Or.inr h, Bd.notSynchronized, rfl, rfl, rfl, hSt⟩ ⟨rfl, rfl, vx_table (x := yL_look) Bd (hts _ List.mem_cons_self), hlk, rfl⟩ _ s.heap [] hl hP hD va_S.rf
variable {B : pz_B} {own : String} {k n pc : Nat} {lv lv' : List (Nat × Value)} {st : List Value} {ws ws' w1 wc : va_W} {Post : Option Value → va_W → Prop}
theorem pz_perm (hp : ws.Perm ws') (h : pz_At B k n pc lv st ws') : pz_At B k n pc lv st ws := fun ls H locs a b c d => h ls H locs a (pz_Pperm hp b) (pz_Dperm hp c) d
theorem pz_wid {k' n' : Nat} (h1 : k ≤ k') (h2 : n ≤ n') (h : pz_At B k' n' pc lv st ws) : pz_At B k n pc lv st ws := fun ls H locs a b c d => W.widen h1 h2 (h ls H locs a b c d)
theorem lk_iret {v : Int32} (F : pz_F B cc nL (some .int) own g R) (Rt : lk_Rt B l g wc Post R) (hk : k ≤ R.cells) (hn : n ≤ R.slots) (d : decode cc pc = .ok (.ireturn, 1)) (hp : Post (some (.int v)) ws) : pz_At B k n pc lv [.int v] ws := by
  intro ls H locs hl hP hD hS
  unfold pz_W
  rw [Rt.2.1]
  rw [F.2.2.2.2.2.2.2.2.2.1] at hP
  rw [Rt.1] at hD hS
  exact vx_ret (W.widen hk hn (W.zret F.1 F.2.1 F.2.2.2.1 rfl (fun t ht hW => ⟨⟨_, ws, rfl, hp, by rw [ht]; exact hP, hD⟩, hS.F ht⟩) hS.2.2 d F.2.2.2.2.2.2.2.2.1))
/-- a call that throws -/
theorem px_callV {y : MethodName} {bytes : ByteArray} {maxL nA ix : Nat} {rt : Option FieldType} {Rc : Room} {As rest : List Value} {wr : va_W} {C E : String} {T : u_T} {N ci b : Nat} {fs : List Value} (F : pz_F B cc nL ret own g R) (hw : lk_W (pz_s B)) (hM : px_Ct B.1.2.1 g y bytes maxL rt Rc (.ref b :: As) wc E) (i : Nat) (he : (wr ++ wc)[i]? = some (b, .inr (ci, fs))) (hc : vwCl[ci]? = some (C, T, N)) (hw1 : Cond.methodLink own ix y ∈ pz_T) (hw2 : Cond.instanceMethod y ∈ pz_T) (hw3 : Cond.selects C y y ∈ pz_T) (hw4 : Cond.initialized y.cls ∈ pz_T) (hw5 : Cond.code y bytes maxL rt ∈ pz_T)
    (hd : y.cls ≠ "java/lang/invoke/MethodHandle" ∧ y.cls ≠ "java/lang/invoke/VarHandle" ∧ (parseMethodDescriptor y.desc).map (fun d => d.parameters.length) = some nA) (hR : Rc.frames + 1 ≤ R.frames ∧ 8 + (maxL + 11) + Rc.locals ≤ R.locals) (hcs : k + Rc.cells ≤ R.cells ∧ n + Rc.slots ≤ R.slots) (hA : As.length = nA) (hst : st = As.reverse ++ .ref b :: rest) (hrm : (rest.map fun v => v.category).sum ≤ 8) (d : decode cc pc = .ok (.invokevirtual ix, 3))
    (kx : ∀ (ls : Array Slot) (H : Heap) (locs : List Loc) (q : Addr) (ce : Cell), lv_has ls B.2.2.2.2 lv → va_P B.2.1.1 vwCl (wr ++ wc) H → va_D B.2.2.1 (wr ++ wc) → va_S B.2.2.1 (pz_s B).heap H locs → H[q]? = some ce → ce.vm = .none → (pz_s B).vm.findClass E = some ce.cls →
      vx_W B.1.1 B.1.2.1 B.1.2.2.1 (pz_R B) (pz_s B) (pz_m B) (pz_a B) (pz_be B) (pz_me B) (pz_c B) H locs (k + Rc.cells) (n + Rc.slots) B.2.2.2.1 (F0 (pz_m B) pc ls rest) q) : pz_At B k n pc lv st (wr ++ wc) := by
  intro ls H locs hl hP hD hS
  subst hst
  have hRR := F.2.2.2.2.2.2.2.2.2.2.1
  have hK := F.2.2.2.2.2.2.1
  have hG := F.2.2.2.2.2.2.2.2.2.1
  have hF := va_free hD hS F.2.2.2.2.2.2.2.1 _ (pz_rgC wr wc)
  have hr := vx_runV (p := B.1.1) (e := B.1.2.2.1) (R := pz_R B) (s := pz_s B) (m := pz_m B) (args := pz_a B) (c := pz_c B) (H := H) (below := pz_be B) (meth := pz_me B) (locs := locs) (cells := k) (slots := n) (g := F0 (pz_m B) pc ls (As.reverse ++ .ref b :: rest)) (As := As) (rest := rest) (n := nA) (nL := nL) (Ts := pz_T) (C := C) ⟨F.1, F.2.1, F.2.2.1, F.2.2.2.2.1, F.2.2.2.2.2.1⟩ (hM H.size) ⟨callB_of nA F.2.2.2.2.2.1 (pz_goodc hw5) rfl rfl rfl (F.2.2.2.2.2.1 _ hw4) (F.2.2.2.2.2.1 _ hw1) hd (by rw [hRR]; exact hR), F.2.2.2.2.2.1 _ hw2, F.2.2.2.2.2.1 _ hw3⟩
    ⟨lk_blind, va_recv hK (by rw [← hG]; exact hP) hc he, fun U hU hW => ⟨pz_pre F hP hD hS _ (pz_rgN _ _) (pz_rgC wr wc) U hU hW, lk_W.warm hW hw⟩⟩ rfl hA (by rw [← F.2.2.2.2.2.2.2.2.2.2.2.1]; exact hl.1) rfl (lv_room hrm) d (by rw [hRR]; exact hcs)
  intro T hT X
  rcases hr T hT X with ⟨v, st₀, t, T', L, h0, X', hL, e1, e2, hz, stp⟩ | ⟨q, st₀, t, T', L, E', ce, h0, X', hL, e1, e2, ⟨hE, hP1, hD1, hF1⟩, hce, hcv, hcl, stp⟩
  · exact hz.elim
  · subst hE
    rw [h0] at hD1
    obtain ⟨hz, hk⟩ := hF1
    rw [h0] at hz hk
    obtain ⟨hP2, hD2⟩ := va_join (w1 := wc) (H1 := T'.heap) hP hD _ (List.range wr.length) (pz_rgC wr wc) (pz_rgR wr wc) (pz_nd_of List.nodup_range) (pz_rgD _ _) (fun q h1 h2 => by rw [e1]; exact hk q h1 h2) hF (by rw [e1, hG]; exact hP1) hD1
    obtain ⟨t2, a1, b1⟩ := kx ls T'.heap (locs ++ L) q ce hl hP2 hD2 ⟨Nat.le_trans hS.1 (by rw [e1]; exact hz), fun q h1 h2 => by rw [e1, hk q (Nat.lt_of_lt_of_le h1 hS.1) (fun z => h2 (hF q z))]; exact hS.2.1 q h1 h2, fun q hq => by
      rcases List.mem_append.mp hq with h | h
      · exact hS.2.2 q h
      · exact hF _ (hL q h)⟩ (by rw [e1]; exact hce) hcv hcl T' rfl X'
    exact ⟨t2, stp.trans a1, b1⟩
end LK
section LK2
theorem asg_rf (vm : Vm) (c : ClassId) : vm.assignable c c = true := by
  show vm.assignableAux (255 + 1) c c = true
  rw [Vm.assignableAux, Bool.or_eq_true, beq_iff_eq]
  exact Or.inl rfl
abbrev lo_c (g : pz_G) (o : Nat) (fo : Nat → Int64) : va_W := [(o, .inl (g.2.1 2, 1, .inr (.inl fo)))]
abbrev rmL_look : Room := { frames := 7, cells := 1, slots := 6, locals := 193 }
def lk_P (s : cs_S) (x w r : Int32) (f : Nat → Int64) : Prop := (¬ hs_in x (cs_cn s 4) ∧ r = 1) ∨ (hs_in x (cs_cn s 4) ∧ ¬ (w = 0 ∨ w = 1 ∨ w = 2 ∨ w = 3) ∧ r = 2) ∨ (∃ j, j < cs_cn s 4 ∧ x = nI j ∧ (w = 0 ∨ w = 1 ∨ w = 2 ∨ w = 3) ∧ r = 0 ∧ f 0 = (if w = 0 then nI (cs_bn s j 0) else if w = 1 then nI (cs_bn s j 1) else if w = 2 then (if cs_bi s j 1 = 0 then 0 else 1) else nI (cs_bn s j 2)).toInt64)
set_option maxHeartbeats 4000000 in
set_option maxRecDepth 100000 in
theorem ctL_look (l : Launch) (g : pz_G) (ad : Nat → Nat) (hl : l.stackTraces = false) {s : cs_S} {t : rs_S} {n : Nat} (hR : Rel s t n) (o : Nat) (fo : Nat → Int64) (x w : Int32) : lk_Ct l g rmL_look [.ref (ad 0), .int x, .int w, .ref o] (lo_c g o fo ++ CW g ad s) (pz_pi (fun (r : Int32) (f : Nat → Int64) => lk_P s x w r f) (fun f => lo_c g o f ++ CW g ad s)) := by
  obtain ⟨hc, hT, hRu, hf, hG, hK, hM, hB, hS, hh, hW⟩ := hR
  have hN := hB.1
  refine lk_ofAt (Nat.le_of_ble_eq_true rfl) (fun B F Rt => ?_)
  refine pz_aload_n 3 F rfl dL_look_0 rfl ?_
  refine pz_iconst (v := 0) F dL_look_1 rfl ?_
  refine pz_aload_n 0 F rfl dL_look_2 rfl ?_
  refine pz_iload_n 1 F rfl dL_look_3 rfl ?_
  refine pz_iload_n 2 F rfl dL_look_4 rfl ?_
  rcases rl_ix x hN with h | ⟨jb, hjb, rfl⟩
  · have hp : ((cw_fix g ad s) ++ cw_bo g s).Perm (([1, 2, 3, 4, 5, 6, 7, 8, 9, 10, 11, 12, 13, 14, 15, 16, 17, 18, 19, 21, 22, 23].filterMap (fun i => (cw_fix g ad s)[i]?) ++ cw_bo g s) ++ ([((ad 0), .inr (7, [.ref (ad 1), .ref (ad 3), .ref (ad 8), .ref (ad 17), .ref (ad 20), .ref (ad 21), .int (nI (cs_cn s 4)), .int (cs_ci s 18)])), ((ad 20), .inl (g.2.1 4, 10, .inr (.inr (.inr (.inr (cs_cq s))))))] : va_W)) := pz_W1 [0, 20] [1, 2, 3, 4, 5, 6, 7, 8, 9, 10, 11, 12, 13, 14, 15, 16, 17, 18, 19, 21, 22, 23] (show ([0, 20] ++ [1, 2, 3, 4, 5, 6, 7, 8, 9, 10, 11, 12, 13, 14, 15, 16, 17, 18, 19, 21, 22, 23] : List Nat).Perm (List.range 24) by decide +kernel) (rfl)
    have hM := px_oc (ctX8_look_A l g x w (ad 0) (ad 1) (ad 3) (ad 8) (ad 17) (ad 20) (ad 21) (nI (cs_cn s 4)) (cs_ci s 18) (cs_cq s) hl h) hp
    refine px_callV (nA := 2) (ci := 7) (C := RX8) (T := TX8) (N := 8) (As := [.int x, .int w]) (rest := [.int 0, .ref o]) (wr := lo_c g o fo) (wc := CW g ad s) F Rt.2.2.2.1 (by rw [Rt.2.2.2.2]; exact hM) 1 rfl rfl pw_715 pw_716 pw_717 pw_1 pw_718 (by decide +kernel) (by decide) (by decide) rfl rfl (Nat.le_of_ble_eq_true rfl) dL_look_5 ?_
    intro ls H locs q ce a1 a2 a3 a4 a5 a6 a7
    refine px_catch1 (own := RL) (name := "java/lang/IndexOutOfBoundsException") (E := "java/lang/IndexOutOfBoundsException") F.2.2.2.2.1 ⟨0, 10, 13, 13⟩ [⟨0, 10, 17, 15⟩] Rt.2.2.1 (by decide) (by decide) (F.2.2.2.2.2.1 _ pw_713) ⟨ce.cls, a7, asg_rf _ _⟩ a5 a6 a7 ?_
    exact (show pz_At B 1 6 13 [(0, .ref (ad 0)), (1, .int x), (2, .int w), (3, .ref o)] [.ref q] (lo_c g o fo ++ CW g ad s) from pz_astore (i := 4) (lv' := [(4, .ref q), (0, .ref (ad 0)), (1, .int x), (2, .int w), (3, .ref o)]) F dL_look_13 (by decide) rfl (pz_iconst F dL_look_15 rfl (lk_iret F Rt (by decide) (by decide) dL_look_16 ⟨_, fo, rfl, rfl, Or.inl ⟨wh_no (qk := fun _ => 0) h, rfl⟩⟩))) ls H locs a1 a2 a3 a4
  · obtain ⟨hq, hb⟩ := hB.2 jb hjb
    by_cases hw : w = 0 ∨ w = 1 ∨ w = 2 ∨ w = 3
    · refine pz_callV (nA := 2) (ci := 7) (C := RX8) (T := TX8) (N := 8) (As := [.int (nI jb), .int w]) (rest := [.int 0, .ref o]) (wr := lo_c g o fo) (wc := CW g ad s) F (ocX8_look_B _ g ad s jb hjb (nI jb) w ⟨⟨hjb, hN, rfl, rfl, hq⟩, hw⟩) 1 rfl rfl pw_715 pw_716 pw_717 pw_1 pw_718 (by decide +kernel) (by decide) (by decide) rfl rfl (Nat.le_of_ble_eq_true rfl) ((List.range (CW g ad s).length).map (fun i => i + (lo_c g o fo).length)) (List.range (lo_c g o fo).length) (pz_rgN _ _) (pz_rgC _ _) (pz_rgR _ _) (pz_nd_of List.nodup_range) (pz_rgD _ _) dL_look_5 ?_
      rintro r w1 ⟨z, s', rfl, rfl, u, hz, rfl⟩
      refine pz_i2l F dL_look_8 ?_
      refine pz_lastore (ws' := lo_c g o (vp_updL fo (0 : Int32).toNatClampNeg z.toInt64) ++ CW g ad s) F 0 rfl (show vp_in (0 : Int32) 1 from vp_in_nI (n := 0) (by omega) (by omega)) dL_look_9 rfl ?_
      refine pz_goto (tgt := 21) F dL_look_10 (by decide) ?_
      refine pz_iconst (v := 0) F dL_look_21 rfl ?_
      exact lk_iret F Rt (by decide) (by decide) dL_look_22 ⟨_, _, rfl, rfl, Or.inr (Or.inr ⟨jb, hjb, rfl, hw, rfl, by rw [show (0 : Int32).toNatClampNeg = 0 from rfl, pk_uLs, hz]⟩)⟩
    · have hp : (CW g ad s).Perm (([1, 2, 3, 4, 5, 6, 7, 8, 9, 10, 11, 12, 13, 14, 15, 16, 17, 18, 19, 21, 22, 23].filterMap (fun i => (cw_fix g ad s)[i]?) ++ ([1, 2, 3].filterMap (fun i => (bo_c g s jb)[i]?) ++ cw_ot g s jb)) ++ ([((ad 0), .inr (7, [.ref (ad 1), .ref (ad 3), .ref (ad 8), .ref (ad 17), .ref (ad 20), .ref (ad 21), .int (nI (cs_cn s 4)), .int (cs_ci s 18)])), ((ad 20), .inl (g.2.1 4, 10, .inr (.inr (.inr (.inr (cs_cq s)))))), ((cs_ba s jb 0), .inr (0, [.int (nI (cs_bn s jb 0)), .int (cs_bi s jb 0), .ref (cs_ba s jb 1), .ref (cs_ba s jb 2), .ref (cs_ba s jb 3), .int (nI (cs_bn s jb 2)), .int (nI (cs_bn s jb 1)), .int (cs_bi s jb 1)]))] : va_W)) := ((cw_bo_perm hjb).append_left _).trans (pz_V1 [0, 20] [1, 2, 3, 4, 5, 6, 7, 8, 9, 10, 11, 12, 13, 14, 15, 16, 17, 18, 19, 21, 22, 23] [0] [1, 2, 3] [0, 1, 2] (show ([0, 20] ++ [1, 2, 3, 4, 5, 6, 7, 8, 9, 10, 11, 12, 13, 14, 15, 16, 17, 18, 19, 21, 22, 23] : List Nat).Perm (List.range 24) by decide +kernel) (show ([0] ++ [1, 2, 3] : List Nat).Perm (List.range 4) by decide +kernel) (show ([0, 1, 2] : List Nat).Perm (List.range 3) by decide +kernel) (rfl))
      have hM := px_oc (ctX8_look_W l g (nI jb) w (ad 0) (ad 1) (ad 3) (ad 8) (ad 17) (ad 20) (ad 21) (nI (cs_cn s 4)) (cs_ci s 18) (cs_cq s) (cs_ba s jb 0) (nI (cs_bn s jb 0)) (cs_bi s jb 0) (cs_ba s jb 1) (cs_ba s jb 2) (cs_ba s jb 3) (nI (cs_bn s jb 2)) (nI (cs_bn s jb 1)) (cs_bi s jb 1) jb (cs_cn s 4) hl ⟨⟨hjb, hN, rfl, rfl, hq⟩, hw⟩) hp
      refine px_callV (nA := 2) (ci := 7) (C := RX8) (T := TX8) (N := 8) (As := [.int (nI jb), .int w]) (rest := [.int 0, .ref o]) (wr := lo_c g o fo) (wc := CW g ad s) F Rt.2.2.2.1 (by rw [Rt.2.2.2.2]; exact hM) 1 rfl rfl pw_715 pw_716 pw_717 pw_1 pw_718 (by decide +kernel) (by decide) (by decide) rfl rfl (Nat.le_of_ble_eq_true rfl) dL_look_5 ?_
      intro ls H locs q ce a1 a2 a3 a4 a5 a6 a7
      refine px_catch2 (own := RL) (name0 := "java/lang/IndexOutOfBoundsException") (name := "java/util/NoSuchElementException") (E := "java/util/NoSuchElementException") F.2.2.2.2.1 ⟨0, 10, 13, 13⟩ ⟨0, 10, 17, 15⟩ [] Rt.2.2.1 (by decide) (by decide) (by decide) (by decide) (F.2.2.2.2.2.1 _ pw_713) Rt.2.2.2.1.1 (F.2.2.2.2.2.1 _ pw_714) ⟨ce.cls, a7, asg_rf _ _⟩ a5 a6 a7 ?_
      exact (show pz_At B 1 6 17 [(0, .ref (ad 0)), (1, .int (nI jb)), (2, .int w), (3, .ref o)] [.ref q] (lo_c g o fo ++ CW g ad s) from pz_astore (i := 4) (lv' := [(4, .ref q), (0, .ref (ad 0)), (1, .int (nI jb)), (2, .int w), (3, .ref o)]) F dL_look_17 (by decide) rfl (pz_iconst F dL_look_19 rfl (lk_iret F Rt (by decide) (by decide) dL_look_20 ⟨_, fo, rfl, rfl, Or.inr (Or.inl ⟨wh_in hjb hN, hw, rfl⟩)⟩))) ls H locs a1 a2 a3 a4
end LK2
