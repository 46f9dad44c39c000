/-! ===== contracts over worlds; entry, ends, calls, making ===== -/
section PZC
def pz_Qc (g : pz_G) (wc : va_W) (Post : Option Value → va_W → Prop) : Array Value → State → Outcome → State → Prop := fun _ st oc t =>
  (∃ (r : Option Value) (w1 : va_W), oc = .returned r ∧ Post r w1 ∧ va_P g.1 vwCl w1 t.heap ∧ va_D (va_A wc st.heap.size) w1) ∧ va_F (va_A wc st.heap.size) st t
def pz_Pc (g : pz_G) (av : List Value) (wc : va_W) (sz : Nat) : Array Value → State → Prop := va_Pc av (fun U => U.heap.size = sz ∧ va_P g.1 vwCl wc U.heap ∧ va_K g.1 vwCl (pz_tys g) U ∧ va_D (fun _ => True) wc ∧ pz_St g (va_A wc sz) U U.heap)
/-- method y's contract: called with av in a world that has wc, it returns, and 'Post answer world' -/
def pz_Ct (l : Launch) (g : pz_G) (y : MethodName) (cc : ByteArray) (nL : Nat) (ret : Option FieldType) (R : Room) (av : List Value) (wc : va_W) (Post : Option Value → va_W → Prop) : Prop :=
  ∀ sz, Met l y (.code y cc nL ret :: pz_T) R (pz_Pc g av wc sz) (pz_Qc g wc Post) R.cells R.slots (va_A wc sz)
/-- the goal of a body is its contract's end -/
def pz_Rt (B : pz_B) (g : pz_G) (wc : va_W) (Post : Option Value → va_W → Prop) (R : Room) : Prop :=
  B.2.2.1 = va_A wc (pz_s B).heap.size ∧ B.2.2.2.1 = MQ (pz_be B) (pz_Qc g wc Post) (pz_a B) (pz_s B) R.cells R.slots (va_A wc (pz_s B).heap.size)
theorem pz_ofAt {l : Launch} {g : pz_G} {y : MethodName} {cc : ByteArray} {nL : Nat} {ret : Option FieldType} {R : Room} {av : List Value} {wc : va_W} {Post : Option Value → va_W → Prop} (hy : plainName y.cls = true) (hav : (lg_sl av).length ≤ nL)
    (body : ∀ B : pz_B, pz_F B cc nL ret y.cls g R → pz_Rt B g wc Post R → (pz_me B).name = y.name → pz_At B 0 0 0 (lv_args 0 av) [] wc) : pz_Ct l g y cc nL ret R av wc Post := by
  intro sz
  refine Met.ofW (cc := cc) (maxL := nL) (ret := ret) hy rfl ?_
  intro p e s m args below meth c s₁ Bd hml hv
  obtain ⟨rfl, hsz, hP, hK, hD0, hSt⟩ := hv
  subst hsz
  have hts := atoms_spec (ws := .code y cc nL ret :: pz_T) Bd.pre
  have hD := hD0.self (sz := s.heap.size)
  have hl := lv_entry av (n := nL) hav
  rw [lg_entry_eq]
  exact body ((p, l, e, R, s, m, av.toArray, below, meth, c), g, va_A wc s.heap.size, MQ below (pz_Qc g wc Post) av.toArray s R.cells R.slots (va_A wc s.heap.size), nL) ⟨Bd.exec, Bd.bytes, hml, Bd.returns, findClass_of_methodNamed Bd.named, fun w h => hts w (List.mem_cons_of_mem _ h), hK, fun q h => Or.inr h, Bd.notSynchronized, rfl, rfl, rfl, hSt⟩ ⟨rfl, rfl⟩ (name_of_methodNamed Bd.named Bd.method).1 _ s.heap [] hl hP hD va_S.rf
variable {B : pz_B} {cc : ByteArray} {nL : Nat} {ret : Option FieldType} {own : String} {g : pz_G} {R : Room} {k n pc : Nat} {lv lv' : List (Nat × Value)} {st : List Value} {ws ws' w1 : va_W}
variable {wc : va_W} {Post : Option Value → va_W → Prop}
theorem pz_pick {ws w1 : va_W} {js : List Nat} (hs : js.map (fun i => ws[i]?) = w1.map some) : js.filterMap (fun i => ws[i]?) = w1 := by
  have h2 : (js.map (fun i => ws[i]?)).filterMap id = (w1.map some).filterMap id := by rw [hs]
  rw [List.filterMap_map, List.filterMap_map] at h2
  simpa using h2
theorem pz_end (F : pz_F B cc nL ret own g R) (Rt : pz_Rt B g wc Post R) {r : Option Value} (js : List Nat) (hnd : va_nd js = true) (hs : js.map (fun i => ws[i]?) = w1.map some) (hp : Post r w1) {H : Heap} {locs : List Loc} (hP : va_P B.2.1.1 vwCl ws H) (hD : va_D B.2.2.1 ws) (hS : va_S B.2.2.1 (pz_s B).heap H locs) :
    ∀ t : State, t.heap = H → (pz_s B).WarmedH t.vm → pz_Qc g wc Post (pz_a B) (pz_s B) (.returned r) t := by
  intro t ht hW
  rw [F.2.2.2.2.2.2.2.2.2.1] at hP
  rw [Rt.1] at hD hS
  exact ⟨⟨r, w1, rfl, hp, by rw [ht]; exact hP.sub js (pz_pick hs), hD.sub js hnd hs⟩, hS.F ht⟩
theorem pz_ireturn {v : Int32} {ty : FieldType} (F : pz_F B cc nL (some ty) own g R) (Rt : pz_Rt B g wc Post R) (hk : k ≤ R.cells) (hn : n ≤ R.slots) (d : decode cc pc = .ok (.ireturn, 1)) (js : List Nat) (hnd : va_nd js = true) (hs : js.map (fun i => ws[i]?) = w1.map some) (hna : narrow ty (.int v) = .int v) (hp : Post (some (.int v)) w1) : pz_At B k n pc lv [.int v] ws := by
  intro ls H locs hl hP hD hS
  unfold pz_W
  rw [Rt.2]
  exact W.widen hk hn (W.zret F.1 F.2.1 F.2.2.2.1 hna (pz_end F Rt js hnd hs hp hP hD hS) (by rw [Rt.1] at hS; exact hS.2.2) d F.2.2.2.2.2.2.2.2.1)
theorem pz_lreturn {v : Int64} (F : pz_F B cc nL (some .long) own g R) (Rt : pz_Rt B g wc Post R) (hk : k ≤ R.cells) (hn : n ≤ R.slots) (d : decode cc pc = .ok (.lreturn, 1)) (js : List Nat) (hnd : va_nd js = true) (hs : js.map (fun i => ws[i]?) = w1.map some) (hp : Post (some (.long v)) w1) : pz_At B k n pc lv [.long v] ws := by
  intro ls H locs hl hP hD hS
  unfold pz_W
  rw [Rt.2]
  exact W.widen hk hn (W.lret F.1 F.2.1 F.2.2.2.1 (pz_end F Rt js hnd hs hp hP hD hS) (by rw [Rt.1] at hS; exact hS.2.2) d F.2.2.2.2.2.2.2.2.1)
theorem pz_areturn {v : Value} {rt : FieldType} (F : pz_F B cc nL (some rt) own g R) (Rt : pz_Rt B g wc Post R) (hk : k ≤ R.cells) (hn : n ≤ R.slots) (hrt : (∃ n, rt = .object n) ∨ ∃ t, rt = .array t) (hv : v = .null ∨ ∃ a, v = .ref a) (d : decode cc pc = .ok (.areturn, 1)) (js : List Nat) (hnd : va_nd js = true) (hs : js.map (fun i => ws[i]?) = w1.map some) (hp : Post (some v) w1) : pz_At B k n pc lv [v] ws := by
  intro ls H locs hl hP hD hS
  unfold pz_W
  rw [Rt.2]
  exact W.widen hk hn (W.aret F.1 F.2.1 F.2.2.2.1 hrt hv (pz_end F Rt js hnd hs hp hP hD hS) (by rw [Rt.1] at hS; exact hS.2.2) d F.2.2.2.2.2.2.2.2.1)
theorem pz_return (F : pz_F B cc nL none own g R) (Rt : pz_Rt B g wc Post R) (hk : k ≤ R.cells) (hn : n ≤ R.slots) (d : decode cc pc = .ok (.return_, 1)) (js : List Nat) (hnd : va_nd js = true) (hs : js.map (fun i => ws[i]?) = w1.map some) (hp : Post none w1) : pz_At B k n pc lv [] ws := by
  intro ls H locs hl hP hD hS
  unfold pz_W
  rw [Rt.2]
  exact W.widen hk hn (W.vret F.1 F.2.1 F.2.2.2.1 (pz_end F Rt js hnd hs hp hP hD hS) (by rw [Rt.1] at hS; exact hS.2.2) d F.2.2.2.2.2.2.2.2.1)
theorem pz_blind {g : pz_G} {av : List Value} {wc : va_W} {sz : Nat} : FrameBlind (pz_Pc g av wc sz) := by
  intro a U f mk q
  obtain ⟨q0, q1, qP, qK, qD, qS⟩ := q
  exact ⟨q0, q1, qP, va_K.moved (u := U) (U := U.calling f mk a) (Vm.Alike.refl U.vm) qK, qD, pz_St.same (u := U) (U := U.calling f mk a) rfl qS⟩
/-- the callee's start out of the caller's place -/
theorem pz_pre (F : pz_F B cc nL ret own g R) {av : List Value} {H : Heap} {locs : List Loc} (hP : va_P B.2.1.1 vwCl ws H) (hD : va_D B.2.2.1 ws) (hS : va_S B.2.2.1 (pz_s B).heap H locs) (isC : List Nat) (hnc : va_nd isC = true) (hC : isC.map (fun i => ws[i]?) = wc.map some) :
    ∀ U : State, U.heap = H → (pz_s B).WarmedH U.vm → pz_Pc g av wc H.size av.toArray U := by
  intro U hU hW
  have hF := va_free hD hS F.2.2.2.2.2.2.2.1 isC hC
  rw [F.2.2.2.2.2.2.2.2.2.1] at hP
  refine ⟨rfl, by rw [hU], by rw [hU]; exact hP.sub isC (pz_pick hC), va_K.moved hW.alike F.2.2.2.2.2.2.1, (hD.sub isC hnc hC).weaken (fun _ _ _ _ => trivial), ?_⟩
  rw [hU]
  exact ((F.2.2.2.2.2.2.2.2.2.2.2.2.kept hS.2.1).narrow hF).moved hW
/-- behind a call -/
theorem pz_back (F : pz_F B cc nL ret own g R) {mc ms : Nat} {wr : va_W} {a : Array Value} {rest st0 : List Value} (isC isR : List Nat) (hC : isC.map (fun i => ws[i]?) = wc.map some) (hR : isR.map (fun i => ws[i]?) = wr.map some) (hn : va_nd isR = true) (hdis : ∀ i ∈ isR, i ∉ isC)
    (kk : ∀ (r : Option Value) (w1 : va_W), Post r w1 → pz_At B (k + mc) (n + ms) (pc + 3) lv (r.toList ++ rest) (wr ++ w1)) {ls : Array Slot} {H : Heap} {locs : List Loc} (hl : lv_has ls B.2.2.2.2 lv) (hP : va_P B.2.1.1 vwCl ws H) (hD : va_D B.2.2.1 ws) (hS : va_S B.2.2.1 (pz_s B).heap H locs)
    (hr : va_Run B.1.1 B.1.2.1 B.1.2.2.1 (pz_R B) (pz_s B) (pz_m B) (pz_a B) (pz_be B) (pz_me B) (pz_c B) H locs k n mc ms (F0 (pz_m B) pc ls st0) rest (pz_Qc g wc Post a) (va_A wc H.size)) : pz_W B H locs k n (F0 (pz_m B) pc ls st0) := by
  intro T hT X
  obtain ⟨v, st₀, t, T', L, h0, X', hL, e1, e2, ⟨⟨r, w1, hv, hp, hP1, hD1⟩, hz, hk⟩, stp⟩ := hr T hT X
  cases hv
  rw [h0] at hz hk hD1
  have hF := va_free hD hS F.2.2.2.2.2.2.2.1 isC hC
  have hG := F.2.2.2.2.2.2.2.2.2.1
  obtain ⟨hP2, hD2⟩ := va_join (w1 := w1) (H1 := T'.heap) hP hD isC isR hC hR hn hdis (fun q h1 h2 => by rw [e1]; exact hk q h1 h2) hF (by rw [e1, hG]; exact hP1) hD1
  obtain ⟨t2, a1, b1⟩ := kk _ w1 hp ls T'.heap (locs ++ L) hl hP2 hD2 ⟨Nat.le_trans hS.1 (by rw [e1]; exact hz), fun q h1 h2 => by rw [e1, hk q (Nat.lt_of_lt_of_le h1 hS.1) (fun z => h2 (hF q z))]; exact hS.2.1 q h1 h2, fun q hq => by
      rcases List.mem_append.mp hq with h | h
      · exact hS.2.2 q h
      · exact hF _ (hL q h)⟩ T' rfl X'
  exact ⟨t2, stp t2 a1, b1⟩
theorem pz_goodc {y : MethodName} {bytes : ByteArray} {maxL : Nat} {rt : Option FieldType} (h : Cond.code y bytes maxL rt ∈ pz_T) : GoodIn pz_T (.code y bytes maxL rt :: pz_T) := by
  intro w hw
  rcases List.mem_cons.mp hw with e | e
  · rw [e]; exact pz_good _ h
  · exact pz_good w e
section CallRows
variable {y : MethodName} {bytes : ByteArray} {maxL nA ix : Nat} {rt : Option FieldType} {Rc : Room} {As rest : List Value} {wr : va_W}
/-- invokevirtual of a method of the receiver's own class -/
theorem pz_callV {C : String} {T : u_T} {N ci b : Nat} {fs : List Value} (F : pz_F B cc nL ret own g R) (hM : pz_Ct B.1.2.1 g y bytes maxL rt Rc (.ref b :: As) wc Post) (i : Nat) (he : ws[i]? = some (b, .inr (ci, fs))) (hc : vwCl[ci]? = some (C, T, N)) (hw1 : Cond.methodLink own ix y ∈ pz_T) (hw2 : Cond.instanceMethod y ∈ pz_T) (hw3 : Cond.selects C y y ∈ pz_T) (hw4 : Cond.initialized y.cls ∈ pz_T) (hw5 : Cond.code y bytes maxL rt ∈ pz_T)
    (hd : y.cls ≠ "java/lang/invoke/MethodHandle" ∧ y.cls ≠ "java/lang/invoke/VarHandle" ∧ (parseMethodDescriptor y.desc).map (fun d => d.parameters.length) = some nA) (hR : Rc.frames + 1 ≤ R.frames ∧ 8 + (maxL + 11) + Rc.locals ≤ R.locals) (hcs : k + Rc.cells ≤ R.cells ∧ n + Rc.slots ≤ R.slots) (hA : As.length = nA) (hst : st = As.reverse ++ .ref b :: rest) (hrm : (rest.map fun v => v.category).sum ≤ 8)
    (isC isR : List Nat) (hnc : va_nd isC = true) (hC : isC.map (fun i => ws[i]?) = wc.map some) (hRr : isR.map (fun i => ws[i]?) = wr.map some) (hn : va_nd isR = true) (hdis : ∀ i ∈ isR, i ∉ isC) (d : decode cc pc = .ok (.invokevirtual ix, 3))
    (kk : ∀ (r : Option Value) (w1 : va_W), Post r w1 → pz_At B (k + Rc.cells) (n + Rc.slots) (pc + 3) lv (r.toList ++ rest) (wr ++ w1)) : pz_At B k n pc lv st ws := by
  intro ls H locs hl hP hD hS
  subst hst
  have hRR := F.2.2.2.2.2.2.2.2.2.2.1
  have hK := F.2.2.2.2.2.2.1
  refine pz_back F isC isR hC hRr hn hdis kk hl hP hD hS (va_runV (As := As) (rest := rest) (n := nA) (nL := nL) (Ts := pz_T) (C := C) ⟨F.1, F.2.1, F.2.2.1, F.2.2.2.2.1, F.2.2.2.2.2.1⟩ (hM H.size) ⟨callB_of nA F.2.2.2.2.2.1 (pz_goodc hw5) rfl rfl rfl (F.2.2.2.2.2.1 _ hw4) (F.2.2.2.2.2.1 _ hw1) hd (by rw [hRR]; exact hR), F.2.2.2.2.2.1 _ hw2, F.2.2.2.2.2.1 _ hw3⟩ ⟨pz_blind, ?_, pz_pre F hP hD hS isC hnc hC⟩ rfl hA (by rw [← F.2.2.2.2.2.2.2.2.2.2.2.1]; exact hl.1) rfl (lv_room hrm) d (by rw [hRR]; exact hcs))
  exact va_recv hK (by rw [← F.2.2.2.2.2.2.2.2.2.1]; exact hP) hc he
/-- invokestatic -/
theorem pz_callS (F : pz_F B cc nL ret own g R) (hM : pz_Ct B.1.2.1 g y bytes maxL rt Rc As wc Post) (hw1 : Cond.methodLink own ix y ∈ pz_T) (hw2 : Cond.static y ∈ pz_T) (hw4 : Cond.initialized y.cls ∈ pz_T) (hw5 : Cond.code y bytes maxL rt ∈ pz_T)
    (hd : y.cls ≠ "java/lang/invoke/MethodHandle" ∧ y.cls ≠ "java/lang/invoke/VarHandle" ∧ (parseMethodDescriptor y.desc).map (fun d => d.parameters.length) = some nA) (hR : Rc.frames + 1 ≤ R.frames ∧ 8 + (maxL + 11) + Rc.locals ≤ R.locals) (hcs : k + Rc.cells ≤ R.cells ∧ n + Rc.slots ≤ R.slots) (hA : As.length = nA) (hst : st = As.reverse ++ rest) (hrm : (rest.map fun v => v.category).sum ≤ 8)
    (isC isR : List Nat) (hnc : va_nd isC = true) (hC : isC.map (fun i => ws[i]?) = wc.map some) (hRr : isR.map (fun i => ws[i]?) = wr.map some) (hn : va_nd isR = true) (hdis : ∀ i ∈ isR, i ∉ isC) (d : decode cc pc = .ok (.invokestatic ix, 3))
    (kk : ∀ (r : Option Value) (w1 : va_W), Post r w1 → pz_At B (k + Rc.cells) (n + Rc.slots) (pc + 3) lv (r.toList ++ rest) (wr ++ w1)) : pz_At B k n pc lv st ws := by
  intro ls H locs hl hP hD hS
  subst hst
  have hRR := F.2.2.2.2.2.2.2.2.2.2.1
  exact pz_back F isC isR hC hRr hn hdis kk hl hP hD hS (va_runS (As := As) (rest := rest) (n := nA) (nL := nL) (Ts := pz_T) ⟨F.1, F.2.1, F.2.2.1, F.2.2.2.2.1, F.2.2.2.2.2.1⟩ (hM H.size) ⟨callB_of nA F.2.2.2.2.2.1 (pz_goodc hw5) rfl rfl rfl (F.2.2.2.2.2.1 _ hw4) (F.2.2.2.2.2.1 _ hw1) hd (by rw [hRR]; exact hR), F.2.2.2.2.2.1 _ hw2⟩ ⟨pz_blind, pz_pre F hP hD hS isC hnc hC⟩ rfl hA (by rw [← F.2.2.2.2.2.2.2.2.2.2.2.1]; exact hl.1) rfl (lv_room hrm) d (by rw [hRR]; exact hcs))
/-- invokespecial of a constructor -/
theorem pz_callI {b : Nat} (F : pz_F B cc nL ret own g R) (hM : pz_Ct B.1.2.1 g y bytes maxL none Rc (.ref b :: As) wc Post) (hy : y.name = "<init>") (hw1 : Cond.methodLink own ix y ∈ pz_T) (hw2 : Cond.instanceMethod y ∈ pz_T) (hw4 : Cond.initialized y.cls ∈ pz_T) (hw5 : Cond.code y bytes maxL none ∈ pz_T)
    (hd : y.cls ≠ "java/lang/invoke/MethodHandle" ∧ y.cls ≠ "java/lang/invoke/VarHandle" ∧ (parseMethodDescriptor y.desc).map (fun d => d.parameters.length) = some nA) (hR : Rc.frames + 1 ≤ R.frames ∧ 8 + (maxL + 11) + Rc.locals ≤ R.locals) (hcs : k + Rc.cells ≤ R.cells ∧ n + Rc.slots ≤ R.slots) (hA : As.length = nA) (hst : st = As.reverse ++ .ref b :: rest) (hrm : (rest.map fun v => v.category).sum ≤ 8)
    (isC isR : List Nat) (hnc : va_nd isC = true) (hC : isC.map (fun i => ws[i]?) = wc.map some) (hRr : isR.map (fun i => ws[i]?) = wr.map some) (hn : va_nd isR = true) (hdis : ∀ i ∈ isR, i ∉ isC) (d : decode cc pc = .ok (.invokespecial ix, 3))
    (kk : ∀ (r : Option Value) (w1 : va_W), Post r w1 → pz_At B (k + Rc.cells) (n + Rc.slots) (pc + 3) lv (r.toList ++ rest) (wr ++ w1)) : pz_At B k n pc lv st ws := by
  intro ls H locs hl hP hD hS
  subst hst
  have hRR := F.2.2.2.2.2.2.2.2.2.2.1
  exact pz_back F isC isR hC hRr hn hdis kk hl hP hD hS (va_runI (As := As) (rest := rest) (n := nA) (nL := nL) (Ts := pz_T) (b := b) ⟨F.1, F.2.1, F.2.2.1, F.2.2.2.2.1, F.2.2.2.2.2.1⟩ (hM H.size) ⟨callB_of nA F.2.2.2.2.2.1 (pz_goodc hw5) rfl rfl rfl (F.2.2.2.2.2.1 _ hw4) (F.2.2.2.2.2.1 _ hw1) hd (by rw [hRR]; exact hR), hy, F.2.2.2.2.2.1 _ hw2⟩ ⟨pz_blind, pz_pre F hP hD hS isC hnc hC⟩ rfl hA (by rw [← F.2.2.2.2.2.2.2.2.2.2.2.1]; exact hl.1) rfl (lv_room hrm) d (by rw [hRR]; exact hcs))
/-- invokespecial of a nest mate's private constructor -/
theorem pz_callIN {b : Nat} {host : String} (F : pz_F B cc nL ret own g R) (hM : pz_Ct B.1.2.1 g y bytes maxL none Rc (.ref b :: As) wc Post) (hy : y.name = "<init>") (hw1 : va_Nw (.methodLinkNest own ix y host) (pz_s B)) (hw2 : Cond.instanceMethod y ∈ pz_T) (hw4 : Cond.initialized y.cls ∈ pz_T) (hw5 : Cond.code y bytes maxL none ∈ pz_T)
    (hd : y.cls ≠ "java/lang/invoke/MethodHandle" ∧ y.cls ≠ "java/lang/invoke/VarHandle" ∧ (parseMethodDescriptor y.desc).map (fun d => d.parameters.length) = some nA) (hR : Rc.frames + 1 ≤ R.frames ∧ 8 + (maxL + 11) + Rc.locals ≤ R.locals) (hcs : k + Rc.cells ≤ R.cells ∧ n + Rc.slots ≤ R.slots) (hA : As.length = nA) (hst : st = As.reverse ++ .ref b :: rest) (hrm : (rest.map fun v => v.category).sum ≤ 8)
    (isC isR : List Nat) (hnc : va_nd isC = true) (hC : isC.map (fun i => ws[i]?) = wc.map some) (hRr : isR.map (fun i => ws[i]?) = wr.map some) (hn : va_nd isR = true) (hdis : ∀ i ∈ isR, i ∉ isC) (d : decode cc pc = .ok (.invokespecial ix, 3))
    (kk : ∀ (r : Option Value) (w1 : va_W), Post r w1 → pz_At B (k + Rc.cells) (n + Rc.slots) (pc + 3) lv (r.toList ++ rest) (wr ++ w1)) : pz_At B k n pc lv st ws := by
  intro ls H locs hl hP hD hS
  subst hst
  have hRR := F.2.2.2.2.2.2.2.2.2.2.1
  exact pz_back F isC isR hC hRr hn hdis kk hl hP hD hS (va_runIN (As := As) (rest := rest) (n := nA) (nL := nL) (Ts := pz_T) (b := b) (host := host) ⟨F.1, F.2.1, F.2.2.1, F.2.2.2.2.1, F.2.2.2.2.2.1⟩ (hM H.size) ⟨va_cnB nA F.2.2.2.2.2.1 (pz_goodc hw5) rfl rfl rfl hw1 (F.2.2.2.2.2.1 _ hw4) hd (by rw [hRR]; exact hR), hy, F.2.2.2.2.2.1 _ hw2⟩ ⟨pz_blind, pz_pre F hP hD hS isC hnc hC⟩ rfl hA (by rw [← F.2.2.2.2.2.2.2.2.2.2.2.1]; exact hl.1) rfl (lv_room hrm) d (by rw [hRR]; exact hcs))
end CallRows
theorem pz_objInit {a ix : Nat} (F : pz_F B cc nL ret own g R) (hw1 : Cond.methodLink own ix objectInit ∈ pz_T) (hw2 : Cond.instanceMethod objectInit ∈ pz_T) (hw3 : Cond.code objectInit ⟨#[0xb1]⟩ 1 none ∈ pz_T) (hfr : 1 ≤ R.frames) (hlo : (st.map fun v => v.category).sum + 12 ≤ R.locals) (d : decode cc pc = .ok (.invokespecial ix, 3)) (h : pz_At B k n (pc + 3) lv st ws) : pz_At B k n pc lv (.ref a :: st) ws := by
  intro ls H locs hl hP hD hS
  have hRR := F.2.2.2.2.2.2.2.2.2.2.1
  refine W.objInit F.1 F.2.1 F.2.2.2.2.1 (F.2.2.2.2.2.1 _ hw1) (F.2.2.2.2.2.1 _ hw2) (F.2.2.2.2.2.1 _ hw3) rfl (by rw [F.2.2.1, ← F.2.2.2.2.2.2.2.2.2.2.2.1]; exact hl.1) rfl d (by rw [hRR]; exact hfr) (by rw [hRR]; show 2 * 0 + _ + 12 ≤ _; omega) (h ls H locs hl hP hD hS)
theorem pz_new {C : String} {T : u_T} {N ci ix : Nat} {fs : List Value} {tf : Nat → FieldType} (F : pz_F B cc nL ret own g R) (hc : vwCl[ci]? = some (C, T, N)) (hin : ∀ w ∈ u_ws C T N, w ∈ pz_T) (hty : ∀ k, k < N → parseFieldDescriptor (T k).2.2.1 = some (tf k)) (hw1 : Cond.classLink own ix C ∈ pz_T) (hw2 : Cond.instantiable C N ∈ pz_T) (hw3 : Cond.initialized C ∈ pz_T) (hfs : ∀ j, j < N → defaultValue (tf j) = vp_V fs j) (hcs : k + 1 ≤ R.cells ∧ n + N ≤ R.slots) (d : decode cc pc = .ok (.new ix, 3))
    (h : ∀ q : Nat, pz_At B (k + 1) (n + N) (pc + 3) lv (.ref q :: st) (ws ++ [(q, .inr (ci, fs))])) : pz_At B k n pc lv st ws := by
  intro ls H locs hl hP hD hS
  have hRR := F.2.2.2.2.2.2.2.2.2.2.1
  have hG := F.2.2.2.2.2.2.2.2.2.1
  exact va_new F.1 F.2.1 F.2.2.2.2.2.1 hin tf hty F.2.2.2.2.1 (F.2.2.2.2.2.1 _ hw1) (F.2.2.2.2.2.1 _ hw2) (F.2.2.2.2.2.1 _ hw3) F.2.2.2.2.2.2.1 (by rw [← hG]; exact hP) hD hS F.2.2.2.2.2.2.2.1 hc hfs (by rw [hRR]; exact hcs.1) (by rw [hRR]; exact hcs.2) d (fun q H1 hP1 hD1 hS1 => h q ls H1 locs hl (by rw [hG]; exact hP1) hD1 hS1)
/-- an array class is the one of that name -/
theorem pz_cls {s : State} {t : Nat} {ty : FieldType} (hK : va_K g.1 vwCl (pz_tys g) s) (ht : (pz_tys g)[t]? = some (g.2.1 t, ty)) (hp : ∀ C, ty ≠ .object C) {cA : ClassId} (hA : va_RA s cA ty) : cA = g.2.1 t := by
  have h1 := (hK.2 t _ ht).2
  cases ty with
  | object C => exact absurd rfl (hp C)
  | _ => exact Option.some.inj (Eq.trans (Eq.symm hA) h1)
theorem pz_newarray {atype : ArrayType} {ty : FieldType} {x : Int32} {N' t : Nat} {a0 : vp_A} (F : pz_F B cc nL ret own g R) (hw : Cond.arrayClass (newarray.typeOf atype) ∈ pz_T) (hty : newarray.typeOf atype = ty) (ht : (pz_tys g)[t]? = some (g.2.1 t, ty)) (hp : ∀ C, ty ≠ .object C) (ha : ∀ cA : ClassId, vp_cell cA a0 = arrV cA N' (fun _ => defaultValue ty)) (hx : ¬ x < 0) (hN : x.toNatClampNeg = N') (hby : N' * componentBytes ty ≤ 536870912) (hcs : k + 1 ≤ R.cells ∧ n + N' ≤ R.slots) (d : decode cc pc = .ok (.newarray atype, 2))
    (h : ∀ q : Nat, pz_At B (k + 1) (n + N') (pc + 2) lv (.ref q :: st) (ws ++ [(q, .inl (g.2.1 t, a0))])) : pz_At B k n pc lv (.int x :: st) ws := by
  intro ls H locs hl hP hD hS
  have hRR := F.2.2.2.2.2.2.2.2.2.2.1
  have hG := F.2.2.2.2.2.2.2.2.2.1
  refine va_newa F.1 F.2.1 (F.2.2.2.2.2.1 _ hw) hty F.2.2.2.2.2.2.1 (by rw [← hG]; exact hP) hD hS F.2.2.2.2.2.2.2.1 ha hx hN hby (by rw [hRR]; exact hcs.1) (by rw [hRR]; exact hcs.2) d (fun q cA H1 hK1 hP1 hD1 hS1 => ?_)
  have e : cA = g.2.1 t := pz_cls F.2.2.2.2.2.2.1 ht hp (hK1.2 5 (cA, ty) rfl).2
  subst e
  exact h q ls H1 locs hl (by rw [hG]; exact hP1) hD1 hS1
theorem pz_topi {x : Int32} (h : ∀ y : Int32, y = x → pz_At B k n pc lv (.int y :: st) ws) : pz_At B k n pc lv (.int x :: st) ws := h x rfl
theorem pz_topl {x : Int64} (h : ∀ y : Int64, y = x → pz_At B k n pc lv (.long y :: st) ws) : pz_At B k n pc lv (.long x :: st) ws := h x rfl
/-- the four ends of a contract -/
def pz_pi {S : Type} (post : Int32 → S → Prop) (w : S → va_W) : Option Value → va_W → Prop := fun r w1 => ∃ (z : Int32) (u : S), r = some (.int z) ∧ w1 = w u ∧ post z u
def pz_pl {S : Type} (post : Int64 → S → Prop) (w : S → va_W) : Option Value → va_W → Prop := fun r w1 => ∃ (z : Int64) (u : S), r = some (.long z) ∧ w1 = w u ∧ post z u
def pz_pv {S : Type} (post : S → Prop) (w : S → va_W) : Option Value → va_W → Prop := fun r w1 => ∃ (u : S), r = none ∧ w1 = w u ∧ post u
def pz_pq {S : Type} (post : Option Nat → S → Prop) (w : S → va_W) : Option Value → va_W → Prop := fun r w1 => ∃ (z : Option Nat) (u : S), r = some (va_rf z) ∧ w1 = w u ∧ post z u
end PZC
