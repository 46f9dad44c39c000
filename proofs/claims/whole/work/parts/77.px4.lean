section PX4
/-- words that the throws want, beside the good ones -/
def lk_B : List Cond := [.declares (Bundle.initS "java/lang/RuntimeException"), .declares (Bundle.initS "java/lang/Exception"), .declares (Bundle.initS "java/lang/Throwable")]
theorem lk_b0 : Cond.declares (Bundle.initS "java/lang/RuntimeException") ∈ lk_B := List.mem_cons_self
theorem lk_b1 : Cond.declares (Bundle.initS "java/lang/Exception") ∈ lk_B := List.mem_cons_of_mem _ List.mem_cons_self
theorem lk_b2 : Cond.declares (Bundle.initS "java/lang/Throwable") ∈ lk_B := List.mem_cons_of_mem _ (List.mem_cons_of_mem _ List.mem_cons_self)
theorem vx_fn {p : Cond → Prop} : ∀ w ∈ ([] : List Cond), p w := fun _ h => nomatch h
set_option maxRecDepth 100000 in
theorem lk_io : ∀ w ∈ px_at "StoneHall" 174 "java/lang/IndexOutOfBoundsException" "java/lang/RuntimeException" ["java/lang/Exception"] 7 prog_14_method_2_code, vx_no w = true → w ∈ pz_T ∨ w ∈ lk_B := (List.forall_mem_cons.mpr ⟨(fun _ => Or.inl pw_19), (List.forall_mem_cons.mpr ⟨(fun _ => Or.inl pw_741), (List.forall_mem_cons.mpr ⟨(fun _ => Or.inl pw_750), (List.forall_mem_cons.mpr ⟨(fun _ => Or.inl pw_753), (List.forall_mem_cons.mpr ⟨(fun _ => Or.inl pw_756), (List.forall_mem_cons.mpr ⟨(fun _ => Or.inl pw_758), (List.forall_mem_cons.mpr ⟨(fun _ => Or.inl pw_742), (List.forall_mem_cons.mpr ⟨(fun _ => Or.inl pw_743), (List.forall_mem_cons.mpr ⟨(fun _ => Or.inl pw_30), (List.forall_mem_cons.mpr ⟨(fun _ => Or.inl pw_31), (List.forall_mem_cons.mpr ⟨(fun _ => Or.inl pw_744), (List.forall_mem_cons.mpr ⟨(fun _ => Or.inl pw_749), (List.forall_mem_cons.mpr ⟨(fun _ => Or.inl pw_754), (List.forall_mem_cons.mpr ⟨(fun _ => Or.inl pw_774), (List.forall_mem_cons.mpr ⟨(fun _ => Or.inl pw_731), (List.forall_mem_cons.mpr ⟨(fun _ => Or.inl pw_775), (List.forall_mem_cons.mpr ⟨(fun _ => Or.inl pw_733), (List.forall_mem_cons.mpr ⟨(fun _ => Or.inl pw_776), (List.forall_mem_cons.mpr ⟨(fun _ => Or.inl pw_735), (List.forall_mem_cons.mpr ⟨(fun _ => Or.inl pw_745), (List.forall_mem_cons.mpr ⟨(fun z => absurd z (by decide +kernel)), (List.forall_mem_cons.mpr ⟨(fun _ => Or.inl pw_747), (List.forall_mem_cons.mpr ⟨(fun z => absurd z (by decide +kernel)), (List.forall_mem_cons.mpr ⟨(fun _ => Or.inl pw_737), (List.forall_mem_cons.mpr ⟨(fun _ => Or.inl pw_770), (List.forall_mem_cons.mpr ⟨(fun _ => Or.inl pw_771), (List.forall_mem_cons.mpr ⟨(fun _ => Or.inl pw_773), (List.forall_mem_cons.mpr ⟨(fun _ => Or.inl pw_737), (List.forall_mem_cons.mpr ⟨(fun _ => Or.inl pw_761), (List.forall_mem_cons.mpr ⟨(fun _ => Or.inl pw_762), (List.forall_mem_cons.mpr ⟨(fun _ => Or.inl pw_763), (List.forall_mem_cons.mpr ⟨(fun _ => Or.inl pw_764), (List.forall_mem_cons.mpr ⟨(fun _ => Or.inr lk_b0), (List.forall_mem_cons.mpr ⟨(fun _ => Or.inl pw_764), (List.forall_mem_cons.mpr ⟨(fun _ => Or.inl pw_765), (List.forall_mem_cons.mpr ⟨(fun _ => Or.inl pw_766), (List.forall_mem_cons.mpr ⟨(fun _ => Or.inl pw_767), (List.forall_mem_cons.mpr ⟨(fun _ => Or.inr lk_b1), (List.forall_mem_cons.mpr ⟨(fun _ => Or.inl pw_767), (List.forall_mem_cons.mpr ⟨(fun _ => Or.inl pw_768), (List.forall_mem_cons.mpr ⟨(fun _ => Or.inl pw_769), (List.forall_mem_cons.mpr ⟨(fun _ => Or.inl pw_770), (List.forall_mem_cons.mpr ⟨(fun _ => Or.inr lk_b2), (List.forall_mem_cons.mpr ⟨(fun _ => Or.inl pw_760), (List.forall_mem_cons.mpr ⟨(fun _ => Or.inl pw_720), (List.forall_mem_cons.mpr ⟨(fun _ => Or.inl pw_728), (List.forall_mem_cons.mpr ⟨(fun _ => Or.inl pw_729), (List.forall_mem_cons.mpr ⟨(fun _ => Or.inl pw_730), (List.forall_mem_cons.mpr ⟨(fun _ => Or.inl pw_732), (List.forall_mem_cons.mpr ⟨(fun _ => Or.inl pw_734), (List.forall_mem_cons.mpr ⟨(fun _ => Or.inl pw_736), (List.forall_mem_cons.mpr ⟨(fun z => absurd z (by decide +kernel)), (List.forall_mem_cons.mpr ⟨(fun z => absurd z (by decide +kernel)), (List.forall_mem_cons.mpr ⟨(fun _ => Or.inl pw_740), (List.forall_mem_cons.mpr ⟨(fun _ => Or.inl pw_739), (List.forall_mem_cons.mpr ⟨(fun _ => Or.inl pw_738), vx_fn⟩)⟩)⟩)⟩)⟩)⟩)⟩)⟩)⟩)⟩)⟩)⟩)⟩)⟩)⟩)⟩)⟩)⟩)⟩)⟩)⟩)⟩)⟩)⟩)⟩)⟩)⟩)⟩)⟩)⟩)⟩)⟩)⟩)⟩)⟩)⟩)⟩)⟩)⟩)⟩)⟩)⟩)⟩)⟩)⟩)⟩)⟩)⟩)⟩)⟩)⟩)⟩)⟩)⟩)⟩)⟩)
set_option maxRecDepth 100000 in
theorem lk_ns : ∀ w ∈ px_at "StoneHall" 187 "java/util/NoSuchElementException" "java/lang/RuntimeException" ["java/lang/Exception"] 13 prog_23_method_4_code, vx_no w = true → w ∈ pz_T ∨ w ∈ lk_B := (List.forall_mem_cons.mpr ⟨(fun _ => Or.inl pw_19), (List.forall_mem_cons.mpr ⟨(fun _ => Or.inl pw_741), (List.forall_mem_cons.mpr ⟨(fun _ => Or.inl pw_750), (List.forall_mem_cons.mpr ⟨(fun _ => Or.inl pw_753), (List.forall_mem_cons.mpr ⟨(fun _ => Or.inl pw_756), (List.forall_mem_cons.mpr ⟨(fun _ => Or.inl pw_758), (List.forall_mem_cons.mpr ⟨(fun _ => Or.inl pw_742), (List.forall_mem_cons.mpr ⟨(fun _ => Or.inl pw_743), (List.forall_mem_cons.mpr ⟨(fun _ => Or.inl pw_30), (List.forall_mem_cons.mpr ⟨(fun _ => Or.inl pw_31), (List.forall_mem_cons.mpr ⟨(fun _ => Or.inl pw_744), (List.forall_mem_cons.mpr ⟨(fun _ => Or.inl pw_749), (List.forall_mem_cons.mpr ⟨(fun _ => Or.inl pw_754), (List.forall_mem_cons.mpr ⟨(fun _ => Or.inl pw_774), (List.forall_mem_cons.mpr ⟨(fun _ => Or.inl pw_731), (List.forall_mem_cons.mpr ⟨(fun _ => Or.inl pw_775), (List.forall_mem_cons.mpr ⟨(fun _ => Or.inl pw_733), (List.forall_mem_cons.mpr ⟨(fun _ => Or.inl pw_776), (List.forall_mem_cons.mpr ⟨(fun _ => Or.inl pw_735), (List.forall_mem_cons.mpr ⟨(fun _ => Or.inl pw_745), (List.forall_mem_cons.mpr ⟨(fun z => absurd z (by decide +kernel)), (List.forall_mem_cons.mpr ⟨(fun _ => Or.inl pw_747), (List.forall_mem_cons.mpr ⟨(fun z => absurd z (by decide +kernel)), (List.forall_mem_cons.mpr ⟨(fun _ => Or.inl pw_737), (List.forall_mem_cons.mpr ⟨(fun _ => Or.inl pw_770), (List.forall_mem_cons.mpr ⟨(fun _ => Or.inl pw_771), (List.forall_mem_cons.mpr ⟨(fun _ => Or.inl pw_773), (List.forall_mem_cons.mpr ⟨(fun _ => Or.inl pw_737), (List.forall_mem_cons.mpr ⟨(fun _ => Or.inl pw_796), (List.forall_mem_cons.mpr ⟨(fun _ => Or.inl pw_797), (List.forall_mem_cons.mpr ⟨(fun _ => Or.inl pw_798), (List.forall_mem_cons.mpr ⟨(fun _ => Or.inl pw_764), (List.forall_mem_cons.mpr ⟨(fun _ => Or.inr lk_b0), (List.forall_mem_cons.mpr ⟨(fun _ => Or.inl pw_764), (List.forall_mem_cons.mpr ⟨(fun _ => Or.inl pw_765), (List.forall_mem_cons.mpr ⟨(fun _ => Or.inl pw_766), (List.forall_mem_cons.mpr ⟨(fun _ => Or.inl pw_767), (List.forall_mem_cons.mpr ⟨(fun _ => Or.inr lk_b1), (List.forall_mem_cons.mpr ⟨(fun _ => Or.inl pw_767), (List.forall_mem_cons.mpr ⟨(fun _ => Or.inl pw_768), (List.forall_mem_cons.mpr ⟨(fun _ => Or.inl pw_769), (List.forall_mem_cons.mpr ⟨(fun _ => Or.inl pw_770), (List.forall_mem_cons.mpr ⟨(fun _ => Or.inr lk_b2), (List.forall_mem_cons.mpr ⟨(fun _ => Or.inl pw_795), (List.forall_mem_cons.mpr ⟨(fun _ => Or.inl pw_786), (List.forall_mem_cons.mpr ⟨(fun _ => Or.inl pw_788), (List.forall_mem_cons.mpr ⟨(fun _ => Or.inl pw_752), (List.forall_mem_cons.mpr ⟨(fun _ => Or.inl pw_789), (List.forall_mem_cons.mpr ⟨(fun _ => Or.inl pw_790), (List.forall_mem_cons.mpr ⟨(fun _ => Or.inl pw_791), (List.forall_mem_cons.mpr ⟨(fun _ => Or.inl pw_792), (List.forall_mem_cons.mpr ⟨(fun z => absurd z (by decide +kernel)), (List.forall_mem_cons.mpr ⟨(fun z => absurd z (by decide +kernel)), (List.forall_mem_cons.mpr ⟨(fun _ => Or.inl pw_740), (List.forall_mem_cons.mpr ⟨(fun _ => Or.inl pw_739), (List.forall_mem_cons.mpr ⟨(fun _ => Or.inl pw_793), vx_fn⟩)⟩)⟩)⟩)⟩)⟩)⟩)⟩)⟩)⟩)⟩)⟩)⟩)⟩)⟩)⟩)⟩)⟩)⟩)⟩)⟩)⟩)⟩)⟩)⟩)⟩)⟩)⟩)⟩)⟩)⟩)⟩)⟩)⟩)⟩)⟩)⟩)⟩)⟩)⟩)⟩)⟩)⟩)⟩)⟩)⟩)⟩)⟩)⟩)⟩)⟩)⟩)⟩)⟩)⟩)⟩)
theorem lk_io2 : ∀ w ∈ Cond.classLink "StoneHall" 170 "java/lang/IndexOutOfBoundsException" :: Cond.initialized "java/lang/IndexOutOfBoundsException" :: (px_at "StoneHall" 174 "java/lang/IndexOutOfBoundsException" "java/lang/RuntimeException" ["java/lang/Exception"] 7 prog_14_method_2_code).filter vx_no, vx_ot w = true := fun w hw => List.all_eq_true.mp (by decide +kernel) w hw
theorem lk_ns2 : ∀ w ∈ Cond.classLink "StoneHall" 183 "java/util/NoSuchElementException" :: Cond.initialized "java/util/NoSuchElementException" :: (px_at "StoneHall" 187 "java/util/NoSuchElementException" "java/lang/RuntimeException" ["java/lang/Exception"] 13 prog_23_method_4_code).filter vx_no, vx_ot w = true := fun w hw => List.all_eq_true.mp (by decide +kernel) w hw
/-- what the throws want of the machine beside what stands still -/
def lk_W (U : State) : Prop := va_Nc "java/util/NoSuchElementException" "java/lang/IndexOutOfBoundsException" U ∧ ∀ (a : Array Value) (w : Cond), w ∈ lk_B → w.before a U = true
theorem lk_B1 : ∀ w ∈ lk_B, w.onTables = true ∧ w.keepsFace = true := List.forall_mem_cons.mpr ⟨⟨rfl, rfl⟩, List.forall_mem_cons.mpr ⟨⟨rfl, rfl⟩, List.forall_mem_cons.mpr ⟨⟨rfl, rfl⟩, vx_fn⟩⟩⟩
theorem lk_W.warm {u U : State} (hW : u.WarmedH U.vm) (h : lk_W u) : lk_W U := ⟨h.1.moved hW.alike, fun a w hw => va_tabs (u := u.setVm U.vm) (lk_B1 w hw).1 rfl (Cond.rides hW.wide (lk_B1 w hw).2 (h.2 a w hw))⟩
theorem lk_W.same {u U : State} (hv : u.vm = U.vm) (h : lk_W u) : lk_W U := ⟨h.1.moved (by rw [hv]; exact Vm.Alike.refl _), fun a w hw => va_tabs (lk_B1 w hw).1 hv (h.2 a w hw)⟩
def lk_Pc (g : pz_G) (av : List Value) (wc : va_W) (sz : Nat) : Array Value → State → Prop := fun a U => pz_Pc g av wc sz a U ∧ lk_W U
theorem lk_blind {g : pz_G} {av : List Value} {wc : va_W} {sz : Nat} : FrameBlind (lk_Pc g av wc sz) := by
  intro a U f mk q
  exact ⟨pz_blind a U f mk q.1, lk_W.same (u := U) rfl q.2⟩
/-- a contract of a method that throws E, its world as it was -/
def px_X (g : pz_G) (wc : va_W) (E : String) : String → State → State → Prop := fun E' st t => E' = E ∧ va_P g.1 vwCl wc t.heap ∧ va_D (va_A wc st.heap.size) wc ∧ va_F (va_A wc st.heap.size) st t
def px_Ct (l : Launch) (g : pz_G) (y : MethodName) (cc : ByteArray) (nL : Nat) (ret : Option FieldType) (R : Room) (av : List Value) (wc : va_W) (E : String) : Prop :=
  ∀ sz, vx_Met l y (.code y cc nL ret :: pz_T) R (lk_Pc g av wc sz) (fun _ _ _ _ => False) (px_X g wc E) R.cells R.slots (va_A wc sz)
def px_Rt (B : pz_B) (l : Launch) (g : pz_G) (wc : va_W) (E : String) (R : Room) : Prop :=
  B.2.2.1 = va_A wc (pz_s B).heap.size ∧ B.2.2.2.1 = vx_MQ (pz_be B) (fun _ _ _ _ => False) (px_X g wc E) (pz_a B) (pz_s B) R.cells R.slots (va_A wc (pz_s B).heap.size) ∧ (∀ x ∈ (pz_c B).exceptionTable.toList, False) ∧ lk_W (pz_s B) ∧ B.1.2.1 = l
theorem px_ofAt {l : Launch} {g : pz_G} {y : MethodName} {cc : ByteArray} {nL : Nat} {ret : Option FieldType} {R : Room} {av : List Value} {wc : va_W} {E : String} (hy : plainName y.cls = true) (hav : (lg_sl av).length ≤ nL)
    (body : ∀ B : pz_B, pz_F B cc nL ret y.cls g R → px_Rt B l g wc E R → pz_At B 0 0 0 (lv_args 0 av) [] wc) : px_Ct l g y cc nL ret R av wc E := by
  intro sz
  refine vx_ofW (cc := cc) (maxL := nL) (ret := ret) hy rfl ?_
  intro p e s m args below meth c s₁ Bd hml htab hv
  obtain ⟨⟨rfl, hsz, hP, hK, hD0, hSt⟩, hlk⟩ := hv
  subst hsz
  have hts := atoms_spec (ws := .code y cc nL ret :: pz_T) Bd.pre
  have hD := hD0.self (sz := s.heap.size)
  have hl := lv_entry av (n := nL) hav
  rw [lg_entry_eq]
  exact body ((p, l, e, R, s, m, av.toArray, below, meth, c), g, va_A wc s.heap.size, vx_MQ below (fun _ _ _ _ => False) (px_X g wc E) av.toArray s R.cells R.slots (va_A wc s.heap.size), nL) ⟨Bd.exec, Bd.bytes, hml, Bd.returns, findClass_of_methodNamed Bd.named, fun w h => hts w (List.mem_cons_of_mem _ h), hK, fun q h => Or.inr h, Bd.notSynchronized, rfl, rfl, rfl, hSt⟩ ⟨rfl, rfl, htab, hlk, rfl⟩ _ s.heap [] hl hP hD va_S.rf
/-- 'throw new E("text")' in a method of the hall -/
theorem px_thr {B : pz_B} {l : Launch} {cc rx : ByteArray} {nL : Nat} {ret : Option FieldType} {own : String} {g : pz_G} {R : Room} {k n pc : Nat} {lv : List (Nat × Value)} {st : List Value} {wc : va_W} {E text : String} {ik is ic ix sa : Nat} (hl : l.stackTraces = false) (F : pz_F B cc nL ret own g R) (Rt : px_Rt B l g wc E R)
    (hE : Bundle.fit E = true) (r0 : decode rx 0 = .ok (.aload_n 0, 1)) (r1 : decode rx 1 = .ok (.aload_n 1, 1)) (r2 : decode rx 2 = .ok (.invokespecial ix, 3)) (r5 : decode rx 5 = .ok (.return_, 1))
    (hk : Cond.classLink own ik E ∈ pz_T) (hini : Cond.initialized E ∈ pz_T) (hstr : vk_R own is text sa (pz_s B))
    (hat : ∀ w ∈ px_at own ic E "java/lang/RuntimeException" ["java/lang/Exception"] ix rx, vx_no w = true → w ∈ pz_T ∨ w ∈ lk_B)
    (hgood : ∀ w ∈ Cond.classLink own ik E :: Cond.initialized E :: (px_at own ic E "java/lang/RuntimeException" ["java/lang/Exception"] ix rx).filter vx_no, vx_ot w = true)
    (d0 : decode cc pc = .ok (.new ik, 3)) (d3 : decode cc (pc + 3) = .ok (.dup, 1)) (d4 : decode cc (pc + 4) = .ok (.ldc is, 2)) (d6 : decode cc (pc + 6) = .ok (.invokespecial ic, 3)) (d9 : decode cc (pc + 9) = .ok (.athrow, 1))
    (hR : 5 < R.frames ∧ (st.map fun v => v.category).sum + 82 ≤ R.locals ∧ k + 1 ≤ R.cells ∧ n + 6 ≤ R.slots) : pz_At B k n pc lv st wc := by
  intro ls H locs hls hP hD hS
  obtain ⟨q1, q2, q3, q4, q5⟩ := Rt
  have hSt := F.2.2.2.2.2.2.2.2.2.2.2.2
  have hRR := F.2.2.2.2.2.2.2.2.2.2.1
  rw [q1] at hD hS hSt
  rw [F.2.2.2.2.2.2.2.2.2.1] at hP
  unfold pz_W
  rw [q2]
  refine px_throwS (cc := cc) (rx := rx) (own := own) (cls := E) (Y := "java/lang/RuntimeException") (text := text) (names := ["java/lang/Exception"]) (sa := sa) F.1 F.2.1 (by rw [q5]; exact hl) F.2.2.2.2.1 hE (by decide +kernel) (List.forall_mem_cons.mpr ⟨by decide +kernel, fun _ h => nomatch h⟩) r0 r1 r2 r5 (F.2.2.2.2.2.1 _ hk) (F.2.2.2.2.2.1 _ hini) hstr (fun w hw => ?_) hgood
    (A := va_A wc (pz_s B).heap.size) hSt.2.2.2.2.2.2.2.2.2.2.2.1 hSt.2.2.2.2.2.2.2.2.2.2.2.2.1 hS (by rw [F.2.2.1, ← F.2.2.2.2.2.2.2.2.2.2.2.1]; exact hls.1) d0 d3 d4 d6 d9 (fun x hx => (q3 x hx).elim) (by rw [hRR]; exact hR.1) (by rw [hRR]; show _ + (13 * 3 + 43) ≤ _; have := hR.2.1; omega) (by rw [hRR]; exact hR.2.2.1) (by rw [hRR]; exact hR.2.2.2) F.2.2.2.2.2.2.2.2.1 (fun t hal hz hq => ?_) hS.2.2 hR.2.2.1 hR.2.2.2
  · obtain ⟨w1, w2⟩ := List.mem_filter.mp hw
    rcases hat w w1 w2 with h | h
    · exact F.2.2.2.2.2.1 w h
    · exact q4.2 _ w h
  · refine ⟨rfl, hP.kept (fun k q hk => hq _ (vx_lt hP hk)), hD, Nat.le_trans hS.1 hz, fun q a b => ?_⟩
    rw [hq q (Nat.lt_of_lt_of_le a hS.1)]
    exact hS.2.1 q a b
abbrev rmX8_look_A : Room := { frames := 6, cells := 1, slots := 6, locals := 170 }
abbrev paX8_look_A_10 (B : pz_B) (g : pz_G) (x : Int32) (w : Int32) (h0 : Nat) (zt : Nat) (zl : Nat) (zc : Nat) (zm : Nat) (zb : Nat) (zs : Nat) (bn : Int32) (hk : Int32) (bq : Nat → Option Nat)  : Prop := pz_At B 0 0 10 [(0, .ref h0), (1, .int x), (2, .int w), (3, .null)] [] [(h0, .inr (7, [.ref zt, .ref zl, .ref zc, .ref zm, .ref zb, .ref zs, .int bn, .int hk])), (zb, .inl (g.2.1 4, 10, .inr (.inr (.inr (.inr bq)))))]
set_option maxHeartbeats 4000000 in
set_option maxRecDepth 100000 in
theorem sgX8_look_A_0 {B : pz_B} {g : pz_G} (F : pz_F B cX8_look 4 (some .int) yX8_look.cls g rmX8_look_A) (x : Int32) (w : Int32) (h0 : Nat) (zt : Nat) (zl : Nat) (zc : Nat) (zm : Nat) (zb : Nat) (zs : Nat) (bn : Int32) (hk : Int32) (bq : Nat → Option Nat) (T10 : Prop) (hT10 : T10  → paX8_look_A_10 B g x w h0 zt zl zc zm zb zs bn hk bq )  (vc : (x < 0 ∨ bn ≤ x) ∧ ∀ _ : (True), T10 ) : pz_At B 0 0 0 [(0, .ref h0), (1, .int x), (2, .int w)] [] [(h0, .inr (7, [.ref zt, .ref zl, .ref zc, .ref zm, .ref zb, .ref zs, .int bn, .int hk])), (zb, .inl (g.2.1 4, 10, .inr (.inr (.inr (.inr bq)))))] := by
  refine pz_aload_n 0 F rfl dX8_look_0 rfl ?_
  refine pz_iload_n 1 F rfl dX8_look_1 rfl ?_
  obtain ⟨h_1, vc⟩ := vc
  refine pz_callV (nA := 1) (ci := 7) (C := RX8) (T := TX8) (N := 8) (As := [.int x]) (rest := []) (wr := []) F (ctX8_known_A _ g h0 x zt zl zc zm zb zs bn hk bq h_1) 0 rfl rfl pw_485 pw_487 pv_13 pw_1 pw_488 (by decide +kernel) (by decide) (by decide) rfl rfl (Nat.le_of_ble_eq_true rfl) [0, 1] [] rfl rfl rfl rfl (by decide) dX8_look_2 (fun r0 w0 hp0 => ?_)
  obtain ⟨_, rfl, rfl, hq_2⟩ := hp0
  replace vc := vc  hq_2
  refine pz_eq (st' := [.null]) (ws' := [(h0, .inr (7, [.ref zt, .ref zl, .ref zc, .ref zm, .ref zb, .ref zs, .int bn, .int hk])), (zb, .inl (g.2.1 4, 10, .inr (.inr (.inr (.inr bq)))))]) rfl rfl ?_
  refine pz_astore_nN (lv' := [(3, .null), (0, .ref h0), (1, .int x), (2, .int w)]) F dX8_look_5 rfl (by decide) rfl ?_
  refine pz_aload_nN 0 F rfl dX8_look_6 rfl ?_
  refine pz_ifnonnullN F dX8_look_7 ?_
  exact pz_sub [1, 2, 3, 0] [0, 1] rfl rfl rfl (hT10  vc)
abbrev rmX8_look_W : Room := { frames := 6, cells := 1, slots := 6, locals := 170 }
abbrev paX8_look_W_80 (B : pz_B) (g : pz_G) (x : Int32) (w : Int32) (h0 : Nat) (zt : Nat) (zl : Nat) (zc : Nat) (zm : Nat) (zb : Nat) (zs : Nat) (bn : Int32) (hk : Int32) (bq : Nat → Option Nat) (ba : Nat) (sl : Int32) (ins : Int32) (bpa : Nat) (bbd : Nat) (bbc : Nat) (cnt : Int32) (se : Int32) (sp : Int32) (jb : Nat) (NB : Nat)  : Prop := pz_At B 0 0 80 [(0, .ref h0), (1, .int x), (2, .int w), (3, .ref ba)] [] [(h0, .inr (7, [.ref zt, .ref zl, .ref zc, .ref zm, .ref zb, .ref zs, .int bn, .int hk])), (zb, .inl (g.2.1 4, 10, .inr (.inr (.inr (.inr bq))))), (ba, .inr (0, [.int sl, .int ins, .ref bpa, .ref bbd, .ref bbc, .int cnt, .int se, .int sp]))]
set_option maxHeartbeats 4000000 in
set_option maxRecDepth 100000 in
theorem sgX8_look_W_0 {B : pz_B} {g : pz_G} (F : pz_F B cX8_look 4 (some .int) yX8_look.cls g rmX8_look_W) (x : Int32) (w : Int32) (h0 : Nat) (zt : Nat) (zl : Nat) (zc : Nat) (zm : Nat) (zb : Nat) (zs : Nat) (bn : Int32) (hk : Int32) (bq : Nat → Option Nat) (ba : Nat) (sl : Int32) (ins : Int32) (bpa : Nat) (bbd : Nat) (bbc : Nat) (cnt : Int32) (se : Int32) (sp : Int32) (jb : Nat) (NB : Nat) (T80 : Prop) (hT80 : T80  → paX8_look_W_80 B g x w h0 zt zl zc zm zb zs bn hk bq ba sl ins bpa bbd bbc cnt se sp jb NB )  (vc : (jb < NB ∧ NB ≤ 10 ∧ x = nI jb ∧ bn = nI NB ∧ bq jb = some ba) ∧ ∀ _ : (True), ((w = 0 → False) ∧ (¬ w = 0 → ((w = 1 → False) ∧ (¬ w = 1 → ((w = 2 → False) ∧ (¬ w = 2 → ((w = 3 → False) ∧ (¬ w = 3 → T80 ))))))))) : pz_At B 0 0 0 [(0, .ref h0), (1, .int x), (2, .int w)] [] [(h0, .inr (7, [.ref zt, .ref zl, .ref zc, .ref zm, .ref zb, .ref zs, .int bn, .int hk])), (zb, .inl (g.2.1 4, 10, .inr (.inr (.inr (.inr bq))))), (ba, .inr (0, [.int sl, .int ins, .ref bpa, .ref bbd, .ref bbc, .int cnt, .int se, .int sp]))] := by
  refine pz_aload_n 0 F rfl dX8_look_0 rfl ?_
  refine pz_iload_n 1 F rfl dX8_look_1 rfl ?_
  obtain ⟨h_1, vc⟩ := vc
  refine pz_callV (nA := 1) (ci := 7) (C := RX8) (T := TX8) (N := 8) (As := [.int x]) (rest := []) (wr := []) F (ctX8_known_B _ g x h0 zt zl zc zm zb zs bn hk bq ba sl ins bpa bbd bbc cnt se sp jb NB h_1) 0 rfl rfl pw_485 pw_487 pv_13 pw_1 pw_488 (by decide +kernel) (by decide) (by decide) rfl rfl (Nat.le_of_ble_eq_true rfl) [0, 1, 2] [] rfl rfl rfl rfl (by decide) dX8_look_2 (fun r0 w0 hp0 => ?_)
  obtain ⟨_, rfl, rfl, hq_2⟩ := hp0
  replace vc := vc  hq_2
  refine pz_eq (st' := [.ref ba]) (ws' := [(h0, .inr (7, [.ref zt, .ref zl, .ref zc, .ref zm, .ref zb, .ref zs, .int bn, .int hk])), (zb, .inl (g.2.1 4, 10, .inr (.inr (.inr (.inr bq))))), (ba, .inr (0, [.int sl, .int ins, .ref bpa, .ref bbd, .ref bbc, .int cnt, .int se, .int sp]))]) rfl rfl ?_
  refine pz_astore_n (lv' := [(3, .ref ba), (0, .ref h0), (1, .int x), (2, .int w)]) F dX8_look_5 rfl (by decide) rfl ?_
  refine pz_aload_n 0 F rfl dX8_look_6 rfl ?_
  refine pz_ifnonnull (tgt := 20) F dX8_look_7 (by decide) ?_
  refine pz_iload_n 3 F rfl dX8_look_20 rfl ?_
  by_cases q_3 : w = 0
  · replace vc := vc.1 q_3
    refine pz_tsw (off := 31) (tgt := 52) F dX8_look_21 (by rw [q_3]; decide) (by rw [q_3]; decide) (by rw [q_3]; rfl) (by decide) ?_
    exact vc.elim
  · replace vc := vc.2 q_3
    by_cases q_4 : w = 1
    · replace vc := vc.1 q_4
      refine pz_tsw (off := 36) (tgt := 57) F dX8_look_21 (by rw [q_4]; decide) (by rw [q_4]; decide) (by rw [q_4]; rfl) (by decide) ?_
      exact vc.elim
    · replace vc := vc.2 q_4
      by_cases q_5 : w = 2
      · replace vc := vc.1 q_5
        refine pz_tsw (off := 41) (tgt := 62) F dX8_look_21 (by rw [q_5]; decide) (by rw [q_5]; decide) (by rw [q_5]; rfl) (by decide) ?_
        exact vc.elim
      · replace vc := vc.2 q_5
        by_cases q_6 : w = 3
        · replace vc := vc.1 q_6
          refine pz_tsw (off := 54) (tgt := 75) F dX8_look_21 (by rw [q_6]; decide) (by rw [q_6]; decide) (by rw [q_6]; rfl) (by decide) ?_
          exact vc.elim
        · replace vc := vc.2 q_6
          refine pz_tswO (tgt := 80) F dX8_look_21 (by have h0 := lv_neT (a := 0) q_3 rfl; have h1 := lv_neT (a := 1) q_4 rfl; have h2 := lv_neT (a := 2) q_5 rfl; have h3 := lv_neT (a := 3) q_6 rfl; omega) (by decide) ?_
          exact pz_sub [1, 2, 3, 0] [0, 1, 2] rfl rfl rfl (hT80  vc)
set_option maxRecDepth 100000 in
theorem ctX8_look_A (l : Launch) (g : pz_G) (x : Int32) (w : Int32) (h0 : Nat) (zt : Nat) (zl : Nat) (zc : Nat) (zm : Nat) (zb : Nat) (zs : Nat) (bn : Int32) (hk : Int32) (bq : Nat → Option Nat) (hl : l.stackTraces = false) (hpre : (x < 0 ∨ bn ≤ x)) : px_Ct l g yX8_look cX8_look 4 (some .int) rmX8_look_A [.ref h0, .int x, .int w] [(h0, .inr (7, [.ref zt, .ref zl, .ref zc, .ref zm, .ref zb, .ref zs, .int bn, .int hk])), (zb, .inl (g.2.1 4, 10, .inr (.inr (.inr (.inr bq)))))] "java/lang/IndexOutOfBoundsException" := by
  refine px_ofAt (by decide +kernel) (Nat.le_of_ble_eq_true rfl) (fun B F Rt => ?_)
  have hSt := F.2.2.2.2.2.2.2.2.2.2.2.2
  refine sgX8_look_A_0 F x w h0 zt zl zc zm zb zs bn hk bq True (fun _ => px_thr (rx := prog_14_method_2_code) (text := "no such boulder") (ik := 170) (is := 172) (ic := 174) (ix := 7) (sa := g.2.2 80) hl F Rt (by decide +kernel) (by decide +kernel) (by decide +kernel) (by decide +kernel) (by decide +kernel) pw_719 pw_22 hSt.2.2.2.2.2.2.2.2.2.2.2.2.2.1 lk_io lk_io2 dX8_look_10 dX8_look_13 dX8_look_14 dX8_look_16 dX8_look_19 (by decide)) ?_
  exact ⟨hpre, fun _ => trivial⟩
set_option maxRecDepth 100000 in
theorem ctX8_look_W (l : Launch) (g : pz_G) (x : Int32) (w : Int32) (h0 : Nat) (zt : Nat) (zl : Nat) (zc : Nat) (zm : Nat) (zb : Nat) (zs : Nat) (bn : Int32) (hk : Int32) (bq : Nat → Option Nat) (ba : Nat) (sl : Int32) (ins : Int32) (bpa : Nat) (bbd : Nat) (bbc : Nat) (cnt : Int32) (se : Int32) (sp : Int32) (jb : Nat) (NB : Nat) (hl : l.stackTraces = false) (hpre : (jb < NB ∧ NB ≤ 10 ∧ x = nI jb ∧ bn = nI NB ∧ bq jb = some ba) ∧ ¬ (w = 0 ∨ w = 1 ∨ w = 2 ∨ w = 3)) : px_Ct l g yX8_look cX8_look 4 (some .int) rmX8_look_W [.ref h0, .int x, .int w] [(h0, .inr (7, [.ref zt, .ref zl, .ref zc, .ref zm, .ref zb, .ref zs, .int bn, .int hk])), (zb, .inl (g.2.1 4, 10, .inr (.inr (.inr (.inr bq))))), (ba, .inr (0, [.int sl, .int ins, .ref bpa, .ref bbd, .ref bbc, .int cnt, .int se, .int sp]))] "java/util/NoSuchElementException" := by
  refine px_ofAt (by decide +kernel) (Nat.le_of_ble_eq_true rfl) (fun B F Rt => ?_)
  have hSt := F.2.2.2.2.2.2.2.2.2.2.2.2
  refine sgX8_look_W_0 F x w h0 zt zl zc zm zb zs bn hk bq ba sl ins bpa bbd bbc cnt se sp jb NB True (fun _ => px_thr (rx := prog_23_method_4_code) (text := "no such what") (ik := 183) (is := 185) (ic := 187) (ix := 13) (sa := g.2.2 81) hl F Rt (by decide +kernel) (by decide +kernel) (by decide +kernel) (by decide +kernel) (by decide +kernel) pw_785 pw_23 hSt.2.2.2.2.2.2.2.2.2.2.2.2.2.2.1 lk_ns lk_ns2 dX8_look_80 dX8_look_83 dX8_look_84 dX8_look_86 dX8_look_89 (by decide)) ?_
  obtain ⟨h1, h2⟩ := hpre
  exact ⟨h1, fun _ => ⟨fun q => h2 (Or.inl q), fun _ => ⟨fun q => h2 (Or.inr (Or.inl q)), fun _ => ⟨fun q => h2 (Or.inr (Or.inr (Or.inl q))), fun _ => ⟨fun q => h2 (Or.inr (Or.inr (Or.inr q))), fun _ => trivial⟩⟩⟩⟩⟩
end PX4
