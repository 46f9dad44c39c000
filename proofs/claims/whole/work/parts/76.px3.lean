section PX3
/-- a handler is found: the frame goes on there, the thrown alone on its stack -/
theorem px_go {tb : Tables} {e : Env} {S target : State} {f : JFrame} {c : Code} {below : List Frame} {a : Addr} (h : At S f.method c below) {pc' : Nat} {vm' : Vm}
    (hfind : ∀ (Q : Handler → Pre) (E : CtlPost) (d : Bool) (acts : List Action), wp (findHandler f a) Q E e d acts ((S.setTop f).pushFrame (.throwing a)) ↔ Q (.found pc') d acts (((S.setTop f).pushFrame (.throwing a)).setVm vm'))
    (hrest : Steps tb e below ((S.setVm vm').setTop { f with pc := pc', stack := [.ref a] }) target) : Steps tb e below ((S.setTop f).pushFrame (.throwing a)) target := by
  obtain ⟨hgo, hw⟩ := h.throwing a
  obtain ⟨g₀, hg⟩ := Option.isSome_iff_exists.mp h.top
  obtain ⟨r, hr⟩ := State.topJava?_eq_some.mp hg
  have hr' : (S.setVm vm').frames = .java g₀ :: r := hr
  have key : (stepThrowing e ((S.setTop f).pushFrame (.throwing a)) a (.java f :: r)).Is ((((S.setTop f).pushFrame (.throwing a)).setVm vm').setFrames (.java { f with pc := pc', stack := [.ref a] } :: r)) [] := by
    simp only [stepThrowing, searchFrame, vmDo]
    generalize hres : Sem.go _ e false [] ((S.setTop f).pushFrame (.throwing a)) = res
    obtain ⟨as, rfl, ha⟩ := Sem.eq_ok_of hres (a := Handler.found pc') (s' := ((S.setTop f).pushFrame (.throwing a)).setVm vm') (acts' := []) (by simp [hfind _ _ _ _])
    exact ⟨rfl, ha⟩
  have e1 : ∀ (u : State) (F G : List Frame), ((u.setFrames F).setVm vm').setFrames G = (u.setVm vm').setFrames G := fun u F G => by
    rw [show (u.setFrames F).setVm vm' = (u.setVm vm').setFrames F from rfl, State.setFrames_setFrames]
  refine Steps.head hgo hw ?_
  rw [stepThread_throwing (frames_entered h.top _), hr, List.tail_cons, key.1]
  rw [State.setTop_of_frames _ hr'] at hrest
  rw [State.pushFrame, e1, State.setTop_of_frames _ hr, e1]
  exact hrest
variable {p : Program} {l : Launch} {e : Env} {R : Room} {s : State} {m : MethodId} {args : Array Value} {below : List Frame} {meth : Method} {c : Code} {H : Heap} {locs : List Loc} {cells slots : Nat} {Q : State → Prop} {pc : Nat} {ls : Array Slot} {rest : List Value}
/-- caught by the first row -/
theorem px_catch1 {own name E : String} {ce : Cell} {q : Addr} (hown : s.vm.findClass own = some m.cls) (x : ExceptionTableEntry) (suf : List ExceptionTableEntry) (hsplit : c.exceptionTable.toList = x :: suf) (hx : covers x pc = true) (h0 : x.catchType ≠ 0)
    (hlink : (Cond.classLink own x.catchType name).before args s = true) (hfit : ∃ k, s.vm.findClass name = some k ∧ s.vm.assignable ce.cls k = true) (hcell : H[q]? = some ce) (hv : ce.vm = .none) (hcl : s.vm.findClass E = some ce.cls)
    (kk : W p l e R s m args below meth c H locs cells slots Q (F0 m x.handlerPc ls [.ref q])) : vx_W p l e R s m args below meth c H locs cells slots Q (F0 m pc ls rest) q := by
  intro T hT X
  have hpl : e.platform.magicAccessors = ({} : Platform).magicAccessors := by rw [X.admits.platform]
  obtain ⟨k, hk, hfit⟩ := hfit
  obtain ⟨k', hk', hl⟩ := Cond.classLink_spec hown hlink e.platform hpl
  cases Option.some.inj (hk.symm.trans hk')
  obtain ⟨dk, _, _, kt, hd, _, _, _, _, hkt, _, hopen⟩ := hl.here
  have hal := X.warmed.alike
  obtain ⟨z2, hz2, -⟩ := hal.2.2 _ _ hkt
  obtain ⟨w1, hw1⟩ := Vm.classAt_of_findClass hcl
  obtain ⟨z1, hz1, -⟩ := hal.2.2 _ _ hw1
  have hW' : s.WarmedH (T.vm.noted m.cls x.catchType (.cls k)) := X.warmed.noted hd hopen (State.rightAt_cls hl)
  obtain ⟨t, a1, b1⟩ := kk (T.setVm (T.vm.noted m.cls x.catchType (.cls k))) hT (X.noted hW')
  refine ⟨t, px_go (f := F0 m pc ls rest) X.here (fun Q E d acts => ?_) a1, b1⟩
  rw [W.findHandler_eq (meth := meth) (code := c) X.method' X.code, hsplit]
  exact px_row (b := true) (S := (T.setTop (F0 m pc ls rest)).pushFrame (.throwing q)) hx h0 (X.warmed.classLinks hl) (by show T.heap[q]? = _; rw [hT]; exact hcell) (fun k => by rw [hv]; exact fun h => nomatch h) ⟨z1, hz1⟩ ⟨z2, hz2⟩ (by show T.vm.assignable _ _ = true; rw [hal.assignable]; exact hfit)
/-- caught by the second row, the first naming another class -/
theorem px_catch2 {own name0 name E : String} {ce : Cell} {q : Addr} (hown : s.vm.findClass own = some m.cls) (y x : ExceptionTableEntry) (suf : List ExceptionTableEntry) (hsplit : c.exceptionTable.toList = y :: x :: suf) (hy : covers y pc = true) (hy0 : y.catchType ≠ 0) (hx : covers x pc = true) (h0 : x.catchType ≠ 0)
    (hlink0 : (Cond.classLink own y.catchType name0).before args s = true) (hno : va_Nc E name0 s) (hlink : (Cond.classLink own x.catchType name).before args s = true) (hfit : ∃ k, s.vm.findClass name = some k ∧ s.vm.assignable ce.cls k = true) (hcell : H[q]? = some ce) (hv : ce.vm = .none) (hcl : s.vm.findClass E = some ce.cls)
    (kk : W p l e R s m args below meth c H locs cells slots Q (F0 m x.handlerPc ls [.ref q])) : vx_W p l e R s m args below meth c H locs cells slots Q (F0 m pc ls rest) q := by
  intro T hT X
  have hpl : e.platform.magicAccessors = ({} : Platform).magicAccessors := by rw [X.admits.platform]
  obtain ⟨k, hk, hfit⟩ := hfit
  obtain ⟨k', hk', hl⟩ := Cond.classLink_spec hown hlink e.platform hpl
  cases Option.some.inj (hk.symm.trans hk')
  obtain ⟨k0, hk0, hl0⟩ := Cond.classLink_spec hown hlink0 e.platform hpl
  obtain ⟨e1, e2, he1, he2, hno⟩ := hno
  cases Option.some.inj (he1.symm.trans hcl)
  cases Option.some.inj (he2.symm.trans hk0)
  obtain ⟨dk, _, _, kt, hd, _, _, _, _, hkt, _, hopen⟩ := hl.here
  obtain ⟨dk0, _, _, kt0, hd0, _, _, _, _, hkt0, _, hopen0⟩ := hl0.here
  have hal := X.warmed.alike
  obtain ⟨w1, hw1⟩ := Vm.classAt_of_findClass hcl
  obtain ⟨z1, hz1, -⟩ := hal.2.2 _ _ hw1
  obtain ⟨z0, hz0, -⟩ := hal.2.2 _ _ hkt0
  have hW0 : s.WarmedH (T.vm.noted m.cls y.catchType (.cls k0)) := X.warmed.noted hd0 hopen0 (State.rightAt_cls hl0)
  have hal0 := hW0.alike
  obtain ⟨z3, hz3, -⟩ := hal0.2.2 _ _ hw1
  obtain ⟨z4, hz4, -⟩ := hal0.2.2 _ _ hkt
  have hW' : s.WarmedH ((T.vm.noted m.cls y.catchType (.cls k0)).noted m.cls x.catchType (.cls k)) := hW0.noted hd hopen (State.rightAt_cls hl)
  obtain ⟨t, a1, b1⟩ := kk (T.setVm ((T.vm.noted m.cls y.catchType (.cls k0)).noted m.cls x.catchType (.cls k))) hT (X.noted hW')
  refine ⟨t, px_go (f := F0 m pc ls rest) X.here (fun Q E d acts => ?_) a1, b1⟩
  rw [W.findHandler_eq (meth := meth) (code := c) X.method' X.code, hsplit]
  rw [px_row (b := false) (S := (T.setTop (F0 m pc ls rest)).pushFrame (.throwing q)) hy hy0 (X.warmed.classLinks hl0) (by show T.heap[q]? = _; rw [hT]; exact hcell) (fun k => by rw [hv]; exact fun h => nomatch h) ⟨z1, hz1⟩ ⟨z0, hz0⟩ (by show T.vm.assignable _ _ = false; rw [hal.assignable]; exact hno), if_neg (by decide)]
  exact px_row (b := true) (S := ((T.setTop (F0 m pc ls rest)).pushFrame (.throwing q)).setVm (T.vm.noted m.cls y.catchType (.cls k0))) hx h0 (hW0.classLinks hl) (by show T.heap[q]? = _; rw [hT]; exact hcell) (fun k => by rw [hv]; exact fun h => nomatch h) ⟨z3, hz3⟩ ⟨z4, hz4⟩ (by show (T.vm.noted m.cls y.catchType (.cls k0)).assignable _ _ = true; rw [hal0.assignable]; exact hfit)
end PX3
