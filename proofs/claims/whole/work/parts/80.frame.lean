/-! ===== worlds up to order; a contract's frame ===== -/
section PZP
theorem pz_nd_of {l : List Nat} (h : l.Nodup) : va_nd l = true := by
  induction l with
  | nil => rfl
  | cons a l ih =>
    rw [List.nodup_cons] at h
    simp only [va_nd, Bool.and_eq_true, decide_eq_true_eq]
    exact ⟨h.1, ih h.2⟩
theorem pz_D1 {ws : va_W} : (∀ (i j : Nat) (p q : Nat × va_E), ws[i]? = some p → ws[j]? = some q → p.1 = q.1 → i = j) ↔ (ws.map Prod.fst).Nodup := by
  constructor
  · intro h
    refine List.pairwise_iff_getElem.mpr (fun i j hi hj hij e => ?_)
    rw [List.getElem_map, List.getElem_map] at e
    rw [List.length_map] at hi hj
    have := h i j _ _ (List.getElem?_eq_getElem hi) (List.getElem?_eq_getElem hj) e
    omega
  · intro h i j p q hi hj e
    have h2 := List.pairwise_iff_getElem.mp h
    obtain ⟨hi1, hi2⟩ := List.getElem?_eq_some_iff.mp hi
    obtain ⟨hj1, hj2⟩ := List.getElem?_eq_some_iff.mp hj
    rcases Nat.lt_trichotomy i j with hlt | heq | hlt
    · have h3 := h2 i j (by rw [List.length_map]; exact hi1) (by rw [List.length_map]; exact hj1) hlt
      rw [List.getElem_map, List.getElem_map, hi2, hj2] at h3
      exact absurd e h3
    · exact heq
    · have h3 := h2 j i (by rw [List.length_map]; exact hj1) (by rw [List.length_map]; exact hi1) hlt
      rw [List.getElem_map, List.getElem_map, hi2, hj2] at h3
      exact absurd e.symm h3
theorem pz_Pperm {D : va_G} {cl : List vw_C} {ws ws' : va_W} {H : Heap} (hp : ws.Perm ws') (h : va_P D cl ws H) : va_P D cl ws' H := by
  intro k q hk
  have hm : q ∈ ws := hp.mem_iff.mpr (List.mem_of_getElem? hk)
  obtain ⟨i, hi⟩ := List.getElem?_of_mem hm
  exact h i q hi
theorem pz_Dperm {A : Nat → Prop} {ws ws' : va_W} (hp : ws.Perm ws') (h : va_D A ws) : va_D A ws' := by
  refine ⟨pz_D1.mpr ((hp.map Prod.fst).nodup_iff.mp (pz_D1.mp h.1)), fun k q hk => ?_⟩
  have hm : q ∈ ws := hp.mem_iff.mpr (List.mem_of_getElem? hk)
  obtain ⟨i, hi⟩ := List.getElem?_of_mem hm
  exact h.2 i q hi
theorem pz_Asub {ws ws' : va_W} {sz : Nat} (hp : ∀ q ∈ ws, q ∈ ws') : ∀ q, va_A ws sz q → va_A ws' sz q := by
  rintro q (⟨k, e, h⟩ | h)
  · obtain ⟨i, hi⟩ := List.getElem?_of_mem (hp _ (List.mem_of_getElem? h))
    exact Or.inl ⟨i, e, hi⟩
  · exact Or.inr h
theorem pz_rgR (wr wc : va_W) : (List.range wr.length).map (fun i => (wr ++ wc)[i]?) = wr.map some := by
  apply List.ext_getElem
  · simp
  · intro i h1 h2
    have hi : i < wr.length := by simpa using h2
    rw [List.getElem_map, List.getElem_map, List.getElem_range]
    exact (List.getElem?_append_left hi).trans (List.getElem?_eq_getElem hi)
theorem pz_rgC (wr wc : va_W) : ((List.range wc.length).map (fun i => i + wr.length)).map (fun i => (wr ++ wc)[i]?) = wc.map some := by
  apply List.ext_getElem
  · simp
  · intro i h1 h2
    have hi : i < wc.length := by simpa using h2
    rw [List.getElem_map, List.getElem_map, List.getElem_map, List.getElem_range]
    refine (List.getElem?_append_right (by omega)).trans ?_
    rw [Nat.add_sub_cancel]
    exact List.getElem?_eq_getElem hi
theorem pz_rgN (a b : Nat) : va_nd ((List.range a).map (fun i => i + b)) = true := by
  apply pz_nd_of
  refine List.pairwise_iff_getElem.mpr (fun i j hi hj hij => ?_)
  simp only [List.getElem_map, List.getElem_range]
  omega
theorem pz_rgD (a b : Nat) : ∀ i ∈ List.range b, i ∉ (List.range a).map (fun i => i + b) := by
  intro i hi h
  rw [List.mem_map] at h
  obtain ⟨j, _, h⟩ := h
  have := List.mem_range.mp hi
  omega
variable {l : Launch} {g : pz_G} {y : MethodName} {cc : ByteArray} {nL : Nat} {ret : Option FieldType} {R : Room} {av : List Value}
/-- a contract over a larger world: the rest stays as it was -/
theorem pz_oc {wc wr W : va_W} {Post Post' : Option Value → va_W → Prop} (hM : pz_Ct l g y cc nL ret R av wc Post) (hp : W.Perm (wr ++ wc)) (hq : ∀ r w1, Post r w1 → ∃ W', (wr ++ w1).Perm W' ∧ Post' r W') : pz_Ct l g y cc nL ret R av W Post' := by
  intro sz
  intro p e ha hc hk s m args below hf happ hP ht
  obtain ⟨hav, hsz, hPW, hK, hD, hSt⟩ := hP
  have hP2 : va_P g.1 vwCl (wr ++ wc) s.heap := pz_Pperm hp hPW
  have hD2 : va_D (fun _ => True) (wr ++ wc) := pz_Dperm hp hD
  have hin : ∀ q ∈ wc, q ∈ W := fun q h => hp.mem_iff.mpr (List.mem_append_right _ h)
  have hPc : va_P g.1 vwCl wc s.heap := hP2.sub _ (pz_pick (pz_rgC wr wc))
  have hDc : va_D (fun _ => True) wc := hD2.sub _ (pz_rgN _ _) (pz_rgC wr wc)
  obtain ⟨k, o, h1, h2, h3, ⟨⟨r, w1, ho, hp1, hP1, hD1⟩, hF⟩, L, hFr, hL⟩ := hM sz p e ha hc hk s m args below hf happ ⟨hav, hsz, hPc, hK, hDc, hSt.narrow (pz_Asub hin)⟩ ht
  obtain ⟨W', hp2, hp3⟩ := hq r w1 hp1
  have hA : ∀ q, va_A wc s.heap.size q → va_A W s.heap.size q := pz_Asub hin
  have hDW : va_D (va_A W s.heap.size) (wr ++ wc) := pz_Dperm hp hD.self
  obtain ⟨hP4, hD4⟩ := va_join (w1 := w1) hP2 hDW ((List.range wc.length).map (fun i => i + wr.length)) (List.range wr.length) (pz_rgC wr wc) (pz_rgR wr wc) (pz_nd_of List.nodup_range) (pz_rgD _ _) hF.2 hA hP1 hD1
  exact ⟨k, o, h1, h2, h3, ⟨⟨r, W', ho, hp3, pz_Pperm hp2 hP4, pz_Dperm hp2 hD4⟩, hF.1, fun q a b => hF.2 q a (fun z => b (hA q z))⟩, L, hFr, fun q hq => by rw [hsz] at hA; exact hA _ (hL q hq)⟩
theorem pz_fm (L : va_W) : (List.range L.length).filterMap (fun i => L[i]?) = L := by
  have h := pz_pick (ws := L) (w1 := L) (js := List.range L.length) (by
    have := pz_rgR L []
    rw [List.append_nil] at this
    exact this)
  exact h
/-- a world's cells in another order -/
theorem pz_pm {L : va_W} (js ks : List Nat) (h : (js ++ ks).Perm (List.range L.length)) : L.Perm (js.filterMap (fun i => L[i]?) ++ ks.filterMap (fun i => L[i]?)) := by
  have h1 := (h.filterMap (fun i => L[i]?)).symm
  rw [pz_fm, List.filterMap_append] at h1
  exact h1
theorem pz_W1 {L wc t : va_W} (js ks : List Nat) (h : (js ++ ks).Perm (List.range L.length)) (hC : js.filterMap (fun i => L[i]?) = wc) : (L ++ t).Perm ((ks.filterMap (fun i => L[i]?) ++ t) ++ wc) := by
  subst hC
  have h1 := (pz_pm js ks h).append_right t
  refine h1.trans ?_
  rw [List.append_assoc]
  exact List.perm_append_comm
theorem pz_W2 {L L' w1 t : va_W} (js ks : List Nat) (h : (js ++ ks).Perm (List.range L'.length)) (hC : js.filterMap (fun i => L'[i]?) = w1) (hR : ks.filterMap (fun i => L'[i]?) = ks.filterMap (fun i => L[i]?)) : ((ks.filterMap (fun i => L[i]?) ++ t) ++ w1).Perm (L' ++ t) := by
  have h1 := (pz_W1 (t := t) js ks h hC).symm
  rw [hR] at h1
  exact h1
/-- the same with some of the cells of a second list -/
theorem pz_V1 {L M wc t : va_W} (js ks ms ns : List Nat) (is : List Nat) (h : (js ++ ks).Perm (List.range L.length)) (h2 : (ms ++ ns).Perm (List.range M.length)) (hi : is.Perm (List.range wc.length)) (hC : is.filterMap (fun i => wc[i]?) = js.filterMap (fun i => L[i]?) ++ ms.filterMap (fun i => M[i]?)) : (L ++ (M ++ t)).Perm ((ks.filterMap (fun i => L[i]?) ++ (ns.filterMap (fun i => M[i]?) ++ t)) ++ wc) := by
  have e1 := pz_pm js ks h
  have e2 := pz_pm ms ns h2
  have e3 : wc.Perm (js.filterMap (fun i => L[i]?) ++ ms.filterMap (fun i => M[i]?)) := by
    have := pz_pm (L := wc) is [] (by rw [List.append_nil]; exact hi)
    rw [hC, List.filterMap_nil, List.append_nil] at this
    exact this
  refine ((e1.append (e2.append_right t))).trans ?_
  refine List.Perm.trans ?_ (List.Perm.append_left _ e3.symm)
  generalize js.filterMap (fun i => L[i]?) = a
  generalize ks.filterMap (fun i => L[i]?) = b
  generalize ms.filterMap (fun i => M[i]?) = c
  generalize ns.filterMap (fun i => M[i]?) = d
  show ((a ++ b) ++ ((c ++ d) ++ t)).Perm ((b ++ (d ++ t)) ++ (a ++ c))
  have k1 : ((c ++ d) ++ t).Perm ((d ++ t) ++ c) := by
    rw [List.append_assoc]
    exact List.perm_append_comm
  have k2 : ((a ++ b) ++ ((c ++ d) ++ t)).Perm (a ++ (b ++ ((d ++ t) ++ c))) := by
    rw [List.append_assoc]
    exact (k1.append_left b).append_left a
  refine k2.trans ?_
  have k3 : (a ++ (b ++ ((d ++ t) ++ c))).Perm ((b ++ ((d ++ t) ++ c)) ++ a) := List.perm_append_comm
  refine k3.trans ?_
  have k4 : ((b ++ ((d ++ t) ++ c)) ++ a) = (b ++ (d ++ t)) ++ (c ++ a) := by simp only [List.append_assoc]
  rw [k4]
  exact (List.perm_append_comm).append_left _
theorem pz_V2 {L L' M M' w1 t : va_W} (js ks ms ns : List Nat) (is : List Nat) (h : (js ++ ks).Perm (List.range L'.length)) (h2 : (ms ++ ns).Perm (List.range M'.length)) (hi : is.Perm (List.range w1.length)) (hC : is.filterMap (fun i => w1[i]?) = js.filterMap (fun i => L'[i]?) ++ ms.filterMap (fun i => M'[i]?)) (hR : ks.filterMap (fun i => L'[i]?) = ks.filterMap (fun i => L[i]?)) (hS : ns.filterMap (fun i => M'[i]?) = ns.filterMap (fun i => M[i]?)) : ((ks.filterMap (fun i => L[i]?) ++ (ns.filterMap (fun i => M[i]?) ++ t)) ++ w1).Perm (L' ++ (M' ++ t)) := by
  have h1 := (pz_V1 (t := t) js ks ms ns is h h2 hi hC).symm
  rw [hR, hS] at h1
  exact h1
end PZP
