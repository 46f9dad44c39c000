/-! ===== the law ===== -/
section LAW
variable {B : pz_B} {cc : ByteArray} {nL : Nat} {ret0 : Option FieldType} {own : String} {g : pz_G} {R : Room} {k n pc : Nat} {lv lv' : List (Nat × Value)} {st : List Value} {ws ws' w1 wc wr : va_W} {Post : Option Value → va_W → Prop} {b L : Nat} {xs : Nat → Int32}
/-- the script lies where it lay, and is not ours to write -/
def lw_X (B : pz_B) (b L : Nat) (xs : Nat → Int32) : Prop := va_X b L xs (pz_s B) (pz_s B).heap ∧ b < (pz_s B).heap.size ∧ ¬ B.2.2.1 b
theorem pz_sld {x : Int32} (F : pz_F B cc nL ret0 own g R) (hX : lw_X B b L xs) (hin : vp_in x L) (d : decode cc pc = .ok (.iaload, 1)) (h : pz_At B k n (pc + 1) lv (.int (xs x.toNatClampNeg) :: st) ws) : pz_At B k n pc lv (.int x :: .ref b :: st) ws :=
  fun ls H locs hl hP hD hS => va_sld F.1 F.2.1 hX.1 hX.2.1 hX.2.2 hS hin d (h ls H locs hl hP hD hS)
theorem pz_slen (F : pz_F B cc nL ret0 own g R) (hX : lw_X B b L xs) (d : decode cc pc = .ok (.arraylength, 1)) (h : pz_At B k n (pc + 1) lv (.int (nI L) :: st) ws) : pz_At B k n pc lv (.ref b :: st) ws :=
  fun ls H locs hl hP hD hS => va_slen F.1 F.2.1 hX.1 hX.2.1 hX.2.2 hS d (h ls H locs hl hP hD hS)
/-- the law's locals at its loop -/
abbrev lw_lv (b h r o i : Nat) : List (Nat × Value) := [(4, .int (nI (6 * i))), (0, .ref b), (1, .ref h), (2, .ref r), (3, .ref o)]
/-- an argument out of the script -/
theorem ar_ld {h r o i : Nat} {q : Nat} {z : Int} (F : pz_F B cc nL ret0 own g R) (hX : lw_X B b L xs) (hi : 6 * i + 6 ≤ L) (hL : L ≤ 3072) (hq : q < 6) (hz : Int32.ofInt z = nI q) (h4 : lv[0]? = some (4, .int (nI (6 * i)))) (h0 : lv[1]? = some (0, .ref b)) (d0 : decode cc pc = .ok (.aload_n 0, 1)) (d1 : decode cc (pc + 1) = .ok (.iload 4, 2)) (d3 : decode cc (pc + 3) = .ok (.iconst z, 1)) (d4 : decode cc (pc + 4) = .ok (.iadd, 1)) (d5 : decode cc (pc + 5) = .ok (.iaload, 1))
    (hh : pz_At B k n (pc + 6) lv (.int (xs (6 * i + q)) :: st) ws) : pz_At B k n pc lv st ws := by
  refine pz_aload_n 1 F h0 d0 rfl ?_
  refine pz_iload 0 F h4 d1 ?_
  refine pz_iconst (v := nI q) F d3 hz ?_
  refine pz_iadd F d4 ?_
  rw [nI_add]
  refine pz_sld F hX (vp_in_nI (by omega) (by omega)) d5 ?_
  rw [nI_clamp (by omega)]
  exact hh
theorem pz_hd {c : Nat × va_E} (h : wc[0]? = some c) : (wr ++ wc)[wr.length]? = some c := by
  rw [List.getElem?_append_right (Nat.le_refl _), Nat.sub_self]
  exact h
theorem pm_sw (a b c : va_W) : ((a ++ b) ++ c).Perm ((a ++ c) ++ b) := by
  rw [List.append_assoc, List.append_assoc]
  exact List.perm_append_comm.append_left a
theorem pm_rot (a b c : va_W) : ((a ++ b) ++ c).Perm (b ++ (a ++ c)) := by
  rw [← List.append_assoc]
  exact List.perm_append_comm.append_right c
/-- a call on a part of the world, its receiver first -/
theorem pz_callW {y : MethodName} {bytes : ByteArray} {maxL nA ix : Nat} {rt : Option FieldType} {Rc : Room} {As rest : List Value} {C : String} {T : u_T} {N ci b : Nat} {fs : List Value} (F : pz_F B cc nL ret0 own g R) (hM : pz_Ct B.1.2.1 g y bytes maxL rt Rc (.ref b :: As) wc Post) (he : wc[0]? = some (b, .inr (ci, fs))) (hc : vwCl[ci]? = some (C, T, N)) (hw1 : Cond.methodLink own ix y ∈ pz_T) (hw2 : Cond.instanceMethod y ∈ pz_T) (hw3 : Cond.selects C y y ∈ pz_T) (hw4 : Cond.initialized y.cls ∈ pz_T) (hw5 : Cond.code y bytes maxL rt ∈ pz_T)
    (hd : y.cls ≠ "java/lang/invoke/MethodHandle" ∧ y.cls ≠ "java/lang/invoke/VarHandle" ∧ (parseMethodDescriptor y.desc).map (fun d => d.parameters.length) = some nA) (hR : Rc.frames + 1 ≤ R.frames ∧ 8 + (maxL + 11) + Rc.locals ≤ R.locals) (hcs : k + Rc.cells ≤ R.cells ∧ n + Rc.slots ≤ R.slots) (hA : As.length = nA) (hst : st = As.reverse ++ .ref b :: rest) (hrm : (rest.map fun v => v.category).sum ≤ 8) (d : decode cc pc = .ok (.invokevirtual ix, 3))
    (kk : ∀ (r : Option Value) (w1 : va_W), Post r w1 → pz_At B (k + Rc.cells) (n + Rc.slots) (pc + 3) lv (r.toList ++ rest) (wr ++ w1)) : pz_At B k n pc lv st (wr ++ wc) :=
  pz_callV F hM wr.length (pz_hd he) hc hw1 hw2 hw3 hw4 hw5 hd hR hcs hA hst hrm ((List.range wc.length).map (fun i => i + wr.length)) (List.range wr.length) (pz_rgN _ _) (pz_rgC _ _) (pz_rgR _ _) (pz_nd_of List.nodup_range) (pz_rgD _ _) d kk
/-- the call of the law's look -/
theorem lk_callS {Rc : Room} {As rest : List Value} (F : pz_F B cc nL ret0 "StoneHallLaw" g R) (hw : lk_W (pz_s B)) (hM : lk_Ct B.1.2.1 g Rc As wc Post) (hR : Rc.frames + 1 ≤ R.frames ∧ 8 + (5 + 11) + Rc.locals ≤ R.locals) (hcs : k + Rc.cells ≤ R.cells ∧ n + Rc.slots ≤ R.slots) (hA : As.length = 4) (hst : st = As.reverse ++ rest) (hrm : (rest.map fun v => v.category).sum ≤ 8) (d : decode cc pc = .ok (.invokestatic 77, 3))
    (kk : ∀ (r : Option Value) (w1 : va_W), Post r w1 → pz_At B (k + Rc.cells) (n + Rc.slots) (pc + 3) lv (r.toList ++ rest) (wr ++ w1)) : pz_At B k n pc lv st (wr ++ wc) := by
  intro ls H locs hl hP hD hS
  subst hst
  have hRR := F.2.2.2.2.2.2.2.2.2.2.1
  have hG := F.2.2.2.2.2.2.2.2.2.1
  have hF := va_free hD hS F.2.2.2.2.2.2.2.1 _ (pz_rgC wr wc)
  have hgood : GoodIn pz_T (va_wsS "StoneHallLaw" 77 yL_look (.codeWith yL_look cL_look 5 (some .int) lk_hh :: pz_T)) := by
    intro w hw
    refine pz_good w ?_
    unfold va_wsS at hw
    rcases List.mem_append.mp hw with h | h
    · rcases List.mem_cons.mp h with h | h
      · rw [h]; exact pw_710
      · rcases List.mem_cons.mp h with h | h
        · rw [h]; exact pw_711
        · rcases List.mem_cons.mp h with h | h
          · rw [h]; exact pw_0
          · cases h
    · rcases List.mem_cons.mp h with h | h
      · rw [h]; exact pw_712
      · exact h
  have hr := vx_runSX (p := B.1.1) (e := B.1.2.2.1) (R := pz_R B) (s := pz_s B) (m := pz_m B) (args := pz_a B) (c := pz_c B) (H := H) (below := pz_be B) (meth := pz_me B) (locs := locs) (cells := k) (slots := n) (g := F0 (pz_m B) pc ls (As.reverse ++ rest)) (As := As) (rest := rest) (n := 4) (nL := nL) (Ts := pz_T) (hh := lk_hh) ⟨F.1, F.2.1, F.2.2.1, F.2.2.2.2.1, F.2.2.2.2.2.1⟩ (hM H.size) (vx_cwSW 4 F.2.2.2.2.2.1 hgood rfl rfl rfl (by decide +kernel) (by rw [hRR]; exact hR))
    ⟨lk_blind, fun U hU hW => ⟨pz_pre F hP hD hS _ (pz_rgN _ _) (pz_rgC wr wc) U hU hW, lk_W.warm hW hw⟩⟩ rfl hA (by rw [← F.2.2.2.2.2.2.2.2.2.2.2.1]; exact hl.1) rfl (lv_room hrm) d (by rw [hRR]; exact hcs)
  intro T hT X
  rcases hr T hT X with ⟨v, st₀, t, T', L', h0, X', hL, e1, e2, ⟨⟨r, w1, hv, hp, hP1, hD1⟩, hz, hk⟩, stp⟩ | ⟨q, st₀, t, T', L', E', ce, h0, X', hL, e1, e2, hz, hce, hcv, hcl, stp⟩
  · cases hv
    rw [h0] at hz hk hD1
    obtain ⟨hP2, hD2⟩ := va_join (w1 := w1) (H1 := T'.heap) hP hD _ (List.range wr.length) (pz_rgC wr wc) (pz_rgR wr wc) (pz_nd_of List.nodup_range) (pz_rgD _ _) (fun q h1 h2 => by rw [e1]; exact hk q h1 h2) hF (by rw [e1, hG]; exact hP1) hD1
    obtain ⟨t2, a1, b1⟩ := kk _ w1 hp ls T'.heap (locs ++ L') hl hP2 hD2 ⟨Nat.le_trans hS.1 (by rw [e1]; exact hz), fun q h1 h2 => by rw [e1, hk q (Nat.lt_of_lt_of_le h1 hS.1) (fun z => h2 (hF q z))]; exact hS.2.1 q h1 h2, fun q hq => by
      rcases List.mem_append.mp hq with h | h
      · exact hS.2.2 q h
      · exact hF _ (hL q h)⟩ T' rfl X'
    exact ⟨t2, stp t2 a1, b1⟩
  · exact hz.elim
end LAW
