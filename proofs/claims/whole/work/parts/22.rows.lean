/-! ===== further rows: Math, arraycopy, static arrays, a nest mate's static, an array of boulders ===== -/
section PZR
variable {B : pz_B} {cc : ByteArray} {nL : Nat} {ret : Option FieldType} {own : String} {g : pz_G} {R : Room} {k n pc : Nat} {lv lv' : List (Nat × Value)} {st : List Value} {ws ws' w1 : va_W}
theorem pz_mmax {x y : Int32} {ix : Nat} (F : pz_F B cc nL ret own g R) (hw1 : Cond.methodLink own ix Lib.Math.max.name ∈ pz_T) (hw2 : Cond.static Lib.Math.max.name ∈ pz_T) (hw3 : Cond.initialized "java/lang/Math" ∈ pz_T) (hw4 : Cond.code Lib.Math.max.name Lib.Math.max.code 2 (some .int) ∈ pz_T) (hR : 1 ≤ R.frames ∧ (st.map fun v => v.category).sum + 13 ≤ R.locals) (hcs : k ≤ R.cells ∧ n ≤ R.slots) (d : decode cc pc = .ok (.invokestatic ix, 3)) (h : pz_At B k n (pc + 3) lv (.int (if x < y then y else x) :: st) ws) : pz_At B k n pc lv (.int y :: .int x :: st) ws := by
  intro ls H locs hl hP hD hS
  have hRR := F.2.2.2.2.2.2.2.2.2.2.1
  exact va_mmax F.1 F.2.1 (by rw [F.2.2.1, ← F.2.2.2.2.2.2.2.2.2.2.2.1]; exact hl.1.symm) F.2.2.2.2.1 (F.2.2.2.2.2.1 _ hw1) (F.2.2.2.2.2.1 _ hw2) (F.2.2.2.2.2.1 _ hw3) (F.2.2.2.2.2.1 _ hw4) (by rw [hRR]; exact hR.1) (by rw [hRR]; exact hR.2) (by rw [hRR]; exact hcs.1) (by rw [hRR]; exact hcs.2) d (h ls H locs hl hP hD hS)
theorem pz_mmin {x y : Int32} {ix : Nat} (F : pz_F B cc nL ret own g R) (hw1 : Cond.methodLink own ix Lib.Math.min.name ∈ pz_T) (hw2 : Cond.static Lib.Math.min.name ∈ pz_T) (hw3 : Cond.initialized "java/lang/Math" ∈ pz_T) (hw4 : Cond.code Lib.Math.min.name Lib.Math.min.code 2 (some .int) ∈ pz_T) (hR : 1 ≤ R.frames ∧ (st.map fun v => v.category).sum + 13 ≤ R.locals) (hcs : k ≤ R.cells ∧ n ≤ R.slots) (d : decode cc pc = .ok (.invokestatic ix, 3)) (h : pz_At B k n (pc + 3) lv (.int (if y < x then y else x) :: st) ws) : pz_At B k n pc lv (.int y :: .int x :: st) ws := by
  intro ls H locs hl hP hD hS
  have hRR := F.2.2.2.2.2.2.2.2.2.2.1
  exact va_mmin F.1 F.2.1 (by rw [F.2.2.1, ← F.2.2.2.2.2.2.2.2.2.2.2.1]; exact hl.1.symm) F.2.2.2.2.1 (F.2.2.2.2.2.1 _ hw1) (F.2.2.2.2.2.1 _ hw2) (F.2.2.2.2.2.1 _ hw3) (F.2.2.2.2.2.1 _ hw4) (by rw [hRR]; exact hR.1) (by rw [hRR]; exact hR.2) (by rw [hRR]; exact hcs.1) (by rw [hRR]; exact hcs.2) d (h ls H locs hl hP hD hS)
theorem pz_mmaxL {x y : Int64} {ix : Nat} (F : pz_F B cc nL ret own g R) (hw1 : Cond.methodLink own ix Lib.MathLoose.max_long.x ∈ pz_T) (hw2 : Cond.static Lib.MathLoose.max_long.x ∈ pz_T) (hw3 : Cond.initialized "java/lang/Math" ∈ pz_T) (hw4 : Cond.code Lib.MathLoose.max_long.x Lib.MathLoose.max_long.code 4 (some .long) ∈ pz_T) (hR : 1 ≤ R.frames ∧ (st.map fun v => v.category).sum + 15 ≤ R.locals) (hcs : k ≤ R.cells ∧ n ≤ R.slots) (d : decode cc pc = .ok (.invokestatic ix, 3)) (h : pz_At B k n (pc + 3) lv (.long (if y < x then x else y) :: st) ws) : pz_At B k n pc lv (.long y :: .long x :: st) ws := by
  intro ls H locs hl hP hD hS
  have hRR := F.2.2.2.2.2.2.2.2.2.2.1
  exact va_mmax_long F.1 F.2.1 (by rw [F.2.2.1, ← F.2.2.2.2.2.2.2.2.2.2.2.1]; exact hl.1.symm) F.2.2.2.2.1 (F.2.2.2.2.2.1 _ hw1) (F.2.2.2.2.2.1 _ hw2) (F.2.2.2.2.2.1 _ hw3) (F.2.2.2.2.2.1 _ hw4) (by rw [hRR]; exact hR.1) (by rw [hRR]; exact hR.2) (by rw [hRR]; exact hcs.1) (by rw [hRR]; exact hcs.2) d (h ls H locs hl hP hD hS)
/-- what stands still, out of the body's facts -/
theorem pz_st (F : pz_F B cc nL ret own g R) : pz_St g B.2.2.1 (pz_s B) (pz_s B).heap := F.2.2.2.2.2.2.2.2.2.2.2.2
theorem pz_getO {o nn dd : String} {q ix : Nat} {v : Value} (F : pz_F B cc nL ret own g R) (hE : va_OF o nn dd v q B.2.2.1 (pz_s B) (pz_s B).heap) (hw : Cond.fieldLink own ix o nn dd ∈ pz_T) (d : decode cc pc = .ok (.getfield ix, 3)) (h : pz_At B k n (pc + 3) lv (v :: st) ws) : pz_At B k n pc lv (.ref q :: st) ws :=
  fun ls H locs hl hP hD hS => vk_getf F.1 F.2.1 hE hS F.2.2.2.2.1 (F.2.2.2.2.2.1 _ hw) (fun _ q => q) d (h ls H locs hl hP hD hS)
theorem pz_tb {t N : Nat} {f : Nat → Value} {x : Int32} {v : Value} (F : pz_F B cc nL ret own g R) (hT : va_T .byte t N f B.2.2.1 (pz_s B) (pz_s B).heap) (hx : vp_in x N) (hv : f x.toNatClampNeg = v) (d : decode cc pc = .ok (.baload, 1)) (h : pz_At B k n (pc + 1) lv (v :: st) ws) : pz_At B k n pc lv (.int x :: .ref t :: st) ws :=
  fun ls H locs hl hP hD hS => va_tb F.1 F.2.1 hT hS hx hv d (h ls H locs hl hP hD hS)
theorem pz_ti {t N : Nat} {f : Nat → Value} {x : Int32} {v : Value} (F : pz_F B cc nL ret own g R) (hT : va_T .int t N f B.2.2.1 (pz_s B) (pz_s B).heap) (hx : vp_in x N) (hv : f x.toNatClampNeg = v) (d : decode cc pc = .ok (.iaload, 1)) (h : pz_At B k n (pc + 1) lv (v :: st) ws) : pz_At B k n pc lv (.int x :: .ref t :: st) ws :=
  fun ls H locs hl hP hD hS => va_ti F.1 F.2.1 hT hS hx hv d (h ls H locs hl hP hD hS)
theorem pz_tq {t N : Nat} {C : String} {f : Nat → Value} {x : Int32} {v : Value} (F : pz_F B cc nL ret own g R) (hT : va_T (.object C) t N f B.2.2.1 (pz_s B) (pz_s B).heap) (hx : vp_in x N) (hv : f x.toNatClampNeg = v) (d : decode cc pc = .ok (.aaload, 1)) (h : pz_At B k n (pc + 1) lv (v :: st) ws) : pz_At B k n pc lv (.int x :: .ref t :: st) ws :=
  fun ls H locs hl hP hD hS => vb_tq F.1 F.2.1 hT hS hx hv d (h ls H locs hl hP hD hS)
theorem pz_tlen {t N : Nat} {ty : FieldType} {f : Nat → Value} {v : Int32} (F : pz_F B cc nL ret own g R) (hT : va_T ty t N f B.2.2.1 (pz_s B) (pz_s B).heap) (hv : Int32.ofNat N = v) (d : decode cc pc = .ok (.arraylength, 1)) (h : pz_At B k n (pc + 1) lv (.int v :: st) ws) : pz_At B k n pc lv (.ref t :: st) ws :=
  fun ls H locs hl hP hD hS => va_tlen F.1 F.2.1 hT hS hv d (h ls H locs hl hP hD hS)
theorem pz_getsN {C nn dd host : String} {v : Value} {ix : Nat} (F : pz_F B cc nL ret own g R) (hZ : va_Z C nn dd v B.2.2.1 (pz_s B) (pz_s B).heap) (hw : va_Nw (.fieldLinkNest own ix C nn dd host) (pz_s B)) (d : decode cc pc = .ok (.getstatic ix, 3)) (h : pz_At B k n (pc + 3) lv (v :: st) ws) : pz_At B k n pc lv st ws :=
  fun ls H locs hl hP hD hS => va_getsN F.1 F.2.1 hZ hS F.2.2.2.2.1 (va_Nw.use rfl hw) (fun _ q => q) d (h ls H locs hl hP hD hS)
def pz_sl (i : Nat) : Int32 := [0, 1, 2, 3, 4, 5, 6, 7, 8].getD i 0
def pz_mo (i : Nat) : Int32 := pz_most.getD i 0
def pz_ln (i : Nat) : Nat := pz_len.getD i 0
def pz_by (i j : Nat) : Int32 := (pz_byt.getD i []).getD j 0
/-- a line, or none -/
def pz_rl (g : pz_G) (z : Option Nat) : Value := match z with
  | none => .null
  | some i => .ref (g.2.2 i)
def pz_pn (g : pz_G) {S : Type} (post : Option Nat → S → Prop) (w : S → va_W) : Option Value → va_W → Prop := fun r w1 => ∃ (z : Option Nat) (u : S), r = some (pz_rl g z) ∧ w1 = w u ∧ post z u
/-- the lines' constants -/
theorem pz_line (F : pz_F B cc nL ret own g R) {i : Nat} (hi : i < 9) : va_Z "StoneHall$Line" (pz_nm.getD i "") "LStoneHall$Line;" (.ref (g.2.2 i)) B.2.2.1 (pz_s B) (pz_s B).heap := ((pz_st F).1.1 i hi).1
theorem pz_lineO (F : pz_F B cc nL ret own g R) {i : Nat} (hi : i < 9) : va_O "StoneHall$Line" (g.2.2 i) B.2.2.1 (pz_s B) (pz_s B).heap := ((pz_st F).1.1 i hi).2.1
theorem pz_lineS (F : pz_F B cc nL ret own g R) {i : Nat} (hi : i < 9) : va_OF "StoneHall$Line" "slot" "I" (.int (pz_sl i)) (g.2.2 i) B.2.2.1 (pz_s B) (pz_s B).heap := ((pz_st F).1.1 i hi).2.2 ("StoneHall$Line", "slot", "I", [0, 1, 2, 3, 4, 5, 6, 7, 8]) (List.mem_cons_self)
theorem pz_lineM (F : pz_F B cc nL ret own g R) {i : Nat} (hi : i < 9) : va_OF "StoneHall$Line" "most" "I" (.int (pz_mo i)) (g.2.2 i) B.2.2.1 (pz_s B) (pz_s B).heap := ((pz_st F).1.1 i hi).2.2 ("StoneHall$Line", "most", "I", pz_most) (List.mem_cons_of_mem _ List.mem_cons_self)
theorem pz_acmpL {i j : Nat} {off : Int} {tgt : Nat} (F : pz_F B cc nL ret own g R) (hi : i < 9) (hj : j < 9) (d : decode cc pc = .ok (.if_acmp .ne off, 3)) (ht : (pc : Int) + off = (tgt : Int)) (h1 : ¬ i = j → pz_At B k n tgt lv st ws) (h2 : i = j → pz_At B k n (pc + 3) lv st ws) : pz_At B k n pc lv (.ref (g.2.2 j) :: .ref (g.2.2 i) :: st) ws :=
  pz_acmp_ne F d ht (fun q => h1 (fun e => q (by rw [e]))) (fun q => h2 ((pz_st F).1.2 i j hi hj q))
theorem pz_LINES (F : pz_F B cc nL ret own g R) : va_Z "StoneHall" "LINES" "[LStoneHall$Line;" (.ref (g.2.2 20)) B.2.2.1 (pz_s B) (pz_s B).heap := (pz_st F).2.1
theorem pz_LINESt (F : pz_F B cc nL ret own g R) : va_T (.object "StoneHall$Line") (g.2.2 20) 9 (fun j => .ref (g.2.2 j)) B.2.2.1 (pz_s B) (pz_s B).heap := (pz_st F).2.2.1
theorem pz_STEPS (F : pz_F B cc nL ret own g R) : va_Z "StoneHall$Chances" "STEPS" "[I" (.ref (g.2.2 21)) B.2.2.1 (pz_s B) (pz_s B).heap := (pz_st F).2.2.2.1
theorem pz_STEPSt (F : pz_F B cc nL ret own g R) : va_T .int (g.2.2 21) 4 (fun j => .int (pz_stp.getD j 0)) B.2.2.1 (pz_s B) (pz_s B).heap := (pz_st F).2.2.2.2.1
theorem pz_lineW (F : pz_F B cc nL ret own g R) : va_Ef 9 "StoneHall$Line" "word" "Ljava/lang/String;" (fun i => .ref (g.2.2 (30 + i))) g.2.2 B.2.2.1 (pz_s B) (pz_s B).heap := (pz_st F).2.2.2.2.2.1
theorem pz_lineU (F : pz_F B cc nL ret own g R) : va_Ef 9 "StoneHall$Line" "usual" "Ljava/lang/String;" (fun i => .ref (g.2.2 (30 + pz_us.getD i 13))) g.2.2 B.2.2.1 (pz_s B) (pz_s B).heap := (pz_st F).2.2.2.2.2.2.1
theorem pz_lineT (F : pz_F B cc nL ret own g R) : va_Ef 9 "StoneHall$Line" "other" "Ljava/lang/String;" (fun i => .ref (g.2.2 (30 + pz_ot.getD i 13))) g.2.2 B.2.2.1 (pz_s B) (pz_s B).heap := (pz_st F).2.2.2.2.2.2.2.1
theorem pz_strO (F : pz_F B cc nL ret own g R) {i : Nat} (hi : i < 14) : va_O "java/lang/String" (g.2.2 (30 + i)) B.2.2.1 (pz_s B) (pz_s B).heap := ((pz_st F).2.2.2.2.2.2.2.2.1.1 i hi).1
theorem pz_strC (F : pz_F B cc nL ret own g R) {i : Nat} (hi : i < 14) : va_OF "java/lang/String" "coder" "B" (.int 0) (g.2.2 (30 + i)) B.2.2.1 (pz_s B) (pz_s B).heap := ((pz_st F).2.2.2.2.2.2.2.2.1.1 i hi).2.1
theorem pz_strV (F : pz_F B cc nL ret own g R) {i : Nat} (hi : i < 14) : va_OF "java/lang/String" "value" "[B" (.ref (g.2.2 (60 + i))) (g.2.2 (30 + i)) B.2.2.1 (pz_s B) (pz_s B).heap := ((pz_st F).2.2.2.2.2.2.2.2.1.1 i hi).2.2.1
theorem pz_strT (F : pz_F B cc nL ret own g R) {i : Nat} (hi : i < 14) : va_T .byte (g.2.2 (60 + i)) (pz_ln i) (fun j => .int (pz_by i j)) B.2.2.1 (pz_s B) (pz_s B).heap := ((pz_st F).2.2.2.2.2.2.2.2.1.1 i hi).2.2.2
theorem pz_COMP (F : pz_F B cc nL ret own g R) : va_Z "java/lang/String" "COMPACT_STRINGS" "Z" (.int 1) B.2.2.1 (pz_s B) (pz_s B).heap := (pz_st F).2.2.2.2.2.2.2.2.2.1
theorem pz_nest (F : pz_F B cc nL ret own g R) : pz_Ns (pz_s B) := (pz_st F).2.2.2.2.2.2.2.2.2.2.2.2.2.2.2
theorem pz_SIOO (F : pz_F B cc nL ret own g R) : va_Zq "jdk/internal/util/Preconditions" "SIOOBE_FORMATTER" "Ljava/util/function/BiFunction;" B.2.2.1 (pz_s B) (pz_s B).heap := (pz_st F).2.2.2.2.2.2.2.2.2.2.1
/-- invokevirtual on something that stands still -/
theorem pz_callVr {wc : va_W} {Post : Option Value → va_W → Prop} {y : MethodName} {bytes : ByteArray} {maxL nA ix : Nat} {rt : Option FieldType} {Rc : Room} {As rest : List Value} {wr : va_W} {C : String} {b : Nat} (F : pz_F B cc nL ret own g R) (hM : pz_Ct B.1.2.1 g y bytes maxL rt Rc (.ref b :: As) wc Post) (hO : va_O C b B.2.2.1 (pz_s B) (pz_s B).heap) (hw1 : Cond.methodLink own ix y ∈ pz_T) (hw2 : Cond.instanceMethod y ∈ pz_T) (hw3 : Cond.selects C y y ∈ pz_T) (hw4 : Cond.initialized y.cls ∈ pz_T) (hw5 : Cond.code y bytes maxL rt ∈ pz_T)
    (hd : y.cls ≠ "java/lang/invoke/MethodHandle" ∧ y.cls ≠ "java/lang/invoke/VarHandle" ∧ (parseMethodDescriptor y.desc).map (fun d => d.parameters.length) = some nA) (hR : Rc.frames + 1 ≤ R.frames ∧ 8 + (maxL + 11) + Rc.locals ≤ R.locals) (hcs : k + Rc.cells ≤ R.cells ∧ n + Rc.slots ≤ R.slots) (hA : As.length = nA) (hst : st = As.reverse ++ .ref b :: rest) (hrm : (rest.map fun v => v.category).sum ≤ 8)
    (isC isR : List Nat) (hnc : va_nd isC = true) (hC : isC.map (fun i => ws[i]?) = wc.map some) (hRr : isR.map (fun i => ws[i]?) = wr.map some) (hn : va_nd isR = true) (hdis : ∀ i ∈ isR, i ∉ isC) (d : decode cc pc = .ok (.invokevirtual ix, 3))
    (kk : ∀ (r : Option Value) (w1 : va_W), Post r w1 → pz_At B (k + Rc.cells) (n + Rc.slots) (pc + 3) lv (r.toList ++ rest) (wr ++ w1)) : pz_At B k n pc lv st ws := by
  intro ls H locs hl hP hD hS
  subst hst
  have hRR := F.2.2.2.2.2.2.2.2.2.2.1
  refine pz_back F isC isR hC hRr hn hdis kk hl hP hD hS (va_runV (As := As) (rest := rest) (n := nA) (nL := nL) (Ts := pz_T) (C := C) ⟨F.1, F.2.1, F.2.2.1, F.2.2.2.2.1, F.2.2.2.2.2.1⟩ (hM H.size) ⟨callB_of nA F.2.2.2.2.2.1 (pz_goodc hw5) rfl rfl rfl (F.2.2.2.2.2.1 _ hw4) (F.2.2.2.2.2.1 _ hw1) hd (by rw [hRR]; exact hR), F.2.2.2.2.2.1 _ hw2, F.2.2.2.2.2.1 _ hw3⟩ ⟨pz_blind, ?_, pz_pre F hP hD hS isC hnc hC⟩ rfl hA (by rw [← F.2.2.2.2.2.2.2.2.2.2.2.1]; exact hl.1) rfl (lv_room hrm) d (by rw [hRR]; exact hcs))
  obtain ⟨cell, h1, h2, h3, -⟩ := hO.kept hS.2.1
  exact ⟨cell, h1, h2, h3⟩
/-- System.arraycopy between two rows of ints -/
theorem pz_copyI {a0 a n0 n1 ix : Nat} {f fg : Nat → Int32} {sp dp m : Int32} (F : pz_F B cc nL ret own g R) (i j : Nat) (ha0 : ws[i]? = some (a0, .inl (g.2.1 1, n0, .inl f))) (ha1 : ws[j]? = some (a, .inl (g.2.1 1, n1, .inl fg))) (hw1 : Cond.methodLink own ix arraycopyName ∈ pz_T) (hw2 : Cond.native arraycopyName ∈ pz_T) (hw3 : Cond.static arraycopyName ∈ pz_T) (hw4 : Cond.initialized "java/lang/System" ∈ pz_T)
    (h1 : ¬ sp < 0) (h2 : ¬ dp < 0) (h3 : ¬ m < 0) (h4 : sp.toNatClampNeg + m.toNatClampNeg ≤ n0) (h5 : dp.toNatClampNeg + m.toNatClampNeg ≤ n1) (hR : 1 ≤ R.frames ∧ (st.map fun v => v.category).sum + (nativeFrameWords "java/lang/System" "arraycopy" 5 + 11) ≤ R.locals) (d : decode cc pc = .ok (.invokestatic ix, 3))
    (hws : ws.set j (a, .inl (g.2.1 1, n1, .inl (va_cpy f fg sp.toNatClampNeg dp.toNatClampNeg m.toNatClampNeg))) = ws') (h : pz_At B k n (pc + 3) lv st ws') : pz_At B k n pc lv (.int m :: .int dp :: .ref a :: .int sp :: .ref a0 :: st) ws := by
  intro ls H locs hl hP hD hS
  subst hws
  have hRR := F.2.2.2.2.2.2.2.2.2.2.1
  have hG := F.2.2.2.2.2.2.2.2.2.1
  exact va_copyi F.1 F.2.1 (by rw [F.2.2.1, ← F.2.2.2.2.2.2.2.2.2.2.2.1]; exact hl.1.symm) F.2.2.2.2.1 (F.2.2.2.2.2.1 _ hw1) (F.2.2.2.2.2.1 _ hw2) (F.2.2.2.2.2.1 _ hw3) (F.2.2.2.2.2.1 _ hw4) F.2.2.2.2.2.2.1 (by rw [← hG]; exact hP) hD hS i j 1 1 ha0 ha1 rfl rfl rfl h1 h2 h3 h4 h5 (fun _ _ => rfl) (by rw [hRR]; exact hR.1) (by rw [hRR]; exact hR.2) d (fun H1 locs1 hP1 hD1 hS1 => h ls H1 locs1 hl (by rw [hG]; exact hP1) hD1 hS1)
end PZR
