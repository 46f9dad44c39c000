/-! ===== the layer: pz_At, one row an instruction ===== -/
section PZL
abbrev pz_M : Type := Program × Launch × Env × Room × State × MethodId × Array Value × List Frame × Method × Code
/-- a body under way: the machine's fixed things, the numbers, what may be written, the goal, how many locals -/
abbrev pz_B : Type := pz_M × pz_G × (Nat → Prop) × (State → Prop) × Nat
abbrev pz_tys (g : pz_G) : List (ClassId × FieldType) := [(g.2.1 0, .byte), (g.2.1 1, .int), (g.2.1 2, .long), (g.2.1 3, .boolean), (g.2.1 4, .object "StoneHall$Boulder")]
abbrev pz_s (B : pz_B) : State := B.1.2.2.2.2.1
abbrev pz_R (B : pz_B) : Room := B.1.2.2.2.1
abbrev pz_c (B : pz_B) : Code := B.1.2.2.2.2.2.2.2.2.2
abbrev pz_me (B : pz_B) : Method := B.1.2.2.2.2.2.2.2.2.1
abbrev pz_m (B : pz_B) : MethodId := B.1.2.2.2.2.2.1
abbrev pz_a (B : pz_B) : Array Value := B.1.2.2.2.2.2.2.1
abbrev pz_be (B : pz_B) : List Frame := B.1.2.2.2.2.2.2.2.1
def pz_W (B : pz_B) (H : Heap) (locs : List Loc) (k n : Nat) (f : JFrame) : Prop := W B.1.1 B.1.2.1 B.1.2.2.1 (pz_R B) (pz_s B) (pz_m B) (pz_a B) (pz_be B) (pz_me B) (pz_c B) H locs k n B.2.2.2.1 f
def pz_At (B : pz_B) (k n pc : Nat) (lv : List (Nat × Value)) (st : List Value) (ws : va_W) : Prop :=
  ∀ (ls : Array Slot) (H : Heap) (locs : List Loc), lv_has ls B.2.2.2.2 lv → va_P B.2.1.1 vwCl ws H → va_D B.2.2.1 ws → va_S B.2.2.1 (pz_s B).heap H locs → pz_W B H locs k n (F0 (pz_m B) pc ls st)
/-- what holds of a body all along -/
def pz_F (B : pz_B) (cc : ByteArray) (nL : Nat) (ret : Option FieldType) (own : String) (g : pz_G) (R : Room) : Prop :=
  B.1.1.tables.exec = Jvm.exec ∧ (pz_c B).code = cc ∧ (pz_c B).maxLocals = nL ∧ (pz_me B).sig.returnType = ret ∧ (pz_s B).vm.findClass own = some (pz_m B).cls ∧ (∀ w ∈ pz_T, w.before (pz_a B) (pz_s B) = true) ∧
  va_K g.1 vwCl (pz_tys g) (pz_s B) ∧ (∀ q, (pz_s B).heap.size ≤ q → B.2.2.1 q) ∧ (pz_me B).locks = false ∧ B.2.1 = g ∧ pz_R B = R ∧ B.2.2.2.2 = nL ∧ pz_St g B.2.2.1 (pz_s B) (pz_s B).heap
variable {B : pz_B} {cc : ByteArray} {nL : Nat} {ret : Option FieldType} {own : String} {g : pz_G} {R : Room} {k n pc : Nat} {lv lv' : List (Nat × Value)} {st : List Value} {ws ws' : va_W}
theorem pz_eq {st' : List Value} (hs : st = st') (hw : ws = ws') (h : pz_At B k n pc lv st' ws') : pz_At B k n pc lv st ws := by
  subst hs; subst hw; exact h
theorem pz_widen {k' n' : Nat} (h1 : k ≤ k') (h2 : n ≤ n') (h : pz_At B k' n' pc lv st ws) : pz_At B k n pc lv st ws :=
  fun ls H locs hl hP hD hS => W.widen h1 h2 (h ls H locs hl hP hD hS)
theorem pz_sub (is js : List Nat) (hn : va_nd js = true) (hs : js.map (fun i => ws[i]?) = ws'.map some) (hl' : lv_pick lv is = lv') (h : pz_At B k n pc lv' st ws') : pz_At B k n pc lv st ws :=
  fun ls H locs hl hP hD hS => h ls H locs (lv_sub hl is hl') (hP.sub js (by
    have h2 : (js.map (fun i => ws[i]?)).filterMap id = (ws'.map some).filterMap id := by rw [hs]
    rw [List.filterMap_map, List.filterMap_map] at h2
    simpa using h2)) (hD.sub js hn hs) hS
theorem pz_iconst {z : Int} {v : Int32} (F : pz_F B cc nL ret own g R) (d : decode cc pc = .ok (.iconst z, 1)) (hv : Int32.ofInt z = v) (h : pz_At B k n (pc + 1) lv (.int v :: st) ws) : pz_At B k n pc lv st ws :=
  fun ls H locs hl hP hD hS => lv_iconst F.1 F.2.1 d hv (h ls H locs hl hP hD hS)
theorem pz_bipush {z : Int} {v : Int32} (F : pz_F B cc nL ret own g R) (d : decode cc pc = .ok (.bipush z, 2)) (hv : (Int8.ofInt z).toInt32 = v) (h : pz_At B k n (pc + 2) lv (.int v :: st) ws) : pz_At B k n pc lv st ws :=
  fun ls H locs hl hP hD hS => lv_bipush F.1 F.2.1 d hv (h ls H locs hl hP hD hS)
theorem pz_sipush {z : Int} {v : Int32} (F : pz_F B cc nL ret own g R) (d : decode cc pc = .ok (.sipush z, 3)) (hv : (Int16.ofInt z).toInt32 = v) (h : pz_At B k n (pc + 3) lv (.int v :: st) ws) : pz_At B k n pc lv st ws :=
  fun ls H locs hl hP hD hS => lv_sipush F.1 F.2.1 d hv (h ls H locs hl hP hD hS)
theorem pz_lconst {z : Fin 2} {v : Int64} (F : pz_F B cc nL ret own g R) (d : decode cc pc = .ok (.lconst z, 1)) (hv : Int64.ofNat (z : Nat) = v) (h : pz_At B k n (pc + 1) lv (.long v :: st) ws) : pz_At B k n pc lv st ws :=
  fun ls H locs hl hP hD hS => lv_lconst F.1 F.2.1 d hv (h ls H locs hl hP hD hS)
theorem pz_null  (F : pz_F B cc nL ret own g R) (d : decode cc pc = .ok (.aconst_null, 1)) (h : pz_At B k n (pc + 1) lv (.null :: st) ws) : pz_At B k n pc lv st ws :=
  fun ls H locs hl hP hD hS => lv_null F.1 F.2.1 d (h ls H locs hl hP hD hS)
theorem pz_ldc {ix : Nat} {v : Int32} (F : pz_F B cc nL ret own g R) (hw : Cond.constant own ix v ∈ pz_T) (d : decode cc pc = .ok (.ldc ix, 2)) (h : pz_At B k n (pc + 2) lv (.int v :: st) ws) : pz_At B k n pc lv st ws :=
  fun ls H locs hl hP hD hS => W.ldc F.1 F.2.1 F.2.2.2.2.1 (F.2.2.2.2.2.1 _ hw) rfl d (h ls H locs hl hP hD hS)
theorem pz_ldcw {ix : Nat} {v : Int32} (F : pz_F B cc nL ret own g R) (hw : Cond.constant own ix v ∈ pz_T) (d : decode cc pc = .ok (.ldc_w ix, 3)) (h : pz_At B k n (pc + 3) lv (.int v :: st) ws) : pz_At B k n pc lv st ws :=
  fun ls H locs hl hP hD hS => lv_ldcw F.1 F.2.1 F.2.2.2.2.1 (F.2.2.2.2.2.1 _ hw) d (h ls H locs hl hP hD hS)
theorem pz_ldc2 {ix : Nat} {v : Int64} (F : pz_F B cc nL ret own g R) (hw : Cond.constantLong own ix v ∈ pz_T) (d : decode cc pc = .ok (.ldc2_w ix, 3)) (h : pz_At B k n (pc + 3) lv (.long v :: st) ws) : pz_At B k n pc lv st ws :=
  fun ls H locs hl hP hD hS => W.ldc2 F.1 F.2.1 F.2.2.2.2.1 (F.2.2.2.2.2.1 _ hw) rfl d (h ls H locs hl hP hD hS)
theorem pz_iload_n {kk : Fin 4} {i : Nat} {x : Int32} (j : Nat) (F : pz_F B cc nL ret own g R) (hj : lv[j]? = some (i, .int x)) (d : decode cc pc = .ok (.iload_n kk, 1)) (hi : (kk : Nat) = i) (h : pz_At B k n (pc + 1) lv (.int x :: st) ws) : pz_At B k n pc lv st ws :=
  fun ls H locs hl hP hD hS => lv_iload_n F.1 F.2.1 d hi (lv_at hl j hj) (h ls H locs hl hP hD hS)
theorem pz_iload {i : Nat} {x : Int32} (j : Nat) (F : pz_F B cc nL ret own g R) (hj : lv[j]? = some (i, .int x)) (d : decode cc pc = .ok (.iload i, 2)) (h : pz_At B k n (pc + 2) lv (.int x :: st) ws) : pz_At B k n pc lv st ws :=
  fun ls H locs hl hP hD hS => lv_iload F.1 F.2.1 d (lv_at hl j hj) (h ls H locs hl hP hD hS)
theorem pz_lload_n {kk : Fin 4} {i : Nat} {x : Int64} (j : Nat) (F : pz_F B cc nL ret own g R) (hj : lv[j]? = some (i, .long x)) (d : decode cc pc = .ok (.lload_n kk, 1)) (hi : (kk : Nat) = i) (h : pz_At B k n (pc + 1) lv (.long x :: st) ws) : pz_At B k n pc lv st ws :=
  fun ls H locs hl hP hD hS => lv_lload_n F.1 F.2.1 d hi (lv_at hl j hj) (h ls H locs hl hP hD hS)
theorem pz_lload {i : Nat} {x : Int64} (j : Nat) (F : pz_F B cc nL ret own g R) (hj : lv[j]? = some (i, .long x)) (d : decode cc pc = .ok (.lload i, 2)) (h : pz_At B k n (pc + 2) lv (.long x :: st) ws) : pz_At B k n pc lv st ws :=
  fun ls H locs hl hP hD hS => lv_lload F.1 F.2.1 d (lv_at hl j hj) (h ls H locs hl hP hD hS)
theorem pz_aload_n {kk : Fin 4} {i : Nat} {x : Nat} (j : Nat) (F : pz_F B cc nL ret own g R) (hj : lv[j]? = some (i, .ref x)) (d : decode cc pc = .ok (.aload_n kk, 1)) (hi : (kk : Nat) = i) (h : pz_At B k n (pc + 1) lv (.ref x :: st) ws) : pz_At B k n pc lv st ws :=
  fun ls H locs hl hP hD hS => lv_aload_n F.1 F.2.1 d hi (lv_at hl j hj) (h ls H locs hl hP hD hS)
theorem pz_aload {i : Nat} {x : Nat} (j : Nat) (F : pz_F B cc nL ret own g R) (hj : lv[j]? = some (i, .ref x)) (d : decode cc pc = .ok (.aload i, 2)) (h : pz_At B k n (pc + 2) lv (.ref x :: st) ws) : pz_At B k n pc lv st ws :=
  fun ls H locs hl hP hD hS => lv_aload F.1 F.2.1 d (lv_at hl j hj) (h ls H locs hl hP hD hS)
theorem pz_aload_nN {kk : Fin 4} {i : Nat} (j : Nat) (F : pz_F B cc nL ret own g R) (hj : lv[j]? = some (i, .null)) (d : decode cc pc = .ok (.aload_n kk, 1)) (hi : (kk : Nat) = i) (h : pz_At B k n (pc + 1) lv (.null :: st) ws) : pz_At B k n pc lv st ws :=
  fun ls H locs hl hP hD hS => lv_aload_nN F.1 F.2.1 d hi (lv_at hl j hj) (h ls H locs hl hP hD hS)
theorem pz_aloadN {i : Nat} (j : Nat) (F : pz_F B cc nL ret own g R) (hj : lv[j]? = some (i, .null)) (d : decode cc pc = .ok (.aload i, 2)) (h : pz_At B k n (pc + 2) lv (.null :: st) ws) : pz_At B k n pc lv st ws :=
  fun ls H locs hl hP hD hS => lv_aloadN F.1 F.2.1 d (lv_at hl j hj) (h ls H locs hl hP hD hS)
theorem pz_istore_n {kk : Fin 4} {i : Nat} {x : Int32} (F : pz_F B cc nL ret own g R) (d : decode cc pc = .ok (.istore_n kk, 1)) (hi : (kk : Nat) = i) (hn : i < nL) (hf : (i, Value.int x) :: lv.filter (fun q => !(q.1 == i) && !(q.1 + 1 == i && q.2.category == 2)) = lv') (h : pz_At B k n (pc + 1) lv' st ws) : pz_At B k n pc lv (.int x :: st) ws :=
  fun ls H locs hl hP hD hS => lv_istore_n F.1 F.2.1 d hi (by rw [F.2.2.2.2.2.2.2.2.2.2.2.1] at hl; exact hl) hn hf (fun ls' hl' => h ls' H locs (by rw [F.2.2.2.2.2.2.2.2.2.2.2.1]; exact hl') hP hD hS)
theorem pz_istore {i : Nat} {x : Int32} (F : pz_F B cc nL ret own g R) (d : decode cc pc = .ok (.istore i, 2)) (hn : i < nL) (hf : (i, Value.int x) :: lv.filter (fun q => !(q.1 == i) && !(q.1 + 1 == i && q.2.category == 2)) = lv') (h : pz_At B k n (pc + 2) lv' st ws) : pz_At B k n pc lv (.int x :: st) ws :=
  fun ls H locs hl hP hD hS => lv_istore F.1 F.2.1 d (by rw [F.2.2.2.2.2.2.2.2.2.2.2.1] at hl; exact hl) hn hf (fun ls' hl' => h ls' H locs (by rw [F.2.2.2.2.2.2.2.2.2.2.2.1]; exact hl') hP hD hS)
theorem pz_lstore_n {kk : Fin 4} {i : Nat} {x : Int64} (F : pz_F B cc nL ret own g R) (d : decode cc pc = .ok (.lstore_n kk, 1)) (hi : (kk : Nat) = i) (hn : i + 1 < nL) (hf : (i, Value.long x) :: lv.filter (fun q => !(q.1 == i) && (!(q.1 == i + 1) && !(q.1 + 1 == i && q.2.category == 2))) = lv') (h : pz_At B k n (pc + 1) lv' st ws) : pz_At B k n pc lv (.long x :: st) ws :=
  fun ls H locs hl hP hD hS => lv_lstore_n F.1 F.2.1 d hi (by rw [F.2.2.2.2.2.2.2.2.2.2.2.1] at hl; exact hl) hn hf (fun ls' hl' => h ls' H locs (by rw [F.2.2.2.2.2.2.2.2.2.2.2.1]; exact hl') hP hD hS)
theorem pz_lstore {i : Nat} {x : Int64} (F : pz_F B cc nL ret own g R) (d : decode cc pc = .ok (.lstore i, 2)) (hn : i + 1 < nL) (hf : (i, Value.long x) :: lv.filter (fun q => !(q.1 == i) && (!(q.1 == i + 1) && !(q.1 + 1 == i && q.2.category == 2))) = lv') (h : pz_At B k n (pc + 2) lv' st ws) : pz_At B k n pc lv (.long x :: st) ws :=
  fun ls H locs hl hP hD hS => lv_lstore F.1 F.2.1 d (by rw [F.2.2.2.2.2.2.2.2.2.2.2.1] at hl; exact hl) hn hf (fun ls' hl' => h ls' H locs (by rw [F.2.2.2.2.2.2.2.2.2.2.2.1]; exact hl') hP hD hS)
theorem pz_astore_n {kk : Fin 4} {i : Nat} {x : Nat} (F : pz_F B cc nL ret own g R) (d : decode cc pc = .ok (.astore_n kk, 1)) (hi : (kk : Nat) = i) (hn : i < nL) (hf : (i, Value.ref x) :: lv.filter (fun q => !(q.1 == i) && !(q.1 + 1 == i && q.2.category == 2)) = lv') (h : pz_At B k n (pc + 1) lv' st ws) : pz_At B k n pc lv (.ref x :: st) ws :=
  fun ls H locs hl hP hD hS => lv_astore_n F.1 F.2.1 d hi (by rw [F.2.2.2.2.2.2.2.2.2.2.2.1] at hl; exact hl) hn hf (fun ls' hl' => h ls' H locs (by rw [F.2.2.2.2.2.2.2.2.2.2.2.1]; exact hl') hP hD hS)
theorem pz_astore {i : Nat} {x : Nat} (F : pz_F B cc nL ret own g R) (d : decode cc pc = .ok (.astore i, 2)) (hn : i < nL) (hf : (i, Value.ref x) :: lv.filter (fun q => !(q.1 == i) && !(q.1 + 1 == i && q.2.category == 2)) = lv') (h : pz_At B k n (pc + 2) lv' st ws) : pz_At B k n pc lv (.ref x :: st) ws :=
  fun ls H locs hl hP hD hS => lv_astore F.1 F.2.1 d (by rw [F.2.2.2.2.2.2.2.2.2.2.2.1] at hl; exact hl) hn hf (fun ls' hl' => h ls' H locs (by rw [F.2.2.2.2.2.2.2.2.2.2.2.1]; exact hl') hP hD hS)
theorem pz_astore_nN {kk : Fin 4} {i : Nat} (F : pz_F B cc nL ret own g R) (d : decode cc pc = .ok (.astore_n kk, 1)) (hi : (kk : Nat) = i) (hn : i < nL) (hf : (i, Value.null) :: lv.filter (fun q => !(q.1 == i) && !(q.1 + 1 == i && q.2.category == 2)) = lv') (h : pz_At B k n (pc + 1) lv' st ws) : pz_At B k n pc lv (.null :: st) ws :=
  fun ls H locs hl hP hD hS => lv_astore_nN F.1 F.2.1 d hi (by rw [F.2.2.2.2.2.2.2.2.2.2.2.1] at hl; exact hl) hn hf (fun ls' hl' => h ls' H locs (by rw [F.2.2.2.2.2.2.2.2.2.2.2.1]; exact hl') hP hD hS)
theorem pz_astoreN {i : Nat} (F : pz_F B cc nL ret own g R) (d : decode cc pc = .ok (.astore i, 2)) (hn : i < nL) (hf : (i, Value.null) :: lv.filter (fun q => !(q.1 == i) && !(q.1 + 1 == i && q.2.category == 2)) = lv') (h : pz_At B k n (pc + 2) lv' st ws) : pz_At B k n pc lv (.null :: st) ws :=
  fun ls H locs hl hP hD hS => lv_astoreN F.1 F.2.1 d (by rw [F.2.2.2.2.2.2.2.2.2.2.2.1] at hl; exact hl) hn hf (fun ls' hl' => h ls' H locs (by rw [F.2.2.2.2.2.2.2.2.2.2.2.1]; exact hl') hP hD hS)
theorem pz_iinc {i : Nat} {z : Int} {x v : Int32} (j : Nat) (F : pz_F B cc nL ret own g R) (hj : lv[j]? = some (i, .int x)) (d : decode cc pc = .ok (.iinc i z, 3)) (hv : x + Int32.ofInt z = v) (hn : i < nL) (hf : (i, Value.int v) :: lv.filter (fun q => !(q.1 == i) && !(q.1 + 1 == i && q.2.category == 2)) = lv') (h : pz_At B k n (pc + 3) lv' st ws) : pz_At B k n pc lv st ws :=
  fun ls H locs hl hP hD hS => lv_iinc F.1 F.2.1 d (by rw [F.2.2.2.2.2.2.2.2.2.2.2.1] at hl; exact hl) hj hv hn hf (fun ls' hl' => h ls' H locs (by rw [F.2.2.2.2.2.2.2.2.2.2.2.1]; exact hl') hP hD hS)
theorem pz_iadd {x y : Int32} (F : pz_F B cc nL ret own g R) (d : decode cc pc = .ok (.iadd, 1)) (h : pz_At B k n (pc + 1) lv (.int (x + y) :: st) ws) : pz_At B k n pc lv (.int y :: .int x :: st) ws :=
  fun ls H locs hl hP hD hS => lv_iadd F.1 F.2.1 d (h ls H locs hl hP hD hS)
theorem pz_isub {x y : Int32} (F : pz_F B cc nL ret own g R) (d : decode cc pc = .ok (.isub, 1)) (h : pz_At B k n (pc + 1) lv (.int (x - y) :: st) ws) : pz_At B k n pc lv (.int y :: .int x :: st) ws :=
  fun ls H locs hl hP hD hS => lv_isub F.1 F.2.1 d (h ls H locs hl hP hD hS)
theorem pz_imul {x y : Int32} (F : pz_F B cc nL ret own g R) (d : decode cc pc = .ok (.imul, 1)) (h : pz_At B k n (pc + 1) lv (.int (x * y) :: st) ws) : pz_At B k n pc lv (.int y :: .int x :: st) ws :=
  fun ls H locs hl hP hD hS => lv_imul F.1 F.2.1 d (h ls H locs hl hP hD hS)
theorem pz_iand {x y : Int32} (F : pz_F B cc nL ret own g R) (d : decode cc pc = .ok (.iand, 1)) (h : pz_At B k n (pc + 1) lv (.int (x &&& y) :: st) ws) : pz_At B k n pc lv (.int y :: .int x :: st) ws :=
  fun ls H locs hl hP hD hS => lv_iand F.1 F.2.1 d (h ls H locs hl hP hD hS)
theorem pz_ior {x y : Int32} (F : pz_F B cc nL ret own g R) (d : decode cc pc = .ok (.ior, 1)) (h : pz_At B k n (pc + 1) lv (.int (x ||| y) :: st) ws) : pz_At B k n pc lv (.int y :: .int x :: st) ws :=
  fun ls H locs hl hP hD hS => lv_ior F.1 F.2.1 d (h ls H locs hl hP hD hS)
theorem pz_ladd {x y : Int64} (F : pz_F B cc nL ret own g R) (d : decode cc pc = .ok (.ladd, 1)) (h : pz_At B k n (pc + 1) lv (.long (x + y) :: st) ws) : pz_At B k n pc lv (.long y :: .long x :: st) ws :=
  fun ls H locs hl hP hD hS => lv_ladd F.1 F.2.1 d (h ls H locs hl hP hD hS)
theorem pz_lsub {x y : Int64} (F : pz_F B cc nL ret own g R) (d : decode cc pc = .ok (.lsub, 1)) (h : pz_At B k n (pc + 1) lv (.long (x - y) :: st) ws) : pz_At B k n pc lv (.long y :: .long x :: st) ws :=
  fun ls H locs hl hP hD hS => lv_lsub F.1 F.2.1 d (h ls H locs hl hP hD hS)
theorem pz_lmul {x y : Int64} (F : pz_F B cc nL ret own g R) (d : decode cc pc = .ok (.lmul, 1)) (h : pz_At B k n (pc + 1) lv (.long (x * y) :: st) ws) : pz_At B k n pc lv (.long y :: .long x :: st) ws :=
  fun ls H locs hl hP hD hS => lv_lmul F.1 F.2.1 d (h ls H locs hl hP hD hS)
theorem pz_ishl {x y : Int32} (F : pz_F B cc nL ret own g R) (d : decode cc pc = .ok (.ishl, 1)) (h : pz_At B k n (pc + 1) lv (.int (x <<< (y &&& 31)) :: st) ws) : pz_At B k n pc lv (.int y :: .int x :: st) ws :=
  fun ls H locs hl hP hD hS => lv_ishl F.1 F.2.1 d (h ls H locs hl hP hD hS)
theorem pz_ishr {x y : Int32} (F : pz_F B cc nL ret own g R) (d : decode cc pc = .ok (.ishr, 1)) (h : pz_At B k n (pc + 1) lv (.int (x >>> (y &&& 31)) :: st) ws) : pz_At B k n pc lv (.int y :: .int x :: st) ws :=
  fun ls H locs hl hP hD hS => lv_ishr F.1 F.2.1 d (h ls H locs hl hP hD hS)
theorem pz_idiv {x y : Int32} (F : pz_F B cc nL ret own g R) (hy : ¬ y = 0) (d : decode cc pc = .ok (.idiv, 1)) (h : pz_At B k n (pc + 1) lv (.int (x / y) :: st) ws) : pz_At B k n pc lv (.int y :: .int x :: st) ws :=
  fun ls H locs hl hP hD hS => lv_idiv F.1 F.2.1 d hy (h ls H locs hl hP hD hS)
theorem pz_irem {x y : Int32} (F : pz_F B cc nL ret own g R) (hy : ¬ y = 0) (d : decode cc pc = .ok (.irem, 1)) (h : pz_At B k n (pc + 1) lv (.int (x - x / y * y) :: st) ws) : pz_At B k n pc lv (.int y :: .int x :: st) ws :=
  fun ls H locs hl hP hD hS => lv_irem F.1 F.2.1 d hy (h ls H locs hl hP hD hS)
theorem pz_ldiv {x y : Int64} (F : pz_F B cc nL ret own g R) (hy : ¬ y = 0) (d : decode cc pc = .ok (.ldiv, 1)) (h : pz_At B k n (pc + 1) lv (.long (x / y) :: st) ws) : pz_At B k n pc lv (.long y :: .long x :: st) ws :=
  fun ls H locs hl hP hD hS => lv_ldiv F.1 F.2.1 d hy (h ls H locs hl hP hD hS)
theorem pz_lrem {x y : Int64} (F : pz_F B cc nL ret own g R) (hy : ¬ y = 0) (d : decode cc pc = .ok (.lrem, 1)) (h : pz_At B k n (pc + 1) lv (.long (x - x / y * y) :: st) ws) : pz_At B k n pc lv (.long y :: .long x :: st) ws :=
  fun ls H locs hl hP hD hS => lv_lrem F.1 F.2.1 d hy (h ls H locs hl hP hD hS)
theorem pz_ineg {x : Int32} (F : pz_F B cc nL ret own g R) (d : decode cc pc = .ok (.ineg, 1)) (h : pz_At B k n (pc + 1) lv (.int (-x) :: st) ws) : pz_At B k n pc lv (.int x :: st) ws :=
  fun ls H locs hl hP hD hS => lv_ineg F.1 F.2.1 d (h ls H locs hl hP hD hS)
theorem pz_lneg {x : Int64} (F : pz_F B cc nL ret own g R) (d : decode cc pc = .ok (.lneg, 1)) (h : pz_At B k n (pc + 1) lv (.long (-x) :: st) ws) : pz_At B k n pc lv (.long x :: st) ws :=
  fun ls H locs hl hP hD hS => lv_lneg F.1 F.2.1 d (h ls H locs hl hP hD hS)
theorem pz_i2l {x : Int32} (F : pz_F B cc nL ret own g R) (d : decode cc pc = .ok (.i2l, 1)) (h : pz_At B k n (pc + 1) lv (.long x.toInt64 :: st) ws) : pz_At B k n pc lv (.int x :: st) ws :=
  fun ls H locs hl hP hD hS => lv_i2l F.1 F.2.1 d rfl (h ls H locs hl hP hD hS)
theorem pz_l2i {x : Int64} (F : pz_F B cc nL ret own g R) (d : decode cc pc = .ok (.l2i, 1)) (h : pz_At B k n (pc + 1) lv (.int x.toInt32 :: st) ws) : pz_At B k n pc lv (.long x :: st) ws :=
  fun ls H locs hl hP hD hS => lv_l2i F.1 F.2.1 d rfl (h ls H locs hl hP hD hS)
theorem pz_i2b {x : Int32} (F : pz_F B cc nL ret own g R) (d : decode cc pc = .ok (.i2b, 1)) (h : pz_At B k n (pc + 1) lv (.int x.toInt8.toInt32 :: st) ws) : pz_At B k n pc lv (.int x :: st) ws :=
  fun ls H locs hl hP hD hS => lv_i2b F.1 F.2.1 d rfl (h ls H locs hl hP hD hS)
theorem pz_i2c {x : Int32} (F : pz_F B cc nL ret own g R) (d : decode cc pc = .ok (.i2c, 1)) (h : pz_At B k n (pc + 1) lv (.int (x.toUInt32 % 65536).toInt32 :: st) ws) : pz_At B k n pc lv (.int x :: st) ws :=
  fun ls H locs hl hP hD hS => lv_i2c F.1 F.2.1 d rfl (h ls H locs hl hP hD hS)
theorem pz_lshl {x : Int64} {y : Int32} (F : pz_F B cc nL ret own g R) (d : decode cc pc = .ok (.lshl, 1)) (h : pz_At B k n (pc + 1) lv (.long (x <<< (y.toInt64 &&& 63)) :: st) ws) : pz_At B k n pc lv (.int y :: .long x :: st) ws :=
  fun ls H locs hl hP hD hS => lv_lshl F.1 F.2.1 d rfl (h ls H locs hl hP hD hS)
theorem pz_lcmp {x y : Int64} (F : pz_F B cc nL ret own g R) (d : decode cc pc = .ok (.lcmp, 1)) (h : pz_At B k n (pc + 1) lv (.int (lg_cmp x y) :: st) ws) : pz_At B k n pc lv (.long y :: .long x :: st) ws :=
  fun ls H locs hl hP hD hS => W.lcmp F.1 F.2.1 d (h ls H locs hl hP hD hS)
theorem pz_dup {u : Value} (F : pz_F B cc nL ret own g R) (d : decode cc pc = .ok (.dup, 1)) (hu : u.category = 1) (h : pz_At B k n (pc + 1) lv (u :: u :: st) ws) : pz_At B k n pc lv (u :: st) ws :=
  fun ls H locs hl hP hD hS => lv_dup F.1 F.2.1 d hu (h ls H locs hl hP hD hS)
theorem pz_pop {u : Value} (F : pz_F B cc nL ret own g R) (d : decode cc pc = .ok (.pop, 1)) (hu : u.category = 1) (h : pz_At B k n (pc + 1) lv st ws) : pz_At B k n pc lv (u :: st) ws :=
  fun ls H locs hl hP hD hS => lv_pop F.1 F.2.1 d hu (h ls H locs hl hP hD hS)
theorem pz_dup_x1 {u v : Value} (F : pz_F B cc nL ret own g R) (d : decode cc pc = .ok (.dup_x1, 1)) (hu : u.category = 1) (hv : v.category = 1) (h : pz_At B k n (pc + 1) lv (u :: v :: u :: st) ws) : pz_At B k n pc lv (u :: v :: st) ws :=
  fun ls H locs hl hP hD hS => lv_dup_x1 F.1 F.2.1 d hu hv (h ls H locs hl hP hD hS)
theorem pz_dup2 {u v : Value} (F : pz_F B cc nL ret own g R) (d : decode cc pc = .ok (.dup2, 1)) (hu : u.category = 1) (hv : v.category = 1) (h : pz_At B k n (pc + 1) lv (u :: v :: u :: v :: st) ws) : pz_At B k n pc lv (u :: v :: st) ws :=
  fun ls H locs hl hP hD hS => lv_dup2_11 F.1 F.2.1 d hu hv (h ls H locs hl hP hD hS)
theorem pz_dup2L {u : Value} (F : pz_F B cc nL ret own g R) (d : decode cc pc = .ok (.dup2, 1)) (hu : u.category = 2) (h : pz_At B k n (pc + 1) lv (u :: u :: st) ws) : pz_At B k n pc lv (u :: st) ws :=
  fun ls H locs hl hP hD hS => lv_dup2_2 F.1 F.2.1 d hu (h ls H locs hl hP hD hS)
theorem pz_if_eq {x : Int32} {off : Int} {tgt : Nat} (F : pz_F B cc nL ret own g R) (d : decode cc pc = .ok (.ifCond .eq off, 3)) (ht : (pc : Int) + off = (tgt : Int)) (h1 : x = 0 → pz_At B k n tgt lv st ws) (h2 : ¬ x = 0 → pz_At B k n (pc + 3) lv st ws) : pz_At B k n pc lv (.int x :: st) ws :=
  fun ls H locs hl hP hD hS => lv_if_eq F.1 F.2.1 d ht (fun q => h1 q ls H locs hl hP hD hS) (fun q => h2 q ls H locs hl hP hD hS)
theorem pz_icmp_eq {x y : Int32} {off : Int} {tgt : Nat} (F : pz_F B cc nL ret own g R) (d : decode cc pc = .ok (.if_icmp .eq off, 3)) (ht : (pc : Int) + off = (tgt : Int)) (h1 : x = y → pz_At B k n tgt lv st ws) (h2 : ¬ x = y → pz_At B k n (pc + 3) lv st ws) : pz_At B k n pc lv (.int y :: .int x :: st) ws :=
  fun ls H locs hl hP hD hS => lv_icmp_eq F.1 F.2.1 d ht (fun q => h1 q ls H locs hl hP hD hS) (fun q => h2 q ls H locs hl hP hD hS)
theorem pz_if_ne {x : Int32} {off : Int} {tgt : Nat} (F : pz_F B cc nL ret own g R) (d : decode cc pc = .ok (.ifCond .ne off, 3)) (ht : (pc : Int) + off = (tgt : Int)) (h1 : ¬ x = 0 → pz_At B k n tgt lv st ws) (h2 : x = 0 → pz_At B k n (pc + 3) lv st ws) : pz_At B k n pc lv (.int x :: st) ws :=
  fun ls H locs hl hP hD hS => lv_if_ne F.1 F.2.1 d ht (fun q => h1 q ls H locs hl hP hD hS) (fun q => h2 q ls H locs hl hP hD hS)
theorem pz_icmp_ne {x y : Int32} {off : Int} {tgt : Nat} (F : pz_F B cc nL ret own g R) (d : decode cc pc = .ok (.if_icmp .ne off, 3)) (ht : (pc : Int) + off = (tgt : Int)) (h1 : ¬ x = y → pz_At B k n tgt lv st ws) (h2 : x = y → pz_At B k n (pc + 3) lv st ws) : pz_At B k n pc lv (.int y :: .int x :: st) ws :=
  fun ls H locs hl hP hD hS => lv_icmp_ne F.1 F.2.1 d ht (fun q => h1 q ls H locs hl hP hD hS) (fun q => h2 q ls H locs hl hP hD hS)
theorem pz_if_lt {x : Int32} {off : Int} {tgt : Nat} (F : pz_F B cc nL ret own g R) (d : decode cc pc = .ok (.ifCond .lt off, 3)) (ht : (pc : Int) + off = (tgt : Int)) (h1 : x < 0 → pz_At B k n tgt lv st ws) (h2 : ¬ x < 0 → pz_At B k n (pc + 3) lv st ws) : pz_At B k n pc lv (.int x :: st) ws :=
  fun ls H locs hl hP hD hS => lv_if_lt F.1 F.2.1 d ht (fun q => h1 q ls H locs hl hP hD hS) (fun q => h2 q ls H locs hl hP hD hS)
theorem pz_icmp_lt {x y : Int32} {off : Int} {tgt : Nat} (F : pz_F B cc nL ret own g R) (d : decode cc pc = .ok (.if_icmp .lt off, 3)) (ht : (pc : Int) + off = (tgt : Int)) (h1 : x < y → pz_At B k n tgt lv st ws) (h2 : ¬ x < y → pz_At B k n (pc + 3) lv st ws) : pz_At B k n pc lv (.int y :: .int x :: st) ws :=
  fun ls H locs hl hP hD hS => lv_icmp_lt F.1 F.2.1 d ht (fun q => h1 q ls H locs hl hP hD hS) (fun q => h2 q ls H locs hl hP hD hS)
theorem pz_if_ge {x : Int32} {off : Int} {tgt : Nat} (F : pz_F B cc nL ret own g R) (d : decode cc pc = .ok (.ifCond .ge off, 3)) (ht : (pc : Int) + off = (tgt : Int)) (h1 : 0 ≤ x → pz_At B k n tgt lv st ws) (h2 : ¬ 0 ≤ x → pz_At B k n (pc + 3) lv st ws) : pz_At B k n pc lv (.int x :: st) ws :=
  fun ls H locs hl hP hD hS => lv_if_ge F.1 F.2.1 d ht (fun q => h1 q ls H locs hl hP hD hS) (fun q => h2 q ls H locs hl hP hD hS)
theorem pz_icmp_ge {x y : Int32} {off : Int} {tgt : Nat} (F : pz_F B cc nL ret own g R) (d : decode cc pc = .ok (.if_icmp .ge off, 3)) (ht : (pc : Int) + off = (tgt : Int)) (h1 : y ≤ x → pz_At B k n tgt lv st ws) (h2 : ¬ y ≤ x → pz_At B k n (pc + 3) lv st ws) : pz_At B k n pc lv (.int y :: .int x :: st) ws :=
  fun ls H locs hl hP hD hS => lv_icmp_ge F.1 F.2.1 d ht (fun q => h1 q ls H locs hl hP hD hS) (fun q => h2 q ls H locs hl hP hD hS)
theorem pz_if_gt {x : Int32} {off : Int} {tgt : Nat} (F : pz_F B cc nL ret own g R) (d : decode cc pc = .ok (.ifCond .gt off, 3)) (ht : (pc : Int) + off = (tgt : Int)) (h1 : 0 < x → pz_At B k n tgt lv st ws) (h2 : ¬ 0 < x → pz_At B k n (pc + 3) lv st ws) : pz_At B k n pc lv (.int x :: st) ws :=
  fun ls H locs hl hP hD hS => lv_if_gt F.1 F.2.1 d ht (fun q => h1 q ls H locs hl hP hD hS) (fun q => h2 q ls H locs hl hP hD hS)
theorem pz_icmp_gt {x y : Int32} {off : Int} {tgt : Nat} (F : pz_F B cc nL ret own g R) (d : decode cc pc = .ok (.if_icmp .gt off, 3)) (ht : (pc : Int) + off = (tgt : Int)) (h1 : y < x → pz_At B k n tgt lv st ws) (h2 : ¬ y < x → pz_At B k n (pc + 3) lv st ws) : pz_At B k n pc lv (.int y :: .int x :: st) ws :=
  fun ls H locs hl hP hD hS => lv_icmp_gt F.1 F.2.1 d ht (fun q => h1 q ls H locs hl hP hD hS) (fun q => h2 q ls H locs hl hP hD hS)
theorem pz_if_le {x : Int32} {off : Int} {tgt : Nat} (F : pz_F B cc nL ret own g R) (d : decode cc pc = .ok (.ifCond .le off, 3)) (ht : (pc : Int) + off = (tgt : Int)) (h1 : x ≤ 0 → pz_At B k n tgt lv st ws) (h2 : ¬ x ≤ 0 → pz_At B k n (pc + 3) lv st ws) : pz_At B k n pc lv (.int x :: st) ws :=
  fun ls H locs hl hP hD hS => lv_if_le F.1 F.2.1 d ht (fun q => h1 q ls H locs hl hP hD hS) (fun q => h2 q ls H locs hl hP hD hS)
theorem pz_icmp_le {x y : Int32} {off : Int} {tgt : Nat} (F : pz_F B cc nL ret own g R) (d : decode cc pc = .ok (.if_icmp .le off, 3)) (ht : (pc : Int) + off = (tgt : Int)) (h1 : x ≤ y → pz_At B k n tgt lv st ws) (h2 : ¬ x ≤ y → pz_At B k n (pc + 3) lv st ws) : pz_At B k n pc lv (.int y :: .int x :: st) ws :=
  fun ls H locs hl hP hD hS => lv_icmp_le F.1 F.2.1 d ht (fun q => h1 q ls H locs hl hP hD hS) (fun q => h2 q ls H locs hl hP hD hS)
theorem pz_goto {off : Int} {tgt : Nat} (F : pz_F B cc nL ret own g R) (d : decode cc pc = .ok (.goto off, 3)) (ht : (pc : Int) + off = (tgt : Int)) (h : pz_At B k n tgt lv st ws) : pz_At B k n pc lv st ws :=
  fun ls H locs hl hP hD hS => lv_goto F.1 F.2.1 d ht (h ls H locs hl hP hD hS)
theorem pz_ifnonnull {x : Nat} {off : Int} {tgt : Nat} (F : pz_F B cc nL ret own g R) (d : decode cc pc = .ok (.ifnonnull off, 3)) (ht : (pc : Int) + off = (tgt : Int)) (h : pz_At B k n tgt lv st ws) : pz_At B k n pc lv (.ref x :: st) ws :=
  fun ls H locs hl hP hD hS => lv_ifnonnull F.1 F.2.1 d ht (h ls H locs hl hP hD hS)
theorem pz_ifnullN  {off : Int} {tgt : Nat} (F : pz_F B cc nL ret own g R) (d : decode cc pc = .ok (.ifnull off, 3)) (ht : (pc : Int) + off = (tgt : Int)) (h : pz_At B k n tgt lv st ws) : pz_At B k n pc lv (.null :: st) ws :=
  fun ls H locs hl hP hD hS => lv_ifnullN F.1 F.2.1 d ht (h ls H locs hl hP hD hS)
theorem pz_ifnull {x : Nat} {off : Int} (F : pz_F B cc nL ret own g R) (d : decode cc pc = .ok (.ifnull off, 3)) (h : pz_At B k n (pc + 3) lv st ws) : pz_At B k n pc lv (.ref x :: st) ws :=
  fun ls H locs hl hP hD hS => lv_ifnull F.1 F.2.1 d (h ls H locs hl hP hD hS)
theorem pz_ifnonnullN {off : Int} (F : pz_F B cc nL ret own g R) (d : decode cc pc = .ok (.ifnonnull off, 3)) (h : pz_At B k n (pc + 3) lv st ws) : pz_At B k n pc lv (.null :: st) ws :=
  fun ls H locs hl hP hD hS => lv_ifnonnullN F.1 F.2.1 d (h ls H locs hl hP hD hS)
theorem pz_acmp_ne {rx ry : Nat} {off : Int} {tgt : Nat} (F : pz_F B cc nL ret own g R) (d : decode cc pc = .ok (.if_acmp .ne off, 3)) (ht : (pc : Int) + off = (tgt : Int)) (h1 : ¬ rx = ry → pz_At B k n tgt lv st ws) (h2 : rx = ry → pz_At B k n (pc + 3) lv st ws) : pz_At B k n pc lv (.ref ry :: .ref rx :: st) ws :=
  fun ls H locs hl hP hD hS => lv_acmp_ne (rx := some rx) (ry := some ry) F.1 F.2.1 d ht (fun q => h1 (fun e => q (by rw [e])) ls H locs hl hP hD hS) (fun q => h2 (Option.some.inj q) ls H locs hl hP hD hS)
theorem pz_tsw {dflt lo hi : Int} {offs : Array Int} {len : Nat} {x : Int32} {off : Int} {tgt : Nat} (F : pz_F B cc nL ret own g R) (d : decode cc pc = .ok (.tableswitch dflt lo hi offs, len)) (h1 : ¬ x.toInt < lo) (h2 : ¬ hi < x.toInt) (ho : offs[(x.toInt - lo).toNat]? = some off) (ht : (pc : Int) + off = (tgt : Int)) (h : pz_At B k n tgt lv st ws) : pz_At B k n pc lv (.int x :: st) ws :=
  fun ls H locs hl hP hD hS => lv_tableIn F.1 F.2.1 d h1 h2 ho ht (h ls H locs hl hP hD hS)
theorem pz_tswO {dflt lo hi : Int} {offs : Array Int} {len : Nat} {x : Int32} {tgt : Nat} (F : pz_F B cc nL ret own g R) (d : decode cc pc = .ok (.tableswitch dflt lo hi offs, len)) (hx : x.toInt < lo ∨ hi < x.toInt) (ht : (pc : Int) + dflt = (tgt : Int)) (h : pz_At B k n tgt lv st ws) : pz_At B k n pc lv (.int x :: st) ws :=
  fun ls H locs hl hP hD hS => lv_tableOut F.1 F.2.1 d hx ht (h ls H locs hl hP hD hS)
theorem pz_lsw {dflt : Int} {ps : Array (Int × Int)} {len : Nat} {x : Int32} {off : Int} {tgt : Nat} (F : pz_F B cc nL ret own g R) (d : decode cc pc = .ok (.lookupswitch dflt ps, len)) (hp : (ps.toList.zip (ps.toList.drop 1)).all (fun (a, next) => a.1 < next.1) = true) (ho : Op.lookupswitch.offset ps.toList dflt x.toInt = off) (ht : (pc : Int) + off = (tgt : Int)) (h : pz_At B k n tgt lv st ws) : pz_At B k n pc lv (.int x :: st) ws :=
  fun ls H locs hl hP hD hS => lv_lookup F.1 F.2.1 d hp ho ht (h ls H locs hl hP hD hS)
theorem pz_get {C : String} {T : u_T} {N ci ix a : Nat} {fs : List Value} {v : Value} (i : Nat) (F : pz_F B cc nL ret own g R) (he : ws[i]? = some (a, .inr (ci, fs))) (hc : vwCl[ci]? = some (C, T, N)) (hin : ∀ w ∈ u_ws C T N, w ∈ pz_T) (j : Nat) (hj : j < N) (hw : Cond.fieldLink own ix (T j).1 (T j).2.1 (T j).2.2.1 ∈ pz_T) (hv : fs[j]? = some v) (d : decode cc pc = .ok (.getfield ix, 3)) (h : pz_At B k n (pc + 3) lv (v :: st) ws) : pz_At B k n pc lv (.ref a :: st) ws :=
  fun ls H locs hl hP hD hS => va_get F.1 F.2.1 F.2.2.2.2.2.1 hin F.2.2.2.2.1 F.2.2.2.2.2.2.1 (by rw [F.2.2.2.2.2.2.2.2.2.1] at hP; exact hP) i he hc j hj (F.2.2.2.2.2.1 _ hw) (fun _ q => q) hv d (h ls H locs hl hP hD hS)
theorem pz_put {C : String} {T : u_T} {N ci ix a : Nat} {fs : List Value} {v : Value} (i : Nat) {ty : FieldType} {tf : Nat → FieldType} (F : pz_F B cc nL ret own g R) (he : ws[i]? = some (a, .inr (ci, fs))) (hc : vwCl[ci]? = some (C, T, N)) (hin : ∀ w ∈ u_ws C T N, w ∈ pz_T) (j : Nat) (hj : j < N) (hw : Cond.fieldLink own ix (T j).1 (T j).2.1 (T j).2.2.1 ∈ pz_T) (hty : ∀ k, k < N → parseFieldDescriptor (T k).2.2.1 = some (tf k)) (hnm : ∀ a, a < N → ∀ b, b < N → a ≠ b → (T a).2.1 ≠ (T b).2.1) (hfi : (T j).2.2.2 = false) (hd : parseFieldDescriptor (T j).2.2.1 = some ty) (hna : narrow ty v = v) (hft : fits ty v = true) (hle : j < fs.length) (d : decode cc pc = .ok (.putfield ix, 3)) (hws : ws.set i (a, .inr (ci, fs.set j v)) = ws') (h : pz_At B k n (pc + 3) lv st ws') : pz_At B k n pc lv (v :: .ref a :: st) ws :=
  fun ls H locs hl hP hD hS => by
    subst hws
    exact va_put F.1 F.2.1 F.2.2.2.2.2.1 hin tf hty hnm F.2.2.2.2.1 F.2.2.2.2.2.2.1 (by rw [F.2.2.2.2.2.2.2.2.2.1] at hP; exact hP) hD hS i he hc j hj (F.2.2.2.2.2.1 _ hw) (fun _ q => q) hfi hd hna hft hle d (fun H1 locs1 hP1 hD1 hS1 => h ls H1 locs1 hl (by rw [F.2.2.2.2.2.2.2.2.2.1]; exact hP1) hD1 hS1)
theorem pz_putF {C : String} {T : u_T} {N ci ix a : Nat} {fs : List Value} {v : Value} (i : Nat) {ty : FieldType} {tf : Nat → FieldType} (F : pz_F B cc nL ret own g R) (he : ws[i]? = some (a, .inr (ci, fs))) (hc : vwCl[ci]? = some (C, T, N)) (hin : ∀ w ∈ u_ws C T N, w ∈ pz_T) (j : Nat) (hj : j < N) (hw : Cond.fieldLink own ix (T j).1 (T j).2.1 (T j).2.2.1 ∈ pz_T) (hty : ∀ k, k < N → parseFieldDescriptor (T k).2.2.1 = some (tf k)) (hnm : ∀ a, a < N → ∀ b, b < N → a ≠ b → (T a).2.1 ≠ (T b).2.1) (hfi : (T j).2.2.2 = true) (hmn : (pz_me B).name = "<init>") (hdc : (T j).1 = own) (hd : parseFieldDescriptor (T j).2.2.1 = some ty) (hna : narrow ty v = v) (hft : fits ty v = true) (hle : j < fs.length) (d : decode cc pc = .ok (.putfield ix, 3)) (hws : ws.set i (a, .inr (ci, fs.set j v)) = ws') (h : pz_At B k n (pc + 3) lv st ws') : pz_At B k n pc lv (v :: .ref a :: st) ws :=
  fun ls H locs hl hP hD hS => by
    subst hws
    exact va_putF F.1 F.2.1 F.2.2.2.2.2.1 hin tf hty hnm F.2.2.2.2.1 F.2.2.2.2.2.2.1 (by rw [F.2.2.2.2.2.2.2.2.2.1] at hP; exact hP) hD hS i he hc j hj (F.2.2.2.2.2.1 _ hw) (fun _ q => q) hfi hmn (hdc) hd hna hft hle d (fun H1 locs1 hP1 hD1 hS1 => h ls H1 locs1 hl (by rw [F.2.2.2.2.2.2.2.2.2.1]; exact hP1) hD1 hS1)
theorem pz_iaload {a N : Nat} {f : Nat → Int32} {x : Int32} (i : Nat) (F : pz_F B cc nL ret own g R) (he : ws[i]? = some (a, .inl (g.2.1 1, N, .inl f))) (hx : vp_in x N) (d : decode cc pc = .ok (.iaload, 1)) (h : pz_At B k n (pc + 1) lv (.int (f x.toNatClampNeg) :: st) ws) : pz_At B k n pc lv (.int x :: .ref a :: st) ws :=
  fun ls H locs hl hP hD hS => va_iald F.1 F.2.1 F.2.2.2.2.2.2.1 (by rw [F.2.2.2.2.2.2.2.2.2.1] at hP; exact hP) i 1 he rfl hx d (h ls H locs hl hP hD hS)
theorem pz_baload {a N : Nat} {f : Nat → Int32} {x : Int32} (i : Nat) (F : pz_F B cc nL ret own g R) (he : ws[i]? = some (a, .inl (g.2.1 0, N, .inl f))) (hx : vp_in x N) (d : decode cc pc = .ok (.baload, 1)) (h : pz_At B k n (pc + 1) lv (.int (f x.toNatClampNeg) :: st) ws) : pz_At B k n pc lv (.int x :: .ref a :: st) ws :=
  fun ls H locs hl hP hD hS => va_bald F.1 F.2.1 F.2.2.2.2.2.2.1 (by rw [F.2.2.2.2.2.2.2.2.2.1] at hP; exact hP) i 0 he rfl hx d (h ls H locs hl hP hD hS)
theorem pz_zaload {a N : Nat} {f : Nat → Int32} {x : Int32} (i : Nat) (F : pz_F B cc nL ret own g R) (he : ws[i]? = some (a, .inl (g.2.1 3, N, .inl f))) (hx : vp_in x N) (d : decode cc pc = .ok (.baload, 1)) (h : pz_At B k n (pc + 1) lv (.int (f x.toNatClampNeg) :: st) ws) : pz_At B k n pc lv (.int x :: .ref a :: st) ws :=
  fun ls H locs hl hP hD hS => va_zald F.1 F.2.1 F.2.2.2.2.2.2.1 (by rw [F.2.2.2.2.2.2.2.2.2.1] at hP; exact hP) i 3 he rfl hx d (h ls H locs hl hP hD hS)
theorem pz_laload {a N : Nat} {f : Nat → Int64} {x : Int32} (i : Nat) (F : pz_F B cc nL ret own g R) (he : ws[i]? = some (a, .inl (g.2.1 2, N, .inr (.inl f)))) (hx : vp_in x N) (d : decode cc pc = .ok (.laload, 1)) (h : pz_At B k n (pc + 1) lv (.long (f x.toNatClampNeg) :: st) ws) : pz_At B k n pc lv (.int x :: .ref a :: st) ws :=
  fun ls H locs hl hP hD hS => va_lald F.1 F.2.1 F.2.2.2.2.2.2.1 (by rw [F.2.2.2.2.2.2.2.2.2.1] at hP; exact hP) i 2 he rfl hx d (h ls H locs hl hP hD hS)
theorem pz_iastore {a N : Nat} {f : Nat → Int32} {x : Int32} {v : Int32} (F : pz_F B cc nL ret own g R) (i : Nat) (he : ws[i]? = some (a, .inl (g.2.1 1, N, .inl f))) (hx : vp_in x N) (d : decode cc pc = .ok (.iastore, 1)) (hws : ws.set i (a, .inl (g.2.1 1, N, .inl (upd f x.toNatClampNeg v))) = ws') (h : pz_At B k n (pc + 1) lv st ws') : pz_At B k n pc lv (.int v :: .int x :: .ref a :: st) ws :=
  fun ls H locs hl hP hD hS => by
    subst hws
    exact va_iast F.1 F.2.1 F.2.2.2.2.2.2.1 (by rw [F.2.2.2.2.2.2.2.2.2.1] at hP; exact hP) hD hS i 1 he rfl hx d (fun H1 locs1 hP1 hD1 hS1 => h ls H1 locs1 hl (by rw [F.2.2.2.2.2.2.2.2.2.1]; exact hP1) hD1 hS1)
theorem pz_bastore {a N : Nat} {f : Nat → Int32} {x : Int32} {v : Int32} (F : pz_F B cc nL ret own g R) (i : Nat) (he : ws[i]? = some (a, .inl (g.2.1 0, N, .inl f))) (hx : vp_in x N) (d : decode cc pc = .ok (.bastore, 1)) (hws : ws.set i (a, .inl (g.2.1 0, N, .inl (upd f x.toNatClampNeg (vp_nar .byte v)))) = ws') (h : pz_At B k n (pc + 1) lv st ws') : pz_At B k n pc lv (.int v :: .int x :: .ref a :: st) ws :=
  fun ls H locs hl hP hD hS => by
    subst hws
    exact va_bast F.1 F.2.1 F.2.2.2.2.2.2.1 (by rw [F.2.2.2.2.2.2.2.2.2.1] at hP; exact hP) hD hS i 0 he rfl hx d (fun H1 locs1 hP1 hD1 hS1 => h ls H1 locs1 hl (by rw [F.2.2.2.2.2.2.2.2.2.1]; exact hP1) hD1 hS1)
theorem pz_zastore {a N : Nat} {f : Nat → Int32} {x : Int32} {v : Int32} (F : pz_F B cc nL ret own g R) (i : Nat) (he : ws[i]? = some (a, .inl (g.2.1 3, N, .inl f))) (hx : vp_in x N) (d : decode cc pc = .ok (.bastore, 1)) (hws : ws.set i (a, .inl (g.2.1 3, N, .inl (upd f x.toNatClampNeg (vp_nar .boolean v)))) = ws') (h : pz_At B k n (pc + 1) lv st ws') : pz_At B k n pc lv (.int v :: .int x :: .ref a :: st) ws :=
  fun ls H locs hl hP hD hS => by
    subst hws
    exact va_zast F.1 F.2.1 F.2.2.2.2.2.2.1 (by rw [F.2.2.2.2.2.2.2.2.2.1] at hP; exact hP) hD hS i 3 he rfl hx d (fun H1 locs1 hP1 hD1 hS1 => h ls H1 locs1 hl (by rw [F.2.2.2.2.2.2.2.2.2.1]; exact hP1) hD1 hS1)
theorem pz_lastore {a N : Nat} {f : Nat → Int64} {x : Int32} {v : Int64} (F : pz_F B cc nL ret own g R) (i : Nat) (he : ws[i]? = some (a, .inl (g.2.1 2, N, .inr (.inl f)))) (hx : vp_in x N) (d : decode cc pc = .ok (.lastore, 1)) (hws : ws.set i (a, .inl (g.2.1 2, N, .inr (.inl (vp_updL f x.toNatClampNeg v)))) = ws') (h : pz_At B k n (pc + 1) lv st ws') : pz_At B k n pc lv (.long v :: .int x :: .ref a :: st) ws :=
  fun ls H locs hl hP hD hS => by
    subst hws
    exact va_last F.1 F.2.1 F.2.2.2.2.2.2.1 (by rw [F.2.2.2.2.2.2.2.2.2.1] at hP; exact hP) hD hS i 2 he rfl hx d (fun H1 locs1 hP1 hD1 hS1 => h ls H1 locs1 hl (by rw [F.2.2.2.2.2.2.2.2.2.1]; exact hP1) hD1 hS1)
theorem pz_alen {a t : Nat} {ty : FieldType} {x : vp_A} {v : Int32} (i : Nat) (F : pz_F B cc nL ret own g R) (he : ws[i]? = some (a, .inl (g.2.1 t, x))) (ht : (pz_tys g)[t]? = some (g.2.1 t, ty)) (hv : Int32.ofNat x.1 = v) (d : decode cc pc = .ok (.arraylength, 1)) (h : pz_At B k n (pc + 1) lv (.int v :: st) ws) : pz_At B k n pc lv (.ref a :: st) ws :=
  fun ls H locs hl hP hD hS => va_alen F.1 F.2.1 F.2.2.2.2.2.2.1 (by rw [F.2.2.2.2.2.2.2.2.2.1] at hP; exact hP) i t he ht hv d (h ls H locs hl hP hD hS)
theorem pz_aaload {a N : Nat} {f : Nat → Option Nat} {x : Int32} (i : Nat) (F : pz_F B cc nL ret own g R) (he : ws[i]? = some (a, .inl (g.2.1 4, N, .inr (.inr (.inr (.inr f)))))) (hx : vp_in x N) (d : decode cc pc = .ok (.aaload, 1)) (h : pz_At B k n (pc + 1) lv (va_rf (f x.toNatClampNeg) :: st) ws) : pz_At B k n pc lv (.int x :: .ref a :: st) ws :=
  fun ls H locs hl hP hD hS => va_aldq F.1 F.2.1 F.2.2.2.2.2.2.1 (by rw [F.2.2.2.2.2.2.2.2.2.1] at hP; exact hP) i 4 he rfl hx d (h ls H locs hl hP hD hS)
theorem pz_aastore {a N v : Nat} {vs : List Value} {f : Nat → Option Nat} {x : Int32} (F : pz_F B cc nL ret own g R) (i j : Nat) (he : ws[i]? = some (a, .inl (g.2.1 4, N, .inr (.inr (.inr (.inr f)))))) (hv : ws[j]? = some (v, .inr (0, vs))) (hx : vp_in x N) (d : decode cc pc = .ok (.aastore, 1)) (hws : ws.set i (a, .inl (g.2.1 4, N, .inr (.inr (.inr (.inr (va_up f x.toNatClampNeg (some v))))))) = ws') (h : pz_At B k n (pc + 1) lv st ws') : pz_At B k n pc lv (.ref v :: .int x :: .ref a :: st) ws :=
  fun ls H locs hl hP hD hS => by
    subst hws
    exact va_astq (r := (RX0, TX0, 8)) F.1 F.2.1 F.2.2.2.2.2.2.1 (by rw [F.2.2.2.2.2.2.2.2.2.1] at hP; exact hP) hD hS i 4 j 0 he rfl hv rfl hx d (fun H1 locs1 hP1 hD1 hS1 => h ls H1 locs1 hl (by rw [F.2.2.2.2.2.2.2.2.2.1]; exact hP1) hD1 hS1)
theorem pz_gets {C nn dd : String} {v : Value} {ix : Nat} (F : pz_F B cc nL ret own g R) (hZ : va_Z C nn dd v B.2.2.1 (pz_s B) (pz_s B).heap) (hw : Cond.fieldLink own ix C nn dd ∈ pz_T) (d : decode cc pc = .ok (.getstatic ix, 3)) (h : pz_At B k n (pc + 3) lv (v :: st) ws) : pz_At B k n pc lv st ws :=
  fun ls H locs hl hP hD hS => va_gets F.1 F.2.1 hZ hS F.2.2.2.2.1 (F.2.2.2.2.2.1 _ hw) (fun _ q => q) d (h ls H locs hl hP hD hS)
theorem pz_getX {o nn dd : String} {N ix i : Nat} {v : Nat → Value} {ad : Nat → Nat} (F : pz_F B cc nL ret own g R) (hE : va_Ef N o nn dd v ad B.2.2.1 (pz_s B) (pz_s B).heap) (hi : i < N) (hw : Cond.fieldLink own ix o nn dd ∈ pz_T) (d : decode cc pc = .ok (.getfield ix, 3)) (h : pz_At B k n (pc + 3) lv (v i :: st) ws) : pz_At B k n pc lv (.ref (ad i) :: st) ws :=
  fun ls H locs hl hP hD hS => va_getX F.1 F.2.1 hE hi hS F.2.2.2.2.1 (F.2.2.2.2.2.1 _ hw) (fun _ q => q) d (h ls H locs hl hP hD hS)
end PZL
