/-! ===== what stands still: the lines' constants, their texts, two static arrays ===== -/
section PZS
def pz_nm : List String := ["PRICE", "TIE", "DEFAULT", "DEPOSIT", "RESERVE", "TAX", "COST", "SHUT", "OFFER"]
def pz_most : List Int32 := [0, 0, 0, 100, 99999, 100, 999, 999, 999]
def pz_lf : List (String × String × String × List Int32) := [("StoneHall$Line", "slot", "I", [0, 1, 2, 3, 4, 5, 6, 7, 8]), ("StoneHall$Line", "most", "I", pz_most)]
/-- the texts: nine words of lines, first, second, none, next, the empty one -/
def pz_len : List Nat := [5, 3, 7, 7, 7, 3, 4, 4, 5, 5, 6, 4, 4, 0]
def pz_byt : List (List Int32) := [[112, 114, 105, 99, 101], [116, 105, 101], [100, 101, 102, 97, 117, 108, 116], [100, 101, 112, 111, 115, 105, 116], [114, 101, 115, 101, 114, 118, 101], [116, 97, 120], [99, 111, 115, 116], [115, 104, 117, 116], [111, 102, 102, 101, 114], [102, 105, 114, 115, 116], [115, 101, 99, 111, 110, 100], [110, 111, 110, 101], [110, 101, 120, 116], []]
def pz_us : List Nat := [9, 9, 11, 13, 13, 13, 13, 13, 13]
def pz_ot : List Nat := [10, 11, 12, 13, 13, 13, 13, 13, 13]
def pz_stp : List Int32 := [0, 81, 9, 1]
/-- the numbers of classes, of their fields' slots, of array classes; the addresses of what stands still -/
abbrev pz_G : Type := va_G × (Nat → ClassId) × (Nat → Nat)
def pz_Ns (U : State) : Prop :=
  va_Nw (.methodLinkNest "StoneHall" 9 ⟨"StoneHall$Tape", "<init>", "()V"⟩ "StoneHall") U ∧
  va_Nw (.methodLinkNest "StoneHall" 18 ⟨"StoneHall$Customs", "<init>", "()V"⟩ "StoneHall") U ∧
  va_Nw (.methodLinkNest "StoneHall$Customs" 11 ⟨"StoneHall$Reader", "<init>", "()V"⟩ "StoneHall") U ∧
  va_Nw (.methodLinkNest "StoneHall" 25 ⟨"StoneHall$Chances", "<init>", "()V"⟩ "StoneHall") U ∧
  va_Nw (.methodLinkNest "StoneHall" 32 ⟨"StoneHall$Men", "<init>", "()V"⟩ "StoneHall") U ∧
  va_Nw (.methodLinkNest "StoneHall" 45 ⟨"StoneHall$Sale", "<init>", "()V"⟩ "StoneHall") U ∧
  va_Nw (.fieldLinkNest "StoneHall$Customs" 108 "StoneHall" "LINES" "[LStoneHall$Line;" "StoneHall") U ∧ va_AO "StoneHall$Boulder" U
theorem pz_Ns.warm {u U : State} (hW : u.WarmedH U.vm) (h : pz_Ns u) : pz_Ns U := by
  obtain ⟨h1, h2, h3, h4, h5, h6, h7, h8⟩ := h
  exact ⟨va_Nw.warmM hW h1, va_Nw.warmM hW h2, va_Nw.warmM hW h3, va_Nw.warmM hW h4, va_Nw.warmM hW h5, va_Nw.warmM hW h6, va_Nw.warmF hW h7, va_AO.moved hW.alike h8⟩
theorem pz_Ns.same {u U : State} (hv : U.vm = u.vm) (h : pz_Ns u) : pz_Ns U := by
  obtain ⟨h1, h2, h3, h4, h5, h6, h7, h8⟩ := h
  have hv' : u.vm.Alike U.vm := by rw [hv]; exact Vm.Alike.refl _
  exact ⟨va_Nw.same rfl hv.symm h1, va_Nw.same rfl hv.symm h2, va_Nw.same rfl hv.symm h3, va_Nw.same rfl hv.symm h4, va_Nw.same rfl hv.symm h5, va_Nw.same rfl hv.symm h6, va_Nw.same rfl hv.symm h7, va_AO.moved hv' h8⟩
def pz_St (g : pz_G) (A : Nat → Prop) (U : State) (H : Heap) : Prop :=
  va_En "StoneHall$Line" "LStoneHall$Line;" pz_nm pz_lf g.2.2 A U H ∧
  va_Z "StoneHall" "LINES" "[LStoneHall$Line;" (.ref (g.2.2 20)) A U H ∧
  va_T (.object "StoneHall$Line") (g.2.2 20) 9 (fun j => .ref (g.2.2 j)) A U H ∧
  va_Z "StoneHall$Chances" "STEPS" "[I" (.ref (g.2.2 21)) A U H ∧
  va_T .int (g.2.2 21) 4 (fun j => .int (pz_stp.getD j 0)) A U H ∧
  va_Ef 9 "StoneHall$Line" "word" "Ljava/lang/String;" (fun i => .ref (g.2.2 (30 + i))) g.2.2 A U H ∧
  va_Ef 9 "StoneHall$Line" "usual" "Ljava/lang/String;" (fun i => .ref (g.2.2 (30 + pz_us.getD i 13))) g.2.2 A U H ∧
  va_Ef 9 "StoneHall$Line" "other" "Ljava/lang/String;" (fun i => .ref (g.2.2 (30 + pz_ot.getD i 13))) g.2.2 A U H ∧
  vk_S 14 pz_len pz_byt (fun i => g.2.2 (30 + i)) (fun i => g.2.2 (60 + i)) A U H ∧
  va_Z "java/lang/String" "COMPACT_STRINGS" "Z" (.int 1) A U H ∧
  va_Zq "jdk/internal/util/Preconditions" "SIOOBE_FORMATTER" "Ljava/util/function/BiFunction;" A U H ∧
  vx_Zq "java/lang/Throwable" "UNASSIGNED_STACK" "[Ljava/lang/StackTraceElement;" A U H ∧
  vx_Zq "java/lang/Throwable" "SUPPRESSED_SENTINEL" "Ljava/util/List;" A U H ∧
  vk_R "StoneHall" 172 "no such boulder" (g.2.2 80) U ∧ vk_R "StoneHall" 185 "no such what" (g.2.2 81) U ∧ pz_Ns U
theorem pz_St.moved {g : pz_G} {A : Nat → Prop} {u U : State} {H : Heap} (hW : u.WarmedH U.vm) (h : pz_St g A u H) : pz_St g A U H := by
  obtain ⟨h1, h2, h3, h4, h5, h6, h7, h8, h9, h10, h11, h12, h13, h14, h15, h16⟩ := h
  have hv := hW.alike
  exact ⟨h1.moved hv, h2.moved hv, h3.moved hv, h4.moved hv, h5.moved hv, h6.moved hv, h7.moved hv, h8.moved hv, h9.moved hv, h10.moved hv, h11.moved hv, h12.moved hv, h13.moved hv, h14.warm hW, h15.warm hW, h16.warm hW⟩
theorem pz_St.kept {g : pz_G} {A : Nat → Prop} {U : State} {H H1 : Heap} (h : pz_St g A U H) (hq : ∀ a : Nat, a < H.size → ¬ A a → H1[a]? = H[a]?) : pz_St g A U H1 := by
  obtain ⟨h1, h2, h3, h4, h5, h6, h7, h8, h9, h10, h11, h12, h13, h14, h15, h16⟩ := h
  exact ⟨h1.kept hq, h2.kept hq, h3.kept hq, h4.kept hq, h5.kept hq, h6.kept hq, h7.kept hq, h8.kept hq, h9.kept hq, h10.kept hq, h11.kept hq, h12.kept hq, h13.kept hq, h14, h15, h16⟩
theorem pz_St.narrow {g : pz_G} {A B : Nat → Prop} {U : State} {H : Heap} (h : pz_St g A U H) (hAB : ∀ q, B q → A q) : pz_St g B U H := by
  obtain ⟨h1, h2, h3, h4, h5, h6, h7, h8, h9, h10, h11, h12, h13, h14, h15, h16⟩ := h
  exact ⟨h1.narrow hAB, h2.narrow hAB, h3.narrow hAB, h4.narrow hAB, h5.narrow hAB, h6.narrow hAB, h7.narrow hAB, h8.narrow hAB, h9.narrow hAB, h10.narrow hAB, h11.narrow hAB, h12.narrow hAB, h13.narrow hAB, h14, h15, h16⟩
theorem pz_St.same {g : pz_G} {A : Nat → Prop} {u U : State} {H : Heap} (hv : U.vm = u.vm) (h : pz_St g A u H) : pz_St g A U H := by
  obtain ⟨h1, h2, h3, h4, h5, h6, h7, h8, h9, h10, h11, h12, h13, h14, h15, h16⟩ := h
  have hv' : u.vm.Alike U.vm := by rw [hv]; exact Vm.Alike.refl _
  exact ⟨h1.moved hv', h2.moved hv', h3.moved hv', h4.moved hv', h5.moved hv', h6.moved hv', h7.moved hv', h8.moved hv', h9.moved hv', h10.moved hv', h11.moved hv', h12.moved hv', h13.moved hv', h14.same hv, h15.same hv, h16.same hv⟩
end PZS
