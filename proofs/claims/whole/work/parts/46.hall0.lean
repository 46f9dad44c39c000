section PZH
variable {B : pz_B} {cc : ByteArray} {nL : Nat} {ret : Option FieldType} {own : String} {g : pz_G} {R : Room} {k n pc : Nat} {lv lv' : List (Nat × Value)} {st : List Value} {ws ws' w1 : va_W}
/-- a contract whose answer is one known reference, or null -/
def pz_pw {S : Type} (v : Value) (post : S → Prop) (w : S → va_W) : Option Value → va_W → Prop := fun r w1 => ∃ (u : S), r = some v ∧ w1 = w u ∧ post u
theorem pz_clsB {s : State} (hK : va_K g.1 vwCl (pz_tys g) s) {cA : ClassId} (hA : va_RA s cA (.object "StoneHall$Boulder")) : cA = g.2.1 4 := by
  obtain ⟨_, _, -, -, -, h1⟩ := (hK.2 4 (g.2.1 4, .object "StoneHall$Boulder") rfl).2
  obtain ⟨_, _, -, -, -, h2⟩ := hA
  exact Option.some.inj (Eq.trans (Eq.symm h2) h1)
/-- a row of boulders -/
theorem pz_newq {x : Int32} {N' ix : Nat} (F : pz_F B cc nL ret own g R) (hw : Cond.classLink own ix "StoneHall$Boulder" ∈ pz_T) (hx : ¬ x < 0) (hN : x.toNatClampNeg = N') (hby : N' * 4 ≤ 536870912) (hcs : k + 1 ≤ R.cells ∧ n + N' ≤ R.slots) (d : decode cc pc = .ok (.anewarray ix, 3))
    (h : ∀ q : Nat, pz_At B (k + 1) (n + N') (pc + 3) lv (.ref q :: st) (ws ++ [(q, .inl (g.2.1 4, N', .inr (.inr (.inr (.inr (fun _ => none))))))])) : pz_At B k n pc lv (.int x :: st) ws := by
  intro ls H locs hl hP hD hS
  have hRR := F.2.2.2.2.2.2.2.2.2.2.1
  have hG := F.2.2.2.2.2.2.2.2.2.1
  refine va_newq F.1 F.2.1 F.2.2.2.2.1 (F.2.2.2.2.2.1 _ hw) (pz_nest F).2.2.2.2.2.2.2 F.2.2.2.2.2.2.1 (by rw [← hG]; exact hP) hD hS F.2.2.2.2.2.2.2.1 hx hN hby (by rw [hRR]; exact hcs.1) (by rw [hRR]; exact hcs.2) d (fun q cA H1 hK1 hP1 hD1 hS1 => ?_)
  have e : cA = g.2.1 4 := pz_clsB F.2.2.2.2.2.2.1 (hK1.2 5 (cA, .object "StoneHall$Boulder") rfl).2
  subst e
  exact h q ls H1 locs hl (by rw [hG]; exact hP1) hD1 hS1
theorem pu_inM {m : Int32} {M N : Nat} (h : M ≤ N) (hN : N < 2 ^ 31) (q1 : ¬ m < 0) (q2 : ¬ nI M ≤ m) : vp_in m N := by
  have h1 : vp_in m M := pu_in1 q1 q2 (nI_toInt (by omega))
  exact fun h2 => h1 (h2.imp id (fun z => Nat.le_trans h z))
/-- the five numbers of a feed -/
def fe_w (a b c d e : Int32) (j : Nat) : Int32 := if j = 0 then a else if j = 1 then b else if j = 2 then c else if j = 3 then d else e
def fe_b (w : Int32) (j : Nat) : Int32 := (w >>> (nI (24 - 8 * j) &&& 31)).toInt8.toInt32
end PZH
