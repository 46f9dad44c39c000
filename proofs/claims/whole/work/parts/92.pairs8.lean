section PZQ8
variable (l : Launch) (g : pz_G) (ad rd : Nat → Nat)
def rl_mx (a : Nat) : Nat := if a = 3 then 100 else if a = 4 then 99999 else if a = 5 then 100 else 999
def rl_v (a : Nat) (x : Int32) : Prop := if a < 3 then x = 0 ∨ x = 1 else rl_in x (rl_mx a)
theorem rl_ru_of {f : Nat → Int32} (h : ∀ a, a < 12 → rl_v a (f a)) : rl_ru f := by
  refine ⟨fun j hj => ?_, ?_, ?_, ?_, fun j h1 h2 => ?_⟩
  · have := h j (by omega)
    rw [rl_v, if_pos hj] at this
    exact this
  · exact h 3 (by omega)
  · exact h 4 (by omega)
  · exact h 5 (by omega)
  · have := h j h2
    rw [rl_v, if_neg (by omega), rl_mx, if_neg (by omega), if_neg (by omega), if_neg (by omega)] at this
    exact this
theorem rl_v0 (a : Nat) : rl_v a 0 := by
  unfold rl_v
  split
  · exact Or.inl rfl
  · exact ⟨0, by omega, nI_0.symm⟩
/-- what a line says is in its range -/
theorem pl_say_v {c : Nat → Int32} {e j li a : Nat} (hj : j ≤ e) (hli : li < 9) (ha : a = li ∨ (li = 8 ∧ 8 ≤ a)) (h : (pl_say c e j li).1 = 0) : rl_v a (pl_say c e j li).2 := by
  unfold pl_say at h ⊢
  by_cases q : pz_ln (pz_us.getD li 13) = 0
  · rw [if_pos q] at h ⊢
    by_cases q2 : tk_k c e j = 2
    · rw [if_pos q2] at h ⊢
      by_cases q3 : tk_n c e j ≤ pz_mo li
      · rw [if_pos q3]
        show rl_v a (tk_n c e j)
        obtain ⟨v, hv, ev⟩ := tk_n_in hj q2
        have h3 : ¬ li < 3 := fun z => by
          rcases (show li = 0 ∨ li = 1 ∨ li = 2 by omega) with rfl | rfl | rfl <;> exact absurd q (by decide)
        have hm : pz_mo li = nI (rl_mx a) := by
          rcases ha with rfl | ⟨rfl, ha⟩
          · rcases (show a = 3 ∨ a = 4 ∨ a = 5 ∨ a = 6 ∨ a = 7 ∨ a = 8 by omega) with rfl | rfl | rfl | rfl | rfl | rfl <;> rfl
          · rw [rl_mx, if_neg (by omega), if_neg (by omega), if_neg (by omega)]; rfl
        have hmx : rl_mx a ≤ 99999 := by
          unfold rl_mx
          split
          · omega
          · split
            · omega
            · split <;> omega
        rw [rl_v, if_neg (by omega)]
        rw [ev, hm, nI_leI (by omega) (by omega)] at q3
        exact ⟨v, q3, ev⟩
      · rw [if_neg q3] at h
        exact absurd h (by decide)
    · rw [if_neg q2] at h
      exact absurd h (by decide)
  · rw [if_neg q] at h ⊢
    have h3 : li < 3 := by
      rcases (show li < 3 ∨ li = 3 ∨ li = 4 ∨ li = 5 ∨ li = 6 ∨ li = 7 ∨ li = 8 by omega) with z | rfl | rfl | rfl | rfl | rfl | rfl
      · exact z
      all_goals exact absurd (by decide) q
    rw [rl_v, if_pos (by omega)]
    split
    · exact Or.inr rfl
    · split
      · exact Or.inl rfl
      · exact Or.inl rfl
theorem pl_end_v {c : Nat → Int32} {e j li sl : Nat} (hj : j ≤ e) (hli : li < 9) (hs : sl < 12) (ha : sl = li ∨ (li = 8 ∧ 8 ≤ sl)) (h : (pl_end c e j li sl).1 = 0) : (pl_end c e j li sl).2.2.2.1 < 12 ∧ rl_v (pl_end c e j li sl).2.2.2.1 (pl_end c e j li sl).2.2.2.2 := by
  unfold pl_end at h ⊢
  by_cases q : (pl_say c e j li).1 = 0
  · rw [if_pos q] at h ⊢
    by_cases q2 : tk_k c e (tk_e c e j) = 3
    · rw [if_pos q2]
      exact ⟨hs, pl_say_v hj hli ha q⟩
    · rw [if_neg q2] at h
      exact absurd h pu_n1
  · rw [if_neg q] at h
    exact absurd h q
theorem pl_nI {c : Nat → Int32} {e j : Nat} (hj : j ≤ e) (hk : tk_k c e j = 2) (h3 : tk_n c e j ≤ 3) : ∃ v, v ≤ 3 ∧ (tk_n c e j).toNatClampNeg = v := by
  obtain ⟨v, hv, ev⟩ := tk_n_in hj hk
  rw [ev, show (3 : Int32) = nI 3 from rfl, nI_leI (by omega) (by omega)] at h3
  exact ⟨v, h3, by rw [ev, nI_clamp (by omega)]⟩
theorem pl_line_v {c : Nat → Int32} {e j : Nat} {to : Nat → Int32} (hj : j ≤ e) (h : (pl_line c e to j).1 = 0) : (pl_line c e to j).2.2.2.1 < 12 ∧ rl_v (pl_line c e to j).2.2.2.1 (pl_line c e to j).2.2.2.2 := by
  have e1 := (tk_e_in (c := c) hj).2
  have e2 := (tk_e_in (c := c) e1).2
  unfold pl_line at h ⊢
  cases ew : tk_l c e j with
  | none => rw [ew] at h; exact absurd h pu_n1
  | some w =>
    rw [ew] at h
    have hw := tk_l_lt ew
    dsimp only at h ⊢
    by_cases q : w = 8
    · rw [if_pos q] at h ⊢
      by_cases q2 : tk_k c e (tk_e c e j) = 2
      · rw [if_pos q2] at h ⊢
        by_cases q3 : tk_n c e (tk_e c e j) ≤ 3
        · rw [if_pos q3] at h ⊢
          obtain ⟨v, hv, ev⟩ := pl_nI e1 q2 q3
          rw [ev] at h ⊢
          by_cases q4 : to (8 + v) = 0
          · rw [if_pos q4] at h ⊢
            exact pl_end_v e2 (by omega) (by omega) (Or.inr ⟨rfl, by omega⟩) h
          · rw [if_neg q4] at h; exact absurd h pu_n3
        · rw [if_neg q3] at h; exact absurd h pu_n2
      · rw [if_neg q2] at h; exact absurd h pu_n1
    · rw [if_neg q] at h ⊢
      by_cases q4 : to w = 0
      · rw [if_pos q4] at h ⊢
        exact pl_end_v e1 hw (by omega) (Or.inl rfl) h
      · rw [if_neg q4] at h; exact absurd h pu_n3
theorem pl_line_cg {c : Nat → Int32} {e j : Nat} {to to' : Nat → Int32} (hj : j ≤ e) (h : ∀ a, a < 12 → to a = to' a) : pl_line c e to j = pl_line c e to' j := by
  have e1 := (tk_e_in (c := c) hj).2
  unfold pl_line
  cases ew : tk_l c e j with
  | none => rfl
  | some w =>
    have hw := tk_l_lt ew
    dsimp only
    by_cases q : w = 8
    · rw [if_pos q, if_pos q]
      by_cases q2 : tk_k c e (tk_e c e j) = 2
      · rw [if_pos q2, if_pos q2]
        by_cases q3 : tk_n c e (tk_e c e j) ≤ 3
        · rw [if_pos q3, if_pos q3]
          obtain ⟨v, hv, ev⟩ := pl_nI e1 q2 q3
          rw [ev, h (8 + v) (by omega)]
        · rw [if_neg q3, if_neg q3]
      · rw [if_neg q2, if_neg q2]
    · rw [if_neg q, if_neg q, h w (by omega)]
theorem pl_read_v {c : Nat → Int32} {e : Nat} : ∀ (f j lines : Nat) (dr to : Nat → Int32), j ≤ e → (∀ a, a < 12 → rl_v a (dr a)) → ∀ a, a < 12 → rl_v a ((pl_read c e f j lines dr to).2.2.2 a) := by
  intro f
  induction f with
  | zero => intro j lines dr to _ h; exact h
  | succ f ih =>
    intro j lines dr to hj h
    rw [pl_read]
    by_cases q : tk_k c e j = 0
    · rw [if_pos q]; exact h
    · rw [if_neg q]
      by_cases q2 : (pl_line c e to j).1 = 0
      · rw [if_pos q2]
        have hv := pl_line_v hj q2
        refine ih _ _ _ _ (pl_line_go hj q2).2 (fun a ha => ?_)
        by_cases z : a = (pl_line c e to j).2.2.2.1
        · rw [z, pk_us]; exact hv.2
        · rw [pk_un z]; exact h a ha
      · rw [if_neg q2]; exact h
theorem pl_read_cg {c : Nat → Int32} {e : Nat} : ∀ (f j lines : Nat) (dr to dr' to' : Nat → Int32), j ≤ e → (∀ a, a < 12 → dr a = dr' a) → (∀ a, a < 12 → to a = to' a) → (pl_read c e f j lines dr to).1 = (pl_read c e f j lines dr' to').1 ∧ (pl_read c e f j lines dr to).2.1 = (pl_read c e f j lines dr' to').2.1 ∧ (pl_read c e f j lines dr to).2.2.1 = (pl_read c e f j lines dr' to').2.2.1 ∧ ∀ a, a < 12 → (pl_read c e f j lines dr to).2.2.2 a = (pl_read c e f j lines dr' to').2.2.2 a := by
  intro f
  induction f with
  | zero => intro j lines dr to dr' to' _ h _; exact ⟨rfl, rfl, rfl, h⟩
  | succ f ih =>
    intro j lines dr to dr' to' hj h h2
    rw [pl_read, pl_read]
    by_cases q : tk_k c e j = 0
    · rw [if_pos q, if_pos q]; exact ⟨rfl, rfl, rfl, h⟩
    · rw [if_neg q, if_neg q, ← pl_line_cg hj h2]
      by_cases q2 : (pl_line c e to j).1 = 0
      · rw [if_pos q2, if_pos q2]
        exact ih _ _ _ _ _ _ (pl_line_go hj q2).2 (fun a ha => rl_up (h a ha)) (fun a ha => rl_up (h2 a ha))
      · rw [if_neg q2, if_neg q2]; exact ⟨rfl, rfl, rfl, h⟩
theorem pr_customs (x : Int32) : pr_I l g ad rd yX8_customs cX8_customs 3 yX9_customs cX9_customs 4 (some .int) [.int x] := by
  intro s t n hR hn
  obtain ⟨hc, hT, hRu, hf, hG, hK, hM, hB, hS, hh, hW⟩ := hR
  have hT4 := hT.1
  have eT := hc.1
  by_cases hx : x < 0 ∨ nI (cs_cn s 0) < x
  · refine ⟨_, _, ⟨rmX8_customs_R, by decide, ocX8_customs_R l g ad s x 0 hx⟩, ⟨rmX9_customs_R, by decide, ocX9_customs_R l g rd t x (by rw [← eT]; exact hx)⟩, ?_⟩
    rintro r s' r' t' ⟨u, h1, rfl⟩ ⟨u', h2, rfl⟩
    exact ⟨h1.trans h2.symm, hc, hT, hRu, hf, hG, hK, rl_M_le hM, hB, hS, hh, hW⟩
  · obtain ⟨e, he, rfl⟩ : ∃ e, e ≤ cs_cn s 0 ∧ x = nI e := by
      rcases Decidable.em (x < 0) with z | z
      · exact absurd (Or.inl z) hx
      · exact nI_of2 (M := nI (cs_cn s 0)) (nI_toInt (by omega)) z (Int32.not_lt.mp (fun z2 => hx (Or.inr z2)))
    refine ⟨_, _, ⟨rmX8_customs_T, by decide, ocX8_customs_T l g ad s (nI e) e ⟨he, hT4, rfl, rfl⟩⟩, ⟨rmX9_customs_T, by decide, ocX9_customs_T l g rd t e ⟨by omega, by omega, hW, rfl⟩⟩, ?_⟩
    rintro r s' r' t' ⟨⟨u1, u2, u3, u4, u5, u6, u7, u8, u9⟩, ⟨d0, t0, hd0, ht0, h1⟩, rfl⟩ ⟨⟨v1, v2, v3, v4, v5, v6, v7, v8, v9⟩, h2, rfl⟩
    dsimp only at h1 h2 ⊢
    have ec : pu_cs (cs_cf s 0) e = rt_c (rs_rf t 0) e := by
      funext j
      unfold pu_cs rt_c
      by_cases q : j < e
      · rw [if_pos q, if_pos q]; exact hT.2 j (by omega)
      · rw [if_neg q, if_neg q]
    rw [ec] at h1
    obtain ⟨k1, k2, k3, k4⟩ := pl_read_cg (c := rt_c (rs_rf t 0) e) (e := e) (e + 1) 0 0 d0 t0 (fun _ => 0) (fun _ => 0) (Nat.zero_le _) hd0 ht0
    have kv := pl_read_v (c := rt_c (rs_rf t 0) e) (e := e) (e + 1) 0 0 (fun _ => 0) (fun _ => 0) (Nat.zero_le _) (fun a _ => rl_v0 a)
    rw [k1, k2, k3] at h1
    rcases h1 with ⟨q1, h1, rfl, rfl, h3⟩ | ⟨q1, h1, rfl, rfl, rfl⟩
    · rcases h2 with ⟨_, h2, rfl, rfl, h4⟩ | ⟨q2, _⟩
      · refine ⟨h1.trans h2.symm, ⟨rfl, hc.2⟩, ⟨Nat.zero_le _, fun j hj => absurd hj (by show ¬ j < 0; omega)⟩, ⟨fun a ha => ?_, rl_ru_of (fun a ha => ?_)⟩, ⟨rfl, rfl⟩, hG, hK, rl_M_le hM, hB, hS, hh, hW⟩
        · show u9 a = v8 a
          rw [h3 a ha, h4 a ha, k4 a ha]
        · show rl_v a (u9 a)
          rw [h3 a ha, k4 a ha]
          exact kv a ha
      · exact absurd q1 q2
    · rcases h2 with ⟨q2, _⟩ | ⟨_, h2, rfl, rfl, h4⟩
      · exact absurd q2 q1
      · refine ⟨h1.trans h2.symm, ⟨rfl, hc.2⟩, ⟨Nat.zero_le _, fun j hj => absurd hj (by show ¬ j < 0; omega)⟩, ⟨fun a ha => ?_, hRu.2⟩, ⟨rfl, rfl⟩, hG, hK, rl_M_le hM, hB, hS, hh, hW⟩
        show cs_cf s 1 a = v8 a
        rw [h4 a ha, hRu.1 a ha]
end PZQ8
