/-! ===== calls in pairs ===== -/
section PZQ
variable (l : Launch) (g : pz_G) (ad rd : Nat → Nat)
theorem pr_fault (w : Int32) : pr_I l g ad rd yX8_fault cX8_fault 2 yX9_fault cX9_fault 2 (some .int) [.int w] := by
  intro s t n hR hn
  refine ⟨_, _, ⟨rmX8_fault, by decide, ocX8_fault l g ad s w⟩, ⟨rmX9_fault, by decide, ocX9_fault l g rd t w⟩, ?_⟩
  rintro r s' r' t' ⟨u, h1, rfl⟩ ⟨u', h2, rfl⟩
  obtain ⟨hc, hT, hRu, hf, hG, hK, hM, hB, hS, hh, hW⟩ := hR
  refine ⟨?_, hc, hT, hRu, hf, hG, hK, rl_M_le hM, hB, hS, hh, hW⟩
  rw [h1, h2, hf.1, hf.2]
theorem pr_sale (w : Int32) : pr_I l g ad rd yX8_sale cX8_sale 2 yX9_sale cX9_sale 2 (some .int) [.int w] := by
  intro s t n hR hn
  refine ⟨_, _, ⟨rmX8_sale, by decide, ocX8_sale l g ad s w⟩, ⟨rmX9_sale, by decide, ocX9_sale l g rd t w⟩, ?_⟩
  rintro r s' r' t' ⟨u, h1, rfl⟩ ⟨u', h2, rfl⟩
  obtain ⟨hc, hT, hRu, hf, hG, hK, hM, hB, hS, hh, hW⟩ := hR
  refine ⟨?_, hc, hT, hRu, hf, hG, hK, rl_M_le hM, hB, hS, hh, hW⟩
  rw [h1, h2, hS.1, hS.2.1, hS.2.2.1, hS.2.2.2.1, hS.2.2.2.2]
theorem pr_count (w : Int32) : pr_I l g ad rd yX8_count cX8_count 2 yX9_count cX9_count 2 (some .int) [.int w] := by
  intro s t n hR hn
  refine ⟨_, _, ⟨rmX8_count, by decide, ocX8_count l g ad s w⟩, ⟨rmX9_count, by decide, ocX9_count l g rd t w⟩, ?_⟩
  rintro r s' r' t' ⟨u, h1, rfl⟩ ⟨u', h2, rfl⟩
  obtain ⟨hc, hT, hRu, hf, hG, hK, hM, hB, hS, hh, hW⟩ := hR
  refine ⟨?_, hc, hT, hRu, hf, hG, hK, rl_M_le hM, hB, hS, hh, hW⟩
  rw [h1, h2, hc.2.1, hc.2.2.1, hc.2.2.2.1, hc.2.2.2.2, hh]
theorem pr_purse (m : Int32) : pr_I l g ad rd yX8_purse cX8_purse 2 yX9_purse cX9_purse 2 (some .int) [.int m] := by
  intro s t n hR hn
  obtain ⟨hc, hT, hRu, hf, hG, hK, hM, hB, hS, hh, hW⟩ := hR
  have hM8 : rs_rn t 3 ≤ 8 := by have := hM.1; have := hc.2.2.2.1; omega
  refine ⟨_, _, ⟨rmX8_purse, by decide, ocX8_purse l g ad s m hM.1⟩, ⟨rmX9_purse, by decide, ocX9_purse l g rd t m hM8⟩, ?_⟩
  rintro r s' r' t' ⟨u, h1, rfl⟩ ⟨u', h2, rfl⟩
  refine ⟨?_, hc, hT, hRu, hf, hG, hK, rl_M_le hM, hB, hS, hh, hW⟩
  rw [h1, h2, hc.2.2.2.1]
  by_cases q : m < 0
  · rw [if_pos q, if_pos q]
  · rw [if_neg q, if_neg q]
    by_cases q2 : nI (rs_rn t 3) ≤ m
    · rw [if_pos q2, if_pos q2]
    · rw [if_neg q2, if_neg q2]
      obtain ⟨v, hv, e⟩ := vp_in_of (pu_inM hM8 (by decide) q q2) (by decide)
      rw [e, nI_clamp (by omega)]
      exact (hM.2 v hv).1
/-- from the 'if' of the class to the cases of the reference -/
theorem rl_add {c mx r x : Int32} {G b : Nat} {f f2 : Nat → Int32} {g2 : Int32} (hG : G ≤ b) (hb : b < 100) (hbx : x = nI b) (h : if c < 0 then r = -1 ∧ f2 = f ∧ g2 = nI G else if mx < c then r = -1 ∧ f2 = f ∧ g2 = nI G else if nI G < x then r = nI G + 1 - 1 ∧ f2 = upd f (nI G).toNatClampNeg c ∧ g2 = nI G + 1 else r = -1 ∧ f2 = f ∧ g2 = nI G) :
    ((¬ c < 0 ∧ ¬ mx < c ∧ G < b) ∧ r = nI G ∧ f2 = upd f G c ∧ g2 = nI (G + 1)) ∨ (¬ (¬ c < 0 ∧ ¬ mx < c ∧ G < b) ∧ r = -1 ∧ f2 = f ∧ g2 = nI G) := by
  by_cases q1 : c < 0
  · rw [if_pos q1] at h
    exact Or.inr ⟨fun z => z.1 q1, h⟩
  · rw [if_neg q1] at h
    by_cases q2 : mx < c
    · rw [if_pos q2] at h
      exact Or.inr ⟨fun z => z.2.1 q2, h⟩
    · rw [if_neg q2] at h
      subst hbx
      by_cases q3 : nI G < nI b
      · rw [if_pos q3] at h
        have q4 := (nI_ltI (by omega) (by omega)).mp q3
        refine Or.inl ⟨⟨q1, q2, q4⟩, ?_, ?_, ?_⟩
        · rw [h.1, nI_1, nI_pred]
        · rw [h.2.1, nI_clamp (by omega)]
        · rw [h.2.2, nI_1]
      · rw [if_neg q3] at h
        exact Or.inr ⟨fun z => q3 ((nI_ltI (by omega) (by omega)).mpr z.2.2), h⟩
theorem rl_up {f h : Nat → Int32} {v : Int32} {i j : Nat} (e : f j = h j) : upd f i v j = upd h i v j := by
  by_cases q : j = i
  · rw [q, pk_us, pk_us]
  · rw [pk_un q, pk_un q, e]
theorem rl_rng {c mx : Int32} {b : Nat} (hb : mx = nI b) (hb2 : b < 2 ^ 31) (h1 : ¬ c < 0) (h2 : ¬ mx < c) : rl_in c b := by
  obtain ⟨j, hj, e⟩ := nI_of h1
  refine ⟨j, ?_, e⟩
  rw [hb, e, nI_ltI hb2 hj] at h2
  omega
theorem pr_grade (c : Int32) : pr_I l g ad rd yX8_grade cX8_grade 2 yX9_grade cX9_grade 2 (some .int) [.int c] := by
  intro s t n hR hn
  obtain ⟨hc, hT, hRu, hf, hG, hK, hM, hB, hS, hh, hW⟩ := hR
  have hG4 := hG.1
  have hG4' : rs_rn t 1 ≤ 4 := by have := hc.2.1; omega
  refine ⟨_, _, ⟨rmX8_grade, by decide, ocX8_grade l g ad s c (nI_pos (by omega)) (fun r u h => ?_)⟩, ⟨rmX9_grade, by decide, ocX9_grade l g rd t c hG4' (fun r u h => ?_)⟩, ?_⟩
  · rcases rl_add hG4 (by omega) rfl h with h | h
    · rw [h.2.2.2, nI_clamp (by omega)]
    · rw [h.2.2.2, nI_clamp (by omega)]
  · rcases h with h | h
    · rw [h.2.2.1, nI_clamp (by omega)]
    · rw [h.2.2.1, nI_clamp (by omega)]
  rintro r s' r' t' ⟨u, h1, rfl⟩ ⟨u', h2, rfl⟩
  have e := hc.2.1
  rcases rl_add hG4 (by omega) rfl h1 with ⟨q, h1⟩ | ⟨q, h1⟩
  · rcases h2 with ⟨_, h2⟩ | ⟨q2, h2⟩
    · obtain ⟨u1, u2⟩ := u
      obtain ⟨u1', u2'⟩ := u'
      obtain ⟨e1, rfl, rfl⟩ := h1
      obtain ⟨e2, rfl, rfl⟩ := h2
      refine ⟨by rw [e1, e2, e], ⟨hc.1, ?_, hc.2.2⟩, hT, hRu, hf, ⟨?_, fun j hj => ?_⟩, ⟨hK.1, fun k hk => ?_⟩, rl_M_le hM, hB, hS, hh, hW⟩
      · show (nI (cs_cn s 1 + 1)).toNatClampNeg = (nI (rs_rn t 1 + 1)).toNatClampNeg
        rw [e]
      · show (nI (cs_cn s 1 + 1)).toNatClampNeg ≤ 4
        rw [nI_clamp (by omega)]
        omega
      · show upd (cs_cf s 4) (cs_cn s 1) c j = upd (rs_rf t 1) (rs_rn t 1) c j ∧ rl_in (upd (cs_cf s 4) (cs_cn s 1) c j) 999
        rw [e]
        refine ⟨rl_up (hG.2 j hj).1, ?_⟩
        by_cases qj : j = rs_rn t 1
        · rw [qj, pk_us]
          exact rl_rng (mx := 999) rfl (by omega) q.1 q.2.1
        · rw [pk_un qj]
          exact (hG.2 j hj).2
      · obtain ⟨a1, a2, a3, ⟨w, a4, a5⟩, a6⟩ := hK.2 k hk
        refine ⟨a1, a2, a3, ⟨w, fun q hq => ⟨(a4 q hq).1, fun z => (a4 q hq).2 ?_⟩, a5⟩, a6⟩
        have z2 : (nI (cs_cn s 1 + 1)).toNatClampNeg ≤ q := z
        rw [nI_clamp (by omega)] at z2
        omega
    · exact absurd ⟨q.1, q.2.1, by omega⟩ q2
  · rcases h2 with ⟨q2, h2⟩ | ⟨_, h2⟩
    · exact absurd ⟨q2.1, q2.2.1, by omega⟩ q
    · obtain ⟨u1, u2⟩ := u
      obtain ⟨u1', u2'⟩ := u'
      obtain ⟨e1, rfl, rfl⟩ := h1
      obtain ⟨e2, rfl, rfl⟩ := h2
      have z1 : (nI (cs_cn s 1)).toNatClampNeg = cs_cn s 1 := nI_clamp (by omega)
      have z2 : (nI (rs_rn t 1)).toNatClampNeg = rs_rn t 1 := nI_clamp (by omega)
      refine ⟨by rw [e1, e2], ⟨hc.1, ?_, hc.2.2⟩, hT, hRu, hf, ⟨?_, hG.2⟩, ⟨hK.1, ?_⟩, rl_M_le hM, hB, hS, hh, hW⟩
      · show (nI (cs_cn s 1)).toNatClampNeg = (nI (rs_rn t 1)).toNatClampNeg
        rw [e]
      · show (nI (cs_cn s 1)).toNatClampNeg ≤ 4
        omega
      · show ∀ k, k < cs_cn s 2 → _ ∧ _ ∧ _ ∧ rl_k (nI (cs_cn s 1)).toNatClampNeg k _ ∧ _
        rw [z1]
        exact hK.2
end PZQ
