/-! ===== states as tables ===== -/
section PZT
abbrev cs_S : Type := (Nat → Nat) × (Nat → Int32) × (Nat → Nat → Int32) × (Nat → Int64) × (Nat → Nat → Int64) × (Option Nat) × (Nat → Option Nat) × (Nat → Nat → Nat) × (Nat → Nat → Nat) × (Nat → Nat → Int32) × (Nat → Nat → Nat → Int32)
abbrev rs_S : Type := (Nat → Nat) × (Nat → Int32) × (Nat → Nat → Int32) × (Nat → Int64) × (Nat → Nat → Int64)
abbrev cs_cn (s : cs_S) : Nat → Nat := s.1
abbrev cs_ci (s : cs_S) : Nat → Int32 := s.2.1
abbrev cs_cf (s : cs_S) : Nat → Nat → Int32 := s.2.2.1
abbrev cs_cl (s : cs_S) : Nat → Int64 := s.2.2.2.1
abbrev cs_cF (s : cs_S) : Nat → Nat → Int64 := s.2.2.2.2.1
abbrev cs_cz (s : cs_S) : Option Nat := s.2.2.2.2.2.1
abbrev cs_cq (s : cs_S) : Nat → Option Nat := s.2.2.2.2.2.2.1
abbrev cs_ba (s : cs_S) : Nat → Nat → Nat := s.2.2.2.2.2.2.2.1
abbrev cs_bn (s : cs_S) : Nat → Nat → Nat := s.2.2.2.2.2.2.2.2.1
abbrev cs_bi (s : cs_S) : Nat → Nat → Int32 := s.2.2.2.2.2.2.2.2.2.1
abbrev cs_bf (s : cs_S) : Nat → Nat → Nat → Int32 := s.2.2.2.2.2.2.2.2.2.2
abbrev rs_rn (t : rs_S) : Nat → Nat := t.1
abbrev rs_ri (t : rs_S) : Nat → Int32 := t.2.1
abbrev rs_rf (t : rs_S) : Nat → Nat → Int32 := t.2.2.1
abbrev rs_rl (t : rs_S) : Nat → Int64 := t.2.2.2.1
abbrev rs_rF (t : rs_S) : Nat → Nat → Int64 := t.2.2.2.2
def st_u {α : Type} (f : Nat → α) (i : Nat) (v : α) : Nat → α := fun j => if j = i then v else f j
theorem st_us {α : Type} {f : Nat → α} {i : Nat} {v : α} : st_u f i v i = v := if_pos rfl
theorem st_un {α : Type} {f : Nat → α} {i j : Nat} {v : α} (h : j ≠ i) : st_u f i v j = f j := if_neg h
def cw_fix (g : pz_G) (ad : Nat → Nat) (s : cs_S) : va_W := [((ad 0), .inr (7, [.ref (ad 1), .ref (ad 3), .ref (ad 8), .ref (ad 17), .ref (ad 20), .ref (ad 21), .int (nI (cs_cn s 4)), .int (cs_ci s 18)])), ((ad 1), .inr (6, [.ref (ad 2), .int (nI (cs_cn s 0))])), ((ad 2), .inl (g.2.1 0, 400, .inl (cs_cf s 0))), ((ad 3), .inr (2, [.ref (ad 4), .ref (ad 5), .ref (ad 6), .ref (ad 7), .int (cs_ci s 1), .int (cs_ci s 2)])), ((ad 4), .inr (4, [va_rf (cs_cz s), .int (cs_ci s 3), .int (cs_ci s 4), .int (cs_ci s 5), .int (cs_ci s 6), .int (cs_ci s 7)])), ((ad 5), .inl (g.2.1 1, 12, .inl (cs_cf s 1))), ((ad 6), .inl (g.2.1 1, 12, .inl (cs_cf s 2))), ((ad 7), .inl (g.2.1 3, 12, .inl (cs_cf s 3))), ((ad 8), .inr (1, [.ref (ad 9), .int (nI (cs_cn s 1)), .int (nI (cs_cn s 2)), .ref (ad 10), .ref (ad 11), .ref (ad 12), .ref (ad 13), .long (cs_cl s 0), .ref (ad 14), .ref (ad 15), .ref (ad 16), .long (cs_cl s 1), .long (cs_cl s 2)])), ((ad 9), .inl (g.2.1 1, 4, .inl (cs_cf s 4))), ((ad 10), .inl (g.2.1 1, 3, .inl (cs_cf s 5))), ((ad 11), .inl (g.2.1 1, 12, .inl (cs_cf s 6))), ((ad 12), .inl (g.2.1 2, 108, .inr (.inl (cs_cF s 0)))), ((ad 13), .inl (g.2.1 2, 3, .inr (.inl (cs_cF s 1)))), ((ad 14), .inl (g.2.1 1, 4, .inl (cs_cf s 7))), ((ad 15), .inl (g.2.1 2, 3, .inr (.inl (cs_cF s 2)))), ((ad 16), .inl (g.2.1 2, 729, .inr (.inl (cs_cF s 3)))), ((ad 17), .inr (3, [.ref (ad 18), .ref (ad 19), .int (nI (cs_cn s 3))])), ((ad 18), .inl (g.2.1 1, 8, .inl (cs_cf s 8))), ((ad 19), .inl (g.2.1 1, 8, .inl (cs_cf s 9))), ((ad 20), .inl (g.2.1 4, 10, .inr (.inr (.inr (.inr (cs_cq s)))))), ((ad 21), .inr (5, [.ref (ad 22), .ref (ad 23), .int (cs_ci s 11), .int (cs_ci s 12), .int (cs_ci s 13), .int (cs_ci s 14), .int (cs_ci s 15), .int (cs_ci s 16)])), ((ad 22), .inl (g.2.1 1, 8, .inl (cs_cf s 10))), ((ad 23), .inl (g.2.1 1, 8, .inl (cs_cf s 11)))]
def bo_c (g : pz_G) (s : cs_S) (jb : Nat) : va_W := [((cs_ba s jb 0), .inr (0, [.int (nI (cs_bn s jb 0)), .int (cs_bi s jb 0), .ref (cs_ba s jb 1), .ref (cs_ba s jb 2), .ref (cs_ba s jb 3), .int (nI (cs_bn s jb 2)), .int (nI (cs_bn s jb 1)), .int (cs_bi s jb 1)])), ((cs_ba s jb 1), .inl (g.2.1 1, 8, .inl (cs_bf s jb 0))), ((cs_ba s jb 2), .inl (g.2.1 1, 8, .inl (cs_bf s jb 1))), ((cs_ba s jb 3), .inl (g.2.1 1, 8, .inl (cs_bf s jb 2)))]
def cw_ot (g : pz_G) (s : cs_S) (jb : Nat) : va_W := ((List.range (cs_cn s 4)).filter (fun i => decide (i ≠ jb))).flatMap (bo_c g s)
def cw_bo (g : pz_G) (s : cs_S) : va_W := (List.range (cs_cn s 4)).flatMap (bo_c g s)
def CW (g : pz_G) (ad : Nat → Nat) (s : cs_S) : va_W := cw_fix g ad s ++ cw_bo g s
def RWd (g : pz_G) (rd : Nat → Nat) (t : rs_S) : va_W := [((rd 0), .inr (8, [.ref (rd 1), .int (nI (rs_rn t 0)), .int (rs_ri t 0), .int (nI (rs_rn t 1)), .ref (rd 2), .int (nI (rs_rn t 2)), .ref (rd 3), .ref (rd 4), .int (nI (rs_rn t 3)), .ref (rd 5), .int (nI (rs_rn t 4)), .ref (rd 6), .ref (rd 7), .ref (rd 8), .ref (rd 9), .ref (rd 10), .int (rs_ri t 1), .ref (rd 11), .ref (rd 12), .ref (rd 13), .ref (rd 14), .int (rs_ri t 2), .int (rs_ri t 3), .ref (rd 15), .int (rs_ri t 4), .int (rs_ri t 5), .int (rs_ri t 6), .int (rs_ri t 7), .int (rs_ri t 8), .int (rs_ri t 9), .ref (rd 16), .int (rs_ri t 10), .int (rs_ri t 11), .int (rs_ri t 12), .int (rs_ri t 13), .int (rs_ri t 14), .ref (rd 17), .ref (rd 18), .ref (rd 19), .ref (rd 20), .long (rs_rl t 0), .long (rs_rl t 1)])), ((rd 1), .inl (g.2.1 1, 400, .inl (rs_rf t 0))), ((rd 2), .inl (g.2.1 1, 4, .inl (rs_rf t 1))), ((rd 3), .inl (g.2.1 1, 3, .inl (rs_rf t 2))), ((rd 4), .inl (g.2.1 1, 12, .inl (rs_rf t 3))), ((rd 5), .inl (g.2.1 1, 8, .inl (rs_rf t 4))), ((rd 6), .inl (g.2.1 1, 10, .inl (rs_rf t 5))), ((rd 7), .inl (g.2.1 1, 10, .inl (rs_rf t 6))), ((rd 8), .inl (g.2.1 1, 10, .inl (rs_rf t 7))), ((rd 9), .inl (g.2.1 3, 10, .inl (rs_rf t 8))), ((rd 10), .inl (g.2.1 1, 80, .inl (rs_rf t 9))), ((rd 11), .inl (g.2.1 1, 10, .inl (rs_rf t 10))), ((rd 12), .inl (g.2.1 1, 80, .inl (rs_rf t 11))), ((rd 13), .inl (g.2.1 1, 80, .inl (rs_rf t 12))), ((rd 14), .inl (g.2.1 1, 24, .inl (rs_rf t 13))), ((rd 15), .inl (g.2.1 1, 77, .inl (rs_rf t 14))), ((rd 16), .inl (g.2.1 1, 8, .inl (rs_rf t 15))), ((rd 17), .inl (g.2.1 1, 8, .inl (rs_rf t 16))), ((rd 18), .inl (g.2.1 2, 3, .inr (.inl (rs_rF t 0)))), ((rd 19), .inl (g.2.1 2, 32805, .inr (.inl (rs_rF t 1)))), ((rd 20), .inl (g.2.1 1, 4, .inl (rs_rf t 19)))]
abbrev ss_cn (s : cs_S) (v : Nat → Nat) : cs_S := (v, cs_ci s, cs_cf s, cs_cl s, cs_cF s, cs_cz s, cs_cq s, cs_ba s, cs_bn s, cs_bi s, cs_bf s)
abbrev ss_ci (s : cs_S) (v : Nat → Int32) : cs_S := (cs_cn s, v, cs_cf s, cs_cl s, cs_cF s, cs_cz s, cs_cq s, cs_ba s, cs_bn s, cs_bi s, cs_bf s)
abbrev ss_cf (s : cs_S) (v : Nat → Nat → Int32) : cs_S := (cs_cn s, cs_ci s, v, cs_cl s, cs_cF s, cs_cz s, cs_cq s, cs_ba s, cs_bn s, cs_bi s, cs_bf s)
abbrev ss_cl (s : cs_S) (v : Nat → Int64) : cs_S := (cs_cn s, cs_ci s, cs_cf s, v, cs_cF s, cs_cz s, cs_cq s, cs_ba s, cs_bn s, cs_bi s, cs_bf s)
abbrev ss_cF (s : cs_S) (v : Nat → Nat → Int64) : cs_S := (cs_cn s, cs_ci s, cs_cf s, cs_cl s, v, cs_cz s, cs_cq s, cs_ba s, cs_bn s, cs_bi s, cs_bf s)
abbrev ss_cz (s : cs_S) (v : Option Nat) : cs_S := (cs_cn s, cs_ci s, cs_cf s, cs_cl s, cs_cF s, v, cs_cq s, cs_ba s, cs_bn s, cs_bi s, cs_bf s)
abbrev ss_cq (s : cs_S) (v : Nat → Option Nat) : cs_S := (cs_cn s, cs_ci s, cs_cf s, cs_cl s, cs_cF s, cs_cz s, v, cs_ba s, cs_bn s, cs_bi s, cs_bf s)
abbrev ss_ba (s : cs_S) (v : Nat → Nat → Nat) : cs_S := (cs_cn s, cs_ci s, cs_cf s, cs_cl s, cs_cF s, cs_cz s, cs_cq s, v, cs_bn s, cs_bi s, cs_bf s)
abbrev ss_bn (s : cs_S) (v : Nat → Nat → Nat) : cs_S := (cs_cn s, cs_ci s, cs_cf s, cs_cl s, cs_cF s, cs_cz s, cs_cq s, cs_ba s, v, cs_bi s, cs_bf s)
abbrev ss_bi (s : cs_S) (v : Nat → Nat → Int32) : cs_S := (cs_cn s, cs_ci s, cs_cf s, cs_cl s, cs_cF s, cs_cz s, cs_cq s, cs_ba s, cs_bn s, v, cs_bf s)
abbrev ss_bf (s : cs_S) (v : Nat → Nat → Nat → Int32) : cs_S := (cs_cn s, cs_ci s, cs_cf s, cs_cl s, cs_cF s, cs_cz s, cs_cq s, cs_ba s, cs_bn s, cs_bi s, v)
abbrev tt_rn (t : rs_S) (v : Nat → Nat) : rs_S := (v, rs_ri t, rs_rf t, rs_rl t, rs_rF t)
abbrev tt_ri (t : rs_S) (v : Nat → Int32) : rs_S := (rs_rn t, v, rs_rf t, rs_rl t, rs_rF t)
abbrev tt_rf (t : rs_S) (v : Nat → Nat → Int32) : rs_S := (rs_rn t, rs_ri t, v, rs_rl t, rs_rF t)
abbrev tt_rl (t : rs_S) (v : Nat → Int64) : rs_S := (rs_rn t, rs_ri t, rs_rf t, v, rs_rF t)
abbrev tt_rF (t : rs_S) (v : Nat → Nat → Int64) : rs_S := (rs_rn t, rs_ri t, rs_rf t, rs_rl t, v)
theorem pz_flat_perm {f : Nat → va_W} {j : Nat} : ∀ l : List Nat, l.Nodup → j ∈ l → (l.flatMap f).Perm (f j ++ (l.filter (fun i => decide (i ≠ j))).flatMap f) := by
  intro l
  induction l with
  | nil => intro _ h; cases h
  | cons a l ih =>
    intro hn hm
    rw [List.nodup_cons] at hn
    by_cases e : a = j
    · subst e
      have h1 : (a :: l).filter (fun i => decide (i ≠ a)) = l := by
        rw [List.filter_cons_of_neg (by simp)]
        exact List.filter_eq_self.mpr (fun x hx => decide_eq_true (fun h => hn.1 (h ▸ hx)))
      rw [h1]
      exact List.Perm.refl _
    · have hm2 : j ∈ l := by
        rcases List.mem_cons.mp hm with h | h
        · exact absurd h.symm e
        · exact h
      have h1 : (a :: l).filter (fun i => decide (i ≠ j)) = a :: l.filter (fun i => decide (i ≠ j)) := List.filter_cons_of_pos (decide_eq_true e)
      rw [h1, List.flatMap_cons, List.flatMap_cons]
      refine ((ih hn.2 hm2).append_left (f a)).trans ?_
      rw [← List.append_assoc, ← List.append_assoc]
      exact List.perm_append_comm.append_right _
theorem cw_bo_perm {g : pz_G} {s : cs_S} {jb : Nat} (h : jb < cs_cn s 4) : (cw_bo g s).Perm (bo_c g s jb ++ cw_ot g s jb) := pz_flat_perm _ List.nodup_range (List.mem_range.mpr h)
theorem cw_ot_congr {g : pz_G} {s s' : cs_S} {jb : Nat} (hn : cs_cn s' 4 = cs_cn s 4) (h : ∀ i, i ≠ jb → bo_c g s' i = bo_c g s i) : cw_ot g s' jb = cw_ot g s jb := by
  unfold cw_ot
  rw [hn]
  have : ∀ l : List Nat, (∀ i ∈ l, i ≠ jb) → l.flatMap (bo_c g s') = l.flatMap (bo_c g s) := by
    intro l
    induction l with
    | nil => intro _; rfl
    | cons a l ih =>
      intro hl
      rw [List.flatMap_cons, List.flatMap_cons, h a (hl a List.mem_cons_self), ih (fun i hi => hl i (List.mem_cons_of_mem _ hi))]
  exact this _ (fun i hi => of_decide_eq_true (List.mem_filter.mp hi).2)
end PZT
