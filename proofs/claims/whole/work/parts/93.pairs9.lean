section PZQ9
variable (l : Launch) (g : pz_G) (ad rd : Nat → Nat)
theorem op_hd {k d : Nat} (hk : k ≤ 99999) (hd : d ≤ 100) : nI k * nI d / 100 = hd_l (nI k) (nI d) ∧ nI k * nI d / 100 = nI (k * d / 100) ∧ k * d / 100 ≤ k := by
  have hm : k * d ≤ k * 100 := Nat.mul_le_mul_left k hd
  have e1 : nI k * nI d / 100 = nI (k * d / 100) := by
    rw [pk_mul, show (100 : Int32) = nI 100 from rfl, pk_div (by omega) (by omega) (by omega)]
  refine ⟨?_, e1, by omega⟩
  rw [e1, hd_l, nI_l (by omega), nI_l (by omega), lN_mul, show (100 : Int64) = lN 100 from rfl, pk_lDiv (by omega) (by omega) (by omega), lN_i]
theorem op_ask {inf qr co co' : Nat → Int32} {f n : Nat} (hi : ∀ j, j < 12 → inf j = qr j) (hru : rl_ru inf) (hf : f < n) (hc : ∀ a, a < n → co a = co' a) (hv : ∀ a, a < n → ∃ c : Nat, 1 ≤ c ∧ c ≤ 99999 ∧ co a = nI c) : sa_ask inf co f n = rp_ask qr co' f n ∧ ∃ c : Nat, 1 ≤ c ∧ c ≤ 99999 ∧ sa_ask inf co f n = nI c := by
  obtain ⟨r4, hr4, e4⟩ := hru.2.2.1
  have e4' : qr 4 = nI r4 := by rw [← hi 4 (by omega), e4]
  unfold sa_ask rp_ask
  rw [← hi 0 (by omega), e4', e4, ← hc f hf]
  rcases hru.1 0 (by omega) with h0 | h0
  · rw [h0, if_neg (by decide), if_pos rfl]
    exact ⟨rfl, hv f hf⟩
  · rw [h0, if_pos rfl, if_neg (show ¬ (1 : Int32) = 0 by decide)]
    by_cases q : f + 1 < n
    · rw [if_pos q, if_pos q, ← hc (f + 1) q]
      obtain ⟨c, h1, h2, ec⟩ := hv (f + 1) q
      rw [ec]
      by_cases z : nI c < nI r4
      · rw [if_pos z]
        rw [nI_ltI (by omega) (by omega)] at z
        rw [if_neg (show ¬ nI r4 < 1 from nI_nlt (b := 1) (by omega) (by omega))]
        exact ⟨rfl, r4, by omega, by omega, rfl⟩
      · rw [if_neg z, if_neg (show ¬ nI c < 1 from nI_nlt (b := 1) (by omega) (by omega))]
        exact ⟨rfl, c, h1, h2, rfl⟩
    · rw [if_neg q, if_neg q]
      rcases (show r4 = 0 ∨ r4 = 1 ∨ 2 ≤ r4 by omega) with rfl | rfl | h
      · exact ⟨by decide, 1, by omega, by omega, by decide⟩
      · exact ⟨by decide, 1, by omega, by omega, by decide⟩
      · rw [if_pos (show (1 : Int32) < nI r4 from nI_lt (a := 1) (by omega) (by omega)), if_pos (show (0 : Int32) < nI r4 from nI_lt (a := 0) (by omega) (by omega)), if_neg (show ¬ nI r4 < 1 from nI_nlt (b := 1) (by omega) (by omega))]
        exact ⟨rfl, r4, by omega, by omega, rfl⟩
theorem sa_ins_cg {bc bc' : Nat → Int32} {k N : Nat} (hb : ∀ i, i < N → bc i = bc' i) (hk : k < N) : ∀ L : List Nat, (∀ x ∈ L, x < N) → sa_ins bc k L = sa_ins bc' k L := by
  intro L
  induction L with
  | nil => intro _; rfl
  | cons x xs ih =>
    intro h
    rw [sa_ins, sa_ins, hb x (h x List.mem_cons_self), hb k hk, ih (fun y hy => h y (List.mem_cons_of_mem _ hy))]
theorem sa_rl_cg {bc bc' : Nat → Int32} {ok ok' : Nat → Bool} : ∀ n, (∀ i, i < n → bc i = bc' i) → (∀ i, i < n → ok i = ok' i) → sa_rl bc ok n = sa_rl bc' ok' n := by
  intro n
  induction n with
  | zero => intro _ _; rfl
  | succ n ih =>
    intro h1 h2
    have e := ih (fun i hi => h1 i (by omega)) (fun i hi => h2 i (by omega))
    rw [sa_rl, sa_rl, ← h2 n (by omega), ← e]
    by_cases q : ok n = true
    · rw [if_pos q, if_pos q]
      exact sa_ins_cg h1 (by omega) _ (fun x hx => by have := sa_rl_mem bc ok n x hx; omega)
    · rw [if_neg q, if_neg q]
theorem sa_out_cg {ok ok' : Nat → Bool} : ∀ n, (∀ i, i < n → ok i = ok' i) → sa_out ok n = sa_out ok' n := by
  intro n
  induction n with
  | zero => intro _; rfl
  | succ n ih =>
    intro h2
    rw [sa_out, sa_out, ih (fun i hi => h2 i (by omega)), h2 n (by omega)]
theorem sa_ins_mem {bc : Nat → Int32} {k x : Nat} : ∀ L : List Nat, x ∈ sa_ins bc k L ↔ x = k ∨ x ∈ L := by
  intro L
  induction L with
  | nil => simp [sa_ins]
  | cons y ys ih =>
    rw [sa_ins]
    split
    · rw [List.mem_cons, ih, List.mem_cons]
      constructor
      · rintro (h | h | h)
        · exact Or.inr (Or.inl h)
        · exact Or.inl h
        · exact Or.inr (Or.inr h)
      · rintro (h | h | h)
        · exact Or.inr (Or.inl h)
        · exact Or.inl h
        · exact Or.inr (Or.inr h)
    · rw [List.mem_cons]
theorem sa_ins_nd {bc : Nat → Int32} {k : Nat} : ∀ L : List Nat, L.Nodup → k ∉ L → (sa_ins bc k L).Nodup := by
  intro L
  induction L with
  | nil => intro _ _; simp [sa_ins]
  | cons y ys ih =>
    intro h hk
    rw [List.nodup_cons] at h
    rw [List.mem_cons] at hk
    rw [sa_ins]
    split
    · rw [List.nodup_cons, sa_ins_mem]
      refine ⟨?_, ih h.2 (fun z => hk (Or.inr z))⟩
      rintro (z | z)
      · exact hk (Or.inl z.symm)
      · exact h.1 z
    · rw [List.nodup_cons, List.mem_cons, List.nodup_cons]
      exact ⟨hk, h⟩
theorem sa_rl_nd {bc : Nat → Int32} {ok : Nat → Bool} : ∀ n, (sa_rl bc ok n).Nodup := by
  intro n
  induction n with
  | zero => exact List.nodup_nil
  | succ n ih =>
    rw [sa_rl]
    split
    · exact sa_ins_nd _ ih (fun h => by have := sa_rl_mem bc ok n n h; omega)
    · exact ih
theorem sa_rl_ok {bc : Nat → Int32} {ok : Nat → Bool} : ∀ n, ∀ x ∈ sa_rl bc ok n, ok x = true := by
  intro n
  induction n with
  | zero => intro x h; cases h
  | succ n ih =>
    intro x
    rw [sa_rl]
    split
    · next h =>
      rw [sa_ins_mem]
      rintro (z | z)
      · rw [z]; exact h
      · exact ih x z
    · exact ih x
theorem nd_getD {L : List Nat} (h : L.Nodup) {a c : Nat} (ha : a < L.length) (hc : c < L.length) (e : L.getD a 0 = L.getD c 0) : a = c := by
  rw [List.getD_eq_getElem?_getD, List.getD_eq_getElem?_getD, List.getElem?_eq_getElem ha, List.getElem?_eq_getElem hc, Option.getD_some, Option.getD_some] at e
  exact (List.getElem_inj h).mp e
/-- a payment and its sharing out -/
theorem op_g {pa P : Nat → Int32} {M m c x p a : Nat} (hP : rl_P M pa) (hc : c ≤ 1000000) (ha : a < 8) (ep : P a = nI p) (hp : p < 2 ^ 30) (hx : a = m → x ≤ p) : ∃ q, sa_give pa M (nI c) (sa_pay P m (nI x)) a = nI q ∧ q ≤ p + c + 1 ∧ (a ≠ m → p ≤ q) := by
  obtain ⟨d, hd, ed⟩ := dv_bd (m := M) hc hP ha
  unfold sa_give sa_pay
  rw [ed]
  by_cases q : a = m
  · subst q
    rw [pk_us, ep, pk_sub (hx rfl), nI_add]
    split
    · exact ⟨p - x + d, rfl, by omega, fun z => absurd rfl z⟩
    · exact ⟨p - x, rfl, by omega, fun z => absurd rfl z⟩
  · rw [pk_un q, ep, nI_add]
    split
    · exact ⟨p + d, rfl, by omega, fun _ => by omega⟩
    · exact ⟨p, rfl, by omega, fun _ => by omega⟩
theorem op_ge {pa qa P P' : Nat → Int32} {M m a : Nat} {c d : Int32} (hM : M ≤ 8) (h1 : ∀ a, a < 8 → pa a = qa a) (hP : rl_P M pa) (h : ∀ a, a < 8 → P a = P' a) (hm : m < 8) (ha : a < 8) : rp_give qa M c (sa_pay P' m d) a = sa_give pa M c (sa_pay P m d) a := by
  unfold rp_give sa_give sa_pay
  rw [dv_eq hM h1 hP ha, h m hm]
  have : upd P' m (P' m - d) a = upd P m (P' m - d) a := rl_up (h a ha).symm
  rw [this]
def op_Q (S : Int32 × Int32 × Int32 × (Nat → Int32) × Nat) (S' : Int32 × Int32 × (Nat → Int32) × Nat) (qr qa : Nat → Int32) (M Y : Nat) : Prop :=
  S.1 = S'.1 ∧ S.2.1 = S'.2.1 ∧ S.2.2.2.2 = S'.2.2.2 ∧ (∀ a, a < 8 → rl_in (S.2.2.2.1 a) Y) ∧
  ((S.1 = -1 ∧ S.2.2.1 = 0 ∧ ∀ a, a < 8 → S.2.2.2.1 a = S'.2.2.1 a) ∨ (∃ m, m < M ∧ S.1 = nI m ∧ S.2.2.1 = hd_l S'.2.1 (qr 5) ∧ ∀ a, a < 8 → S.2.2.2.1 a = rp_give qa M (S'.2.1 - hd_l S'.2.1 (qr 5)) (sa_pay S'.2.2.1 S'.1.toNatClampNeg S'.2.1) a))
theorem op_run {bb co inf pa bb' co' qr qa : Nat → Int32} {M n : Nat} (hM : M ≤ 8) (hn : n ≤ 8) (hi : ∀ j, j < 12 → inf j = qr j) (hru : rl_ru inf) (hbb : ∀ a, a < n → bb a = bb' a) (hcc : ∀ a, a < n → co a = co' a) (hv : ∀ a, a < n → ∃ m, m < M ∧ bb a = nI m) (hco : ∀ a, a < n → ∃ c : Nat, 1 ≤ c ∧ c ≤ 99999 ∧ co a = nI c) (hin : ∀ a c, a < n → c < n → bb a = bb c → a = c) (hpa : ∀ a, a < 8 → pa a = qa a) (hP : rl_P M pa) :
    ∀ (r : Nat) (P P' : Nat → Int32) (df X : Nat), r ≤ n → X ≤ 2 ^ 29 + (8 - r) * 100001 → (∀ a, a < 8 → P a = P' a ∧ rl_in (P a) X) → (∀ k, n - r ≤ k → k < n → sa_dep inf (co k) ≤ P (bb k).toNatClampNeg) → op_Q (sa_run bb co inf pa M n r P df) (rp_run bb' co' qr qa M n r P' df) qr qa M (X + (r + 1) * 100001) := by
  intro r
  induction r with
  | zero =>
    intro P P' df X _ _ h1 _
    rw [sa_run, rp_run]
    refine ⟨rfl, rfl, rfl, fun a ha => ?_, Or.inl ⟨rfl, rfl, fun a ha => (h1 a ha).1⟩⟩
    obtain ⟨v, hv, e⟩ := (h1 a ha).2
    exact ⟨v, by omega, e⟩
  | succ r ih =>
    intro P P' df X hr hX h1 h2
    rw [sa_run, rp_run]
    obtain ⟨f, ef⟩ : ∃ f, f = n - (r + 1) := ⟨_, rfl⟩
    rw [← ef]
    have hf : f < n := by omega
    obtain ⟨m, hm, em⟩ := hv f hf
    obtain ⟨ea, k, hk1, hk2, ek⟩ := op_ask (f := f) hi hru hf hcc hco
    obtain ⟨c, hc1, hc2, ec⟩ := hco f hf
    obtain ⟨d3, hd3, e3⟩ := hru.2.1
    obtain ⟨d5, hd5, e5⟩ := hru.2.2.2.1
    have e3' : qr 3 = nI d3 := by rw [← hi 3 (by omega), e3]
    have e5' : qr 5 = nI d5 := by rw [← hi 5 (by omega), e5]
    obtain ⟨g1, g2, g3⟩ := op_hd hc2 hd3
    obtain ⟨t1, t2, t3⟩ := op_hd hk2 hd5
    obtain ⟨p, hp, ep⟩ := (h1 m (by omega)).2
    have hmc : (nI m).toNatClampNeg = m := nI_clamp (by omega)
    rw [← hi 1 (by omega), ← hi 2 (by omega), ← hbb f hf, ← ea, ek, em, hmc, ← hcc f hf, ec, e3', e5, ← (h1 m (by omega)).1, sa_dep, e3, ← g1, g2, t2]
    have ht : (f + 1 < n ∧ nI c = co (f + 1)) ↔ (f + 1 < n ∧ co' (f + 1) = nI c) := by
      constructor
      · rintro ⟨a, b⟩; exact ⟨a, by rw [← hcc _ a, b]⟩
      · rintro ⟨a, b⟩; exact ⟨a, by rw [hcc _ a, b]⟩
    by_cases q1 : inf 1 = 1 ∧ f + 1 < n ∧ nI c = co (f + 1)
    · rw [if_pos q1, if_pos ⟨q1.1, ht.mp q1.2⟩]
      refine ⟨rfl, rfl, rfl, fun a ha => ?_, Or.inl ⟨rfl, rfl, fun a ha => (h1 a ha).1⟩⟩
      obtain ⟨v, hv, e⟩ := (h1 a ha).2
      exact ⟨v, by omega, e⟩
    · rw [if_neg q1, if_neg (show ¬ (inf 1 = 1 ∧ f + 1 < n ∧ co' (f + 1) = nI c) from fun z => q1 ⟨z.1, ht.mpr z.2⟩)]
      by_cases q2 : nI k ≤ P m
      · rw [if_pos q2, if_pos q2]
        rw [ep, nI_leI (by omega) (by omega)] at q2
        rw [pk_sub t3]
        refine ⟨rfl, rfl, rfl, fun a ha => ?_, Or.inr ⟨m, hm, rfl, ?_, fun a ha => ?_⟩⟩
        · obtain ⟨p2, hp2, ep2⟩ := (h1 a ha).2
          obtain ⟨z, z1, z2, _⟩ := op_g (pa := pa) (P := P) (M := M) (m := m) (c := k - k * d5 / 100) (x := k) hP (by omega) ha ep2 (by omega) (fun e => by
            rw [e, ep, nI_eq (by omega) (by omega)] at ep2; omega)
          exact ⟨z, by omega, z1⟩
        · show nI (k * d5 / 100) = hd_l (nI k) (qr 5)
          rw [e5', ← t1, t2]
        · show sa_give pa M (nI (k - k * d5 / 100)) (sa_pay P m (nI k)) a = rp_give qa M (nI k - hd_l (nI k) (qr 5)) (sa_pay P' (nI m).toNatClampNeg (nI k)) a
          rw [e5', ← t1, t2, pk_sub t3, hmc, op_ge hM hpa hP (fun a ha => (h1 a ha).1) (by omega) ha]
      · rw [if_neg q2, if_neg q2]
        have hdp : c * d3 / 100 ≤ p := by
          have h3 := h2 f (by omega) hf
          rw [sa_dep, ec, e3, g2, em, hmc, ep, nI_leI (by omega) (by omega)] at h3
          exact h3
        have hbd : ∀ a, a < 8 → ∃ p2 q, P a = nI p2 ∧ sa_give pa M (nI (c * d3 / 100)) (sa_pay P m (nI (c * d3 / 100))) a = nI q ∧ p2 ≤ X ∧ q ≤ p2 + 100000 ∧ (a ≠ m → p2 ≤ q) := fun a ha => by
          obtain ⟨p2, hp2, ep2⟩ := (h1 a ha).2
          obtain ⟨z, z1, z2, z3⟩ := op_g (pa := pa) (P := P) (M := M) (m := m) (c := c * d3 / 100) (x := c * d3 / 100) hP (by omega) ha ep2 (by omega) (fun e => by
            rw [e, ep, nI_eq (by omega) (by omega)] at ep2; omega)
          exact ⟨p2, z, ep2, z1, hp2, by omega, z3⟩
        by_cases q3 : inf 2 = 1
        · rw [if_pos q3, if_pos q3]
          have := ih (sa_give pa M (nI (c * d3 / 100)) (sa_pay P m (nI (c * d3 / 100)))) (rp_give qa M (nI (c * d3 / 100)) (sa_pay P' m (nI (c * d3 / 100)))) (df + 1) (X + 100001) (by omega) (by omega) (fun a ha => ⟨(op_ge hM hpa hP (fun a ha => (h1 a ha).1) (by omega) ha).symm, ?_⟩) (fun k2 hk1 hk2 => ?_)
          · rw [show X + 100001 + (r + 1) * 100001 = X + (r + 1 + 1) * 100001 by omega] at this
            exact this
          · obtain ⟨p2, z, _, z1, z2, z3, _⟩ := hbd a ha
            exact ⟨z, by omega, z1⟩
          · have h3 := h2 k2 (by omega) hk2
            obtain ⟨m2, hm2, em2⟩ := hv k2 hk2
            rw [em2, nI_clamp (by omega)] at h3 ⊢
            obtain ⟨p2, z, y1, z1, z2, z3, z4⟩ := hbd m2 (by omega)
            have hne : m2 ≠ m := fun e => by
              have := hin k2 f hk2 hf (by rw [em2, em, e])
              omega
            have := z4 hne
            rw [z1]
            rw [y1] at h3
            exact Int32.le_trans h3 (nI_le this (by omega))
        · rw [if_neg q3, if_neg q3]
          refine ⟨rfl, rfl, rfl, fun a ha => ?_, Or.inl ⟨rfl, rfl, fun a ha => (op_ge hM hpa hP (fun a ha => (h1 a ha).1) (by omega) ha).symm⟩⟩
          obtain ⟨p2, z, _, z1, z2, z3, _⟩ := hbd a ha
          exact ⟨z, by omega, z1⟩
end PZQ9
