section PU40
def rp_ok (bd bc qr pa pu : Nat → Int32) (k : Nat) : Bool := decide (¬ bc k < qr 4) && (decide (¬ 0 < pa (bd k).toNatClampNeg) && decide (¬ pu (bd k).toNatClampNeg < hd_l (bc k) (qr 3)))
def rp_row (bd : Nat → Int32) (L : List Nat) (a : Nat) : Int32 := bd (L.getD (L.length - 1 - a) 0)
def rp_ask (qr co : Nat → Int32) (f n : Nat) : Int32 := if qr 0 = 0 then co f else
  (if (if (if f + 1 < n then co (f + 1) else 0) < qr 4 then qr 4 else (if f + 1 < n then co (f + 1) else 0)) < 1 then 1 else (if (if f + 1 < n then co (f + 1) else 0) < qr 4 then qr 4 else (if f + 1 < n then co (f + 1) else 0)))
def rp_give (pa : Nat → Int32) (M : Nat) (c : Int32) (P : Nat → Int32) : Nat → Int32 := fun a => if a < M then P a + dv_f pa 8 c a else P a
def rp_run (bb co qr pa : Nat → Int32) (M n : Nat) : Nat → (Nat → Int32) → Nat → Int32 × Int32 × (Nat → Int32) × Nat
  | 0, P, df => (-1, 0, P, df)
  | r + 1, P, df =>
    if qr 1 = 1 ∧ n - (r + 1) + 1 < n ∧ co (n - (r + 1) + 1) = co (n - (r + 1)) then (-1, 0, P, df)
    else if rp_ask qr co (n - (r + 1)) n ≤ P (bb (n - (r + 1))).toNatClampNeg then (bb (n - (r + 1)), rp_ask qr co (n - (r + 1)) n, P, df)
    else if qr 2 = 1 then rp_run bb co qr pa M n r (rp_give pa M (hd_l (co (n - (r + 1))) (qr 3)) (sa_pay P (bb (n - (r + 1))).toNatClampNeg (hd_l (co (n - (r + 1))) (qr 3)))) (df + 1)
    else (-1, 0, rp_give pa M (hd_l (co (n - (r + 1))) (qr 3)) (sa_pay P (bb (n - (r + 1))).toNatClampNeg (hd_l (co (n - (r + 1))) (qr 3))), df + 1)
theorem rp_gp_congr {pa P P' : Nat → Int32} {M m : Nat} {c d : Int32} (hm : m < 8) (h : ∀ x, x < 8 → P x = P' x) : ∀ x, x < 8 → rp_give pa M c (sa_pay P m d) x = rp_give pa M c (sa_pay P' m d) x := by
  intro x hx
  have e : sa_pay P m d x = sa_pay P' m d x := by
    unfold sa_pay
    by_cases q : x = m
    · rw [q, pk_us, pk_us, h m hm]
    · rw [pk_un q, pk_un q, h x hx]
  unfold rp_give
  rw [e]
theorem rp_row_ins {bc row row2 : Nat → Int32} {l : List Nat} {k n p : Nat} (hl8 : ∀ x ∈ l, x < 8) (hn : l.length = n) (hr : ∀ a, a < n → row a = nI (l.getD (n - 1 - a) 0)) (hp : p ≤ n) (h1 : p = 0 ∨ ¬ bc (l.getD (n - 1 - (p - 1)) 0) < bc k) (h2 : ∀ a, p ≤ a → a < n → bc (l.getD (n - 1 - a) 0) < bc k) (h3 : ∀ a, a < p → row2 a = row a) (h5 : row2 p = nI k) (h6 : ∀ a, p < a → a ≤ n → row2 a = row (a - 1)) : ∀ a, a < n + 1 → row2 a = nI ((sa_ins bc k l).getD (n + 1 - 1 - a) 0) := by
  have h := sa_rep_ins (bd := fun x => nI x) (bc := bc) (bb := row) (co := fun a => bc (l.getD (l.length - 1 - a) 0)) (bb2 := row2) (co2 := fun a => if a < p then bc (l.getD (l.length - 1 - a) 0) else if a = p then bc k else bc (l.getD (l.length - 1 - (a - 1)) 0)) (l := l) (k := k) (n := n) (p := p) hn (fun a ha => ⟨by rw [hn]; exact hr a (by omega), rfl⟩) hp (by rw [hn]; exact h1) (fun a ha hb => by rw [hn]; exact h2 a ha hb) (fun a ha => ⟨if_pos ha, h3 a ha⟩) (by show (if p < p then _ else if p = p then _ else _) = _; rw [if_neg (by omega), if_pos rfl]) h5 (fun a ha hb => ⟨by show (if a < p then _ else if a = p then _ else _) = _; rw [if_neg (by omega), if_neg (by omega)], h6 a ha hb⟩)
  intro a ha
  have h7 := (h a (by rw [sa_ins_len]; omega)).1
  rw [sa_ins_len, hn] at h7
  exact h7
end PU40
