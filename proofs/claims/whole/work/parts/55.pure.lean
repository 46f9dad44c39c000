section PU30
/-- a number times w, i times over -/
def rw_p (c w : Int64) : Nat → Int64
  | 0 => c
  | i + 1 => rw_p c w i * w
/-- the odds of kind k when cn q more of each grade were seen: over grades -/
def rw_k (c : Int64) (qg : Nat → Int32) (k : Nat) (cn : Nat → Nat) : Nat → Int64
  | 0 => c
  | q + 1 => rw_p (rw_k c qg k cn q) (qg (4 * k + q)).toInt64 (cn q)
def rw_E (qC : Nat → Int64) (qg : Nat → Int32) (cn : Nat → Nat) : Nat → Int64
  | 0 => 0
  | k + 1 => rw_E qC qg cn k + rw_k (qC k) qg k cn 4
def rw_inc (cn : Nat → Nat) (g : Nat) : Nat → Nat := fun q => if q = g then cn q + 1 else cn q
/-- what selling is worth with t slices left behind a slice of that grade -/
def rw_sell (qr : Nat → Int32) (E : (Nat → Nat) → Int64) (tl la : Int32) (sc : Int64) (cn : Nat → Nat) : Int64 := tl.toInt64 * (of_b qr la).toInt64 * E cn * sc
/-- what cutting on is worth: over grades; nx: the best behind a slice of each -/
def rw_cut (qw qr : Nat → Int32) (E : (Nat → Nat) → Int64) (tl : Int32) (sc : Int64) (nx : Nat → Int64) (cn : Nat → Nat) : Nat → Int64
  | 0 => (-(qr 6)).toInt64 * E cn * sc
  | g + 1 => if 0 < E (rw_inc cn g) then rw_cut qw qr E tl sc nx cn g + ((qw g).toInt64 * E (rw_inc cn g) * (sc / 16) + (if (1 : Int32) < tl then nx g else 0)) else rw_cut qw qr E tl sc nx cn g
theorem rw_kc {c : Int64} {qg : Nat → Int32} {k : Nat} {cn cn' : Nat → Nat} : ∀ q, (∀ a, a < q → cn a = cn' a) → rw_k c qg k cn q = rw_k c qg k cn' q := by
  intro q
  induction q with
  | zero => intro _; rfl
  | succ q ih =>
    intro h
    rw [rw_k, rw_k, ih (fun a ha => h a (by omega)), h q (by omega)]
theorem rw_Ec {qC qC' : Nat → Int64} {qg : Nat → Int32} {cn cn' : Nat → Nat} (h : ∀ a, a < 4 → cn a = cn' a) : ∀ K, (∀ a, a < K → qC a = qC' a) → rw_E qC qg cn K = rw_E qC' qg cn' K := by
  intro K
  induction K with
  | zero => intro _; rfl
  | succ K ih =>
    intro h2
    rw [rw_E, rw_E, ih (fun a ha => h2 a (by omega)), h2 K (by omega), rw_kc 4 h]
def rr_s (qg qw : Nat → Int32) (k : Nat) : Nat → Int64
  | 0 => 0
  | q + 1 => rr_s qg qw k q + (qg (4 * k + q) * qw q).toInt64
def rr_u (qC : Nat → Int64) (qg qw : Nat → Int32) (G : Nat) : Nat → Int64
  | 0 => 0
  | k + 1 => rr_u qC qg qw G k + qC k * rr_s qg qw k G
theorem rr_uc {qC qC' : Nat → Int64} {qg qw : Nat → Int32} {G : Nat} : ∀ K, (∀ a, a < K → qC a = qC' a) → rr_u qC qg qw G K = rr_u qC' qg qw G K := by
  intro K
  induction K with
  | zero => intro _; rfl
  | succ K ih =>
    intro h
    rw [rr_u, rr_u, ih (fun a ha => h a (by omega)), h K (by omega)]
/-- the divisor of the reference -/
def rd_g (a b : Nat) : Nat := if Nat.gcd a b = 0 then 1 else Nat.gcd a b
theorem rd_g1 (a b : Nat) : 0 < rd_g a b := by
  unfold rd_g
  split <;> omega
theorem rd_lt {a b : Nat} (ha : a < 2 ^ 63) (hb : b < 2 ^ 63) : rd_g a b < 2 ^ 63 := by
  unfold rd_g
  split
  · decide
  · rcases Nat.eq_zero_or_pos b with h | h
    · rw [h, Nat.gcd_zero_right]; exact ha
    · exact Nat.lt_of_le_of_lt (Nat.gcd_le_right a h) hb
def rd_a (a b : Nat) (w : Int32) : Int64 := if w = 0 then lN (a / rd_g a b) else lN (b / rd_g a b)
def ix_b (cn : Nat → Nat) (la : Nat) : Nat := 5 * (cn 0 + 9 * cn 1 + 81 * cn 2 + 729 * cn 3) + la + 1
end PU30
