section PU20
theorem pu_mulN (a b : Nat) : nI a * nI b = nI (a * b) := (Int32.ofNat_mul a b).symm
theorem pu_8 (b v : Nat) : (8 : Int32) * nI b + nI v = nI (8 * b + v) := by
  have h : (8 : Int32) * nI b = nI (8 * b) := pu_mulN 8 b
  rw [h, nI_add]
theorem pu_4 (b v : Nat) : (4 : Int32) * nI b + nI v = nI (4 * b + v) := by
  have h : (4 : Int32) * nI b = nI (4 * b) := pu_mulN 4 b
  rw [h, nI_add]
theorem pu_40 (b : Nat) : (4 : Int32) * nI b = nI (4 * b) := pu_mulN 4 b
/-- a boulder that is there and not spent -/
def wh_ok (x : Int32) (N : Nat) (qk : Nat → Int32) : Prop := hs_in x N ∧ qk x.toNatClampNeg = 0
/-- the men of boulder b -/
def sl8 (f : Nat → Int32) (b : Nat) : Nat → Int32 := fun v => f (8 * b + v)
def hd_l (c y : Int32) : Int32 := (c.toInt64 * y.toInt64 / 100).toInt32
theorem hs_cl {m : Int32} {M : Nat} (hM : M < 2 ^ 31) (hm : hs_in m M) : m.toNatClampNeg < M ∧ m = nI m.toNatClampNeg := by
  obtain ⟨v, h1, h2⟩ := hs_nI hM hm
  rw [h2, nI_clamp (by omega)]
  exact ⟨h1, rfl⟩
/-- is a weight of grade g fit -/
def we_r (G g w : Int32) : Int32 := if w < 0 then 0 else if (16 : Int32) < w then 0 else if w = 0 then 1 else if G ≤ g then 0 else 1
end PU20
section PU21
theorem fe_sh {j : Nat} (h : j < 20) : (24 - (8 : Int32) * (nI j - nI j / 4 * 4)) &&& 31 = nI (24 - 8 * (j % 4)) &&& 31 := by
  have : ∀ j : Fin 20, (24 - (8 : Int32) * (nI j.1 - nI j.1 / 4 * 4)) &&& 31 = nI (24 - 8 * (j.1 % 4)) &&& 31 := by decide +kernel
  exact this ⟨j, h⟩
def fe_u (w : Int32) (j : Nat) : Int32 := (w >>> (nI (24 - 8 * j) &&& 31)) &&& 255
/-- behind boulder N's making -/
def bo_p (qa : Nat → Int32) (N : Nat) (ow : Int32) (j a : Nat) : Int32 := if 8 * N ≤ a ∧ a < 8 * N + j then (if nI (a - 8 * N) = ow then 16 else 0) else qa a
end PU21
