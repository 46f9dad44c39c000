section PU41
theorem rp_ask_congr {qr co co' : Nat → Int32} {f n : Nat} (h : co f = co' f) (h2 : f + 1 < n → co (f + 1) = co' (f + 1)) : rp_ask qr co f n = rp_ask qr co' f n := by
  unfold rp_ask
  by_cases q : f + 1 < n
  · rw [h, if_pos q, if_pos q, h2 q]
  · rw [h, if_neg q, if_neg q]
theorem rp_run_w {bb co qr pa : Nat → Int32} {M n : Nat} : ∀ (r : Nat) (P : Nat → Int32) (df : Nat), r ≤ n → (rp_run bb co qr pa M n r P df).1 = -1 ∨ ∃ f, f < n ∧ (rp_run bb co qr pa M n r P df).1 = bb f := by
  intro r
  induction r with
  | zero => intro P df _; exact Or.inl rfl
  | succ r ih =>
    intro P df hr
    rw [rp_run]
    split
    · exact Or.inl rfl
    · split
      · exact Or.inr ⟨n - (r + 1), by omega, rfl⟩
      · split
        · exact ih _ _ (by omega)
        · exact Or.inl rfl
def rp_end (S : Int32 × Int32 × (Nat → Int32) × Nat) (qr qa : Nat → Int32) (b M : Nat) (rA r X Y Z h2 : Int32) (u2 a2 : Nat → Int32) : Prop :=
  r = S.1 ∧ X = S.2.1 ∧ Y = nI S.2.2.2 ∧ ((S.1 < 0 ∧ Z = 0 ∧ h2 = rA ∧ (∀ x, x < 8 → u2 x = S.2.2.1 x) ∧ a2 = qa) ∨ (¬ S.1 < 0 ∧ Z = hd_l S.2.1 (qr 5) ∧ h2 = rA + hd_l S.2.1 (qr 5) ∧ (∀ x, x < 8 → u2 x = rp_give (sl8 qa b) M (S.2.1 - hd_l S.2.1 (qr 5)) (sa_pay S.2.2.1 S.1.toNatClampNeg S.2.1) x) ∧ ∀ a, a < 80 → a2 a = bo_p qa b S.1 8 a))
end PU41
