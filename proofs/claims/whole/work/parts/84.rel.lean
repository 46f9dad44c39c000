/-! ===== class and reference: what holds of both all along ===== -/
section PZR
/-- a number from 0 to b -/
def rl_in (x : Int32) (b : Nat) : Prop := ∃ v : Nat, v ≤ b ∧ x = nI v
def rl_T (T : Nat) (byt qT : Nat → Int32) : Prop := T ≤ 400 ∧ ∀ j, j < T → byt j &&& 255 = qT j
def rl_ru (f : Nat → Int32) : Prop := (∀ j, j < 3 → f j = 0 ∨ f j = 1) ∧ rl_in (f 3) 100 ∧ rl_in (f 4) 99999 ∧ rl_in (f 5) 100 ∧ ∀ j, 6 ≤ j → j < 12 → rl_in (f j) 999
def rl_R (inf qr : Nat → Int32) : Prop := (∀ j, j < 12 → inf j = qr j) ∧ rl_ru inf
def rl_G (G : Nat) (wo qw : Nat → Int32) : Prop := G ≤ 4 ∧ ∀ j, j < 4 → wo j = qw j ∧ rl_in (wo j) 999
/-- kind k's weights -/
def rl_k (G k : Nat) (we : Nat → Int32) : Prop := ∃ w : Nat → Nat, (∀ q, q < 4 → we (4 * k + q) = nI (w q) ∧ (G ≤ q → w q = 0)) ∧ w 0 + w 1 + w 2 + w 3 = 16
def rl_K (G K : Nat) (pr we qp qg : Nat → Int32) (po : Nat → Int64) : Prop := K ≤ 3 ∧ ∀ k, k < K → pr k = qp k ∧ (∃ v : Nat, 1 ≤ v ∧ v ≤ 99 ∧ pr k = nI v) ∧ (∀ q, q < 4 → we (4 * k + q) = qg (4 * k + q)) ∧ rl_k G k we ∧ ∀ q i, q < 4 → i < 9 → po ((4 * k + q) * 9 + i) = pu_pw (we (4 * k + q)) i
def rl_M (M n : Nat) (pu qu : Nat → Int32) : Prop := M ≤ 8 ∧ ∀ j, j < 8 → pu j = qu j ∧ rl_in (pu j) (1000000 * (n + 1))
def rl_sm (v : Nat → Nat) : Nat → Nat
  | 0 => 0
  | i + 1 => rl_sm v i + v i
/-- a boulder's parts -/
def rl_P (M : Nat) (pa : Nat → Int32) : Prop := ∃ v : Nat → Nat, (∀ j, j < 8 → pa j = nI (v j) ∧ (M ≤ j → v j = 0)) ∧ rl_sm v 8 = 16
/-- a boulder's bids -/
def rl_D (M b : Nat) (bd bc : Nat → Int32) : Prop := b ≤ 8 ∧ (∀ a, a < b → (∃ v, v < M ∧ bd a = nI v) ∧ ∃ v : Nat, 1 ≤ v ∧ v ≤ 99999 ∧ bc a = nI v) ∧ ∀ a c, a < b → c < b → bd a = bd c → a = c
def rl_B (M S sn b : Nat) (ins sp : Int32) (pa bd bc : Nat → Int32) (qs qi qe qk qb : Int32) (qa qd qc : Nat → Int32) : Prop := (qs = nI S ∧ 1 ≤ S ∧ S ≤ 8) ∧ qi = ins ∧ (qe = nI sn ∧ sn ≤ S) ∧ (qk = sp ∧ ((sp = 0 ∧ sn < S) ∨ sp = 1)) ∧ qb = nI b ∧ (∀ a, a < 8 → pa a = qa a) ∧ rl_P M pa ∧ (∀ a, a < b → bd a = qd a ∧ bc a = qc a) ∧ rl_D M b bd bc
def rl_Bs (s : cs_S) (t : rs_S) (j : Nat) : Prop := rl_B (cs_cn s 3) (cs_bn s j 0) (cs_bn s j 1) (cs_bn s j 2) (cs_bi s j 0) (cs_bi s j 1) (cs_bf s j 0) (cs_bf s j 1) (cs_bf s j 2) (rs_rf t 5 j) (rs_rf t 6 j) (rs_rf t 7 j) (rs_rf t 8 j) (rs_rf t 10 j) (sl8 (rs_rf t 9) j) (sl8 (rs_rf t 11) j) (sl8 (rs_rf t 12) j)
def Rel (s : cs_S) (t : rs_S) (n : Nat) : Prop :=
  (cs_cn s 0 = rs_rn t 0 ∧ cs_cn s 1 = rs_rn t 1 ∧ cs_cn s 2 = rs_rn t 2 ∧ cs_cn s 3 = rs_rn t 3 ∧ cs_cn s 4 = rs_rn t 4) ∧
  rl_T (cs_cn s 0) (cs_cf s 0) (rs_rf t 0) ∧ rl_R (cs_cf s 1) (rs_rf t 13) ∧ (cs_ci s 1 = rs_ri t 2 ∧ cs_ci s 2 = rs_ri t 3) ∧
  rl_G (cs_cn s 1) (cs_cf s 4) (rs_rf t 1) ∧ rl_K (cs_cn s 1) (cs_cn s 2) (cs_cf s 5) (cs_cf s 6) (rs_rf t 2) (rs_rf t 3) (cs_cF s 0) ∧
  rl_M (cs_cn s 3) n (cs_cf s 8) (rs_rf t 4) ∧
  (cs_cn s 4 ≤ 10 ∧ ∀ j, j < cs_cn s 4 → cs_cq s j = some (cs_ba s j 0) ∧ rl_Bs s t j) ∧
  (cs_ci s 13 = rs_ri t 10 ∧ cs_ci s 14 = rs_ri t 11 ∧ cs_ci s 15 = rs_ri t 12 ∧ cs_ci s 16 = rs_ri t 13 ∧ cs_ci s 12 = rs_ri t 14) ∧
  cs_ci s 18 = rs_ri t 1 ∧ ∀ a, a < 77 → rs_rf t 14 a = pz_wd.getD a 0
theorem rl_M_le {M n : Nat} {pu qu : Nat → Int32} (h : rl_M M n pu qu) : rl_M M (n + 1) pu qu := by
  refine ⟨h.1, fun j hj => ⟨(h.2 j hj).1, ?_⟩⟩
  obtain ⟨v, hv, e⟩ := (h.2 j hj).2
  exact ⟨v, by omega, e⟩
/-- a call's contract over the class's world: answer and data behind it -/
def oc_C (l : Launch) (g : pz_G) (ad : Nat → Nat) (y : MethodName) (cc : ByteArray) (nL : Nat) (ret : Option FieldType) (av : List Value) (s : cs_S) (Q : Int32 → cs_S → Prop) : Prop := ∃ R : Room, (R.frames ≤ 8 ∧ R.locals ≤ 176 ∧ R.cells ≤ 4 ∧ R.slots ≤ 32) ∧ pz_Ct l g y cc nL ret R (.ref (ad 0) :: av) (CW g ad s) (pz_pi Q (fun s' => CW g ad s'))
def oc_R (l : Launch) (g : pz_G) (rd : Nat → Nat) (y : MethodName) (cc : ByteArray) (nL : Nat) (ret : Option FieldType) (av : List Value) (t : rs_S) (Q : Int32 → rs_S → Prop) : Prop := ∃ R : Room, (R.frames ≤ 8 ∧ R.locals ≤ 176 ∧ R.cells ≤ 4 ∧ R.slots ≤ 32) ∧ pz_Ct l g y cc nL ret R (.ref (rd 0) :: av) (RWd g rd t) (pz_pi Q (fun t' => RWd g rd t'))
def ol_C (l : Launch) (g : pz_G) (ad : Nat → Nat) (y : MethodName) (cc : ByteArray) (nL : Nat) (ret : Option FieldType) (av : List Value) (s : cs_S) (Q : Int64 → cs_S → Prop) : Prop := ∃ R : Room, (R.frames ≤ 8 ∧ R.locals ≤ 176 ∧ R.cells ≤ 4 ∧ R.slots ≤ 32) ∧ pz_Ct l g y cc nL ret R (.ref (ad 0) :: av) (CW g ad s) (pz_pl Q (fun s' => CW g ad s'))
def ol_R (l : Launch) (g : pz_G) (rd : Nat → Nat) (y : MethodName) (cc : ByteArray) (nL : Nat) (ret : Option FieldType) (av : List Value) (t : rs_S) (Q : Int64 → rs_S → Prop) : Prop := ∃ R : Room, (R.frames ≤ 8 ∧ R.locals ≤ 176 ∧ R.cells ≤ 4 ∧ R.slots ≤ 32) ∧ pz_Ct l g y cc nL ret R (.ref (rd 0) :: av) (RWd g rd t) (pz_pl Q (fun t' => RWd g rd t'))
def pr_I (l : Launch) (g : pz_G) (ad rd : Nat → Nat) (y : MethodName) (cc : ByteArray) (nL : Nat) (y' : MethodName) (cc' : ByteArray) (nL' : Nat) (ret : Option FieldType) (av : List Value) : Prop :=
  ∀ (s : cs_S) (t : rs_S) (n : Nat), Rel s t n → n < 512 → ∃ Q Q', oc_C l g ad y cc nL ret av s Q ∧ oc_R l g rd y' cc' nL' ret av t Q' ∧ ∀ r s' r' t', Q r s' → Q' r' t' → r = r' ∧ Rel s' t' (n + 1)
def pr_L (l : Launch) (g : pz_G) (ad rd : Nat → Nat) (y : MethodName) (cc : ByteArray) (nL : Nat) (y' : MethodName) (cc' : ByteArray) (nL' : Nat) (ret : Option FieldType) (av : List Value) : Prop :=
  ∀ (s : cs_S) (t : rs_S) (n : Nat), Rel s t n → n < 512 → ∃ Q Q', ol_C l g ad y cc nL ret av s Q ∧ ol_R l g rd y' cc' nL' ret av t Q' ∧ ∀ r s' r' t', Q r s' → Q' r' t' → r = r' ∧ Rel s' t' (n + 1)
end PZR
