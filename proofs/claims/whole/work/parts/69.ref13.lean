
abbrev rmX9_line : Room := { frames := 3, cells := 0, slots := 0, locals := 68 }
abbrev paX9_line_108 (B : pz_B) (g : pz_G) (h0 : Nat) (yt : Nat) (rT : Int32) (rH : Int32) (yw : Nat) (yp : Nat) (yg : Nat) (yu : Nat) (ysl : Nat) (yin : Nat) (yse : Nat) (ysp : Nat) (ypa : Nat) (rA : Int32) (yb : Nat) (ybd : Nat) (ybc : Nat) (yr : Nat) (rF : Int32) (rP : Int32) (ywd : Nat) (rN : Int32) (rO : Int32) (rW : Int32) (rL : Int32) (rD : Int32) (yd : Nat) (rI : Int32) (rX : Int32) (rY : Int32) (rZ : Int32) (rU : Int32) (yro : Nat) (yc : Nat) (ybe : Nat) (yco : Nat) (rC : Int64) (rV : Int64) (qT : Nat → Int32) (qW : Nat → Int32) (qr : Nat → Int32) (G : Nat) (K : Nat) (M : Nat) (N : Nat) (e : Nat) (j : Nat) (w0 : Int32) (to : Nat → Int32) (w : Int32) : Prop := pz_At B 0 0 108 [(0, .ref h0), (1, .int w)] [] [(h0, .inr (8, [.ref yt, .int rT, .int rH, .int (nI G), .ref yw, .int (nI K), .ref yp, .ref yg, .int (nI M), .ref yu, .int (nI N), .ref ysl, .ref yin, .ref yse, .ref ysp, .ref ypa, .int rA, .ref yb, .ref ybd, .ref ybc, .ref yr, .int rF, .int rP, .ref ywd, .int (nI e), .int rN, .int rO, .int rW, .int rL, .int rD, .ref yd, .int rI, .int rX, .int rY, .int rZ, .int rU, .ref yro, .ref yc, .ref ybe, .ref yco, .long rC, .long rV])), (yt, .inl (g.2.1 1, 400, .inl qT)), (ywd, .inl (g.2.1 1, 77, .inl qW)), (yr, .inl (g.2.1 1, 24, .inl qr))]
abbrev paX9_line_167 (B : pz_B) (g : pz_G) (h0 : Nat) (yt : Nat) (rT : Int32) (rH : Int32) (yw : Nat) (yp : Nat) (yg : Nat) (yu : Nat) (ysl : Nat) (yin : Nat) (yse : Nat) (ysp : Nat) (ypa : Nat) (rA : Int32) (yb : Nat) (ybd : Nat) (ybc : Nat) (yr : Nat) (rF : Int32) (rP : Int32) (ywd : Nat) (rN : Int32) (rO : Int32) (rW : Int32) (rL : Int32) (rD : Int32) (yd : Nat) (rI : Int32) (rX : Int32) (rY : Int32) (rZ : Int32) (rU : Int32) (yro : Nat) (yc : Nat) (ybe : Nat) (yco : Nat) (rC : Int64) (rV : Int64) (qT : Nat → Int32) (qW : Nat → Int32) (qr : Nat → Int32) (G : Nat) (K : Nat) (M : Nat) (N : Nat) (e : Nat) (j : Nat) (w0 : Int32) (to : Nat → Int32) (w : Int32) (n1 : Int32) (t1 : Int32) (w1 : Int32) (l1 : Int32) : Prop := pz_At B 0 0 167 [(0, .ref h0), (1, .int w)] [] [(h0, .inr (8, [.ref yt, .int rT, .int rH, .int (nI G), .ref yw, .int (nI K), .ref yp, .ref yg, .int (nI M), .ref yu, .int (nI N), .ref ysl, .ref yin, .ref yse, .ref ysp, .ref ypa, .int rA, .ref yb, .ref ybd, .ref ybc, .ref yr, .int rF, .int rP, .ref ywd, .int (nI e), .int n1, .int t1, .int w1, .int l1, .int rD, .ref yd, .int rI, .int rX, .int rY, .int rZ, .int rU, .ref yro, .ref yc, .ref ybe, .ref yco, .long rC, .long rV])), (yt, .inl (g.2.1 1, 400, .inl qT)), (ywd, .inl (g.2.1 1, 77, .inl qW)), (yr, .inl (g.2.1 1, 24, .inl qr))]
abbrev paX9_line_189 (B : pz_B) (g : pz_G) (h0 : Nat) (yt : Nat) (rT : Int32) (rH : Int32) (yw : Nat) (yp : Nat) (yg : Nat) (yu : Nat) (ysl : Nat) (yin : Nat) (yse : Nat) (ysp : Nat) (ypa : Nat) (rA : Int32) (yb : Nat) (ybd : Nat) (ybc : Nat) (yr : Nat) (rF : Int32) (rP : Int32) (ywd : Nat) (rN : Int32) (rO : Int32) (rW : Int32) (rL : Int32) (rD : Int32) (yd : Nat) (rI : Int32) (rX : Int32) (rY : Int32) (rZ : Int32) (rU : Int32) (yro : Nat) (yc : Nat) (ybe : Nat) (yco : Nat) (rC : Int64) (rV : Int64) (qT : Nat → Int32) (qW : Nat → Int32) (qr : Nat → Int32) (G : Nat) (K : Nat) (M : Nat) (N : Nat) (e : Nat) (j : Nat) (w0 : Int32) (to : Nat → Int32) (w : Int32) (on : Int32) (n1 : Int32) (t1 : Int32) (w1 : Int32) (l1 : Int32) : Prop := pz_At B 0 0 189 [(0, .ref h0), (1, .int w), (2, .int on)] [] [(h0, .inr (8, [.ref yt, .int rT, .int rH, .int (nI G), .ref yw, .int (nI K), .ref yp, .ref yg, .int (nI M), .ref yu, .int (nI N), .ref ysl, .ref yin, .ref yse, .ref ysp, .ref ypa, .int rA, .ref yb, .ref ybd, .ref ybc, .ref yr, .int rF, .int rP, .ref ywd, .int (nI e), .int n1, .int t1, .int w1, .int l1, .int rD, .ref yd, .int rI, .int rX, .int rY, .int rZ, .int rU, .ref yro, .ref yc, .ref ybe, .ref yco, .long rC, .long rV])), (yt, .inl (g.2.1 1, 400, .inl qT)), (ywd, .inl (g.2.1 1, 77, .inl qW)), (yr, .inl (g.2.1 1, 24, .inl qr))]
abbrev paX9_line_211 (B : pz_B) (g : pz_G) (h0 : Nat) (yt : Nat) (rT : Int32) (rH : Int32) (yw : Nat) (yp : Nat) (yg : Nat) (yu : Nat) (ysl : Nat) (yin : Nat) (yse : Nat) (ysp : Nat) (ypa : Nat) (rA : Int32) (yb : Nat) (ybd : Nat) (ybc : Nat) (yr : Nat) (rF : Int32) (rP : Int32) (ywd : Nat) (rN : Int32) (rO : Int32) (rW : Int32) (rL : Int32) (rD : Int32) (yd : Nat) (rI : Int32) (rX : Int32) (rY : Int32) (rZ : Int32) (rU : Int32) (yro : Nat) (yc : Nat) (ybe : Nat) (yco : Nat) (rC : Int64) (rV : Int64) (qT : Nat → Int32) (qW : Nat → Int32) (qr : Nat → Int32) (G : Nat) (K : Nat) (M : Nat) (N : Nat) (e : Nat) (j : Nat) (w0 : Int32) (to : Nat → Int32) (w : Int32) (on : Int32) (ot : Int32) (n1 : Int32) (t1 : Int32) (w1 : Int32) (l1 : Int32) : Prop := pz_At B 0 0 211 [(0, .ref h0), (1, .int w), (2, .int on), (3, .int ot)] [] [(h0, .inr (8, [.ref yt, .int rT, .int rH, .int (nI G), .ref yw, .int (nI K), .ref yp, .ref yg, .int (nI M), .ref yu, .int (nI N), .ref ysl, .ref yin, .ref yse, .ref ysp, .ref ypa, .int rA, .ref yb, .ref ybd, .ref ybc, .ref yr, .int rF, .int rP, .ref ywd, .int (nI e), .int n1, .int t1, .int w1, .int l1, .int rD, .ref yd, .int rI, .int rX, .int rY, .int rZ, .int rU, .ref yro, .ref yc, .ref ybe, .ref yco, .long rC, .long rV])), (yt, .inl (g.2.1 1, 400, .inl qT)), (ywd, .inl (g.2.1 1, 77, .inl qW)), (yr, .inl (g.2.1 1, 24, .inl qr))]
abbrev paX9_line_245 (B : pz_B) (g : pz_G) (h0 : Nat) (yt : Nat) (rT : Int32) (rH : Int32) (yw : Nat) (yp : Nat) (yg : Nat) (yu : Nat) (ysl : Nat) (yin : Nat) (yse : Nat) (ysp : Nat) (ypa : Nat) (rA : Int32) (yb : Nat) (ybd : Nat) (ybc : Nat) (yr : Nat) (rF : Int32) (rP : Int32) (ywd : Nat) (rN : Int32) (rO : Int32) (rW : Int32) (rL : Int32) (rD : Int32) (yd : Nat) (rI : Int32) (rX : Int32) (rY : Int32) (rZ : Int32) (rU : Int32) (yro : Nat) (yc : Nat) (ybe : Nat) (yco : Nat) (rC : Int64) (rV : Int64) (qT : Nat → Int32) (qW : Nat → Int32) (qr : Nat → Int32) (G : Nat) (K : Nat) (M : Nat) (N : Nat) (e : Nat) (j : Nat) (w0 : Int32) (to : Nat → Int32) (w : Int32) (ot : Int32) (n1 : Int32) (t1 : Int32) (w1 : Int32) (l1 : Int32) : Prop := pz_At B 0 0 245 [(0, .ref h0), (1, .int w), (3, .int ot)] [] [(h0, .inr (8, [.ref yt, .int rT, .int rH, .int (nI G), .ref yw, .int (nI K), .ref yp, .ref yg, .int (nI M), .ref yu, .int (nI N), .ref ysl, .ref yin, .ref yse, .ref ysp, .ref ypa, .int rA, .ref yb, .ref ybd, .ref ybc, .ref yr, .int rF, .int rP, .ref ywd, .int (nI e), .int n1, .int t1, .int w1, .int l1, .int rD, .ref yd, .int rI, .int rX, .int rY, .int rZ, .int rU, .ref yro, .ref yc, .ref ybe, .ref yco, .long rC, .long rV])), (yt, .inl (g.2.1 1, 400, .inl qT)), (ywd, .inl (g.2.1 1, 77, .inl qW)), (yr, .inl (g.2.1 1, 24, .inl qr))]
set_option maxHeartbeats 4000000 in
set_option maxRecDepth 100000 in
theorem sgX9_line_0 {B : pz_B} {g : pz_G} {wc : va_W} {Post : Option Value → va_W → Prop} (F : pz_F B cX9_line 4 (some .boolean) yX9_line.cls g rmX9_line) (Rt : pz_Rt B g wc Post rmX9_line) (h0 : Nat) (yt : Nat) (rT : Int32) (rH : Int32) (yw : Nat) (yp : Nat) (yg : Nat) (yu : Nat) (ysl : Nat) (yin : Nat) (yse : Nat) (ysp : Nat) (ypa : Nat) (rA : Int32) (yb : Nat) (ybd : Nat) (ybc : Nat) (yr : Nat) (rF : Int32) (rP : Int32) (ywd : Nat) (rN : Int32) (rO : Int32) (rW : Int32) (rL : Int32) (rD : Int32) (yd : Nat) (rI : Int32) (rX : Int32) (rY : Int32) (rZ : Int32) (rU : Int32) (yro : Nat) (yc : Nat) (ybe : Nat) (yco : Nat) (rC : Int64) (rV : Int64) (qT : Nat → Int32) (qW : Nat → Int32) (qr : Nat → Int32) (G : Nat) (K : Nat) (M : Nat) (N : Nat) (e : Nat) (j : Nat) (w0 : Int32) (to : Nat → Int32) (T108 : Int32 → Prop) (hT108 : ∀ (w : Int32), T108 w → paX9_line_108 B g h0 yt rT rH yw yp yg yu ysl yin yse ysp ypa rA yb ybd ybc yr rF rP ywd rN rO rW rL rD yd rI rX rY rZ rU yro yc ybe yco rC rV qT qW qr G K M N e j w0 to w)  (vc : ((¬ rO = 1 → ∀ r_2 : Int32, ∀ _ : (r_2 = 0), narrow .boolean (.int r_2) = .int r_2 ∧ Post (some (.int r_2)) [(h0, .inr (8, [.ref yt, .int rT, .int rH, .int (nI G), .ref yw, .int (nI K), .ref yp, .ref yg, .int (nI M), .ref yu, .int (nI N), .ref ysl, .ref yin, .ref yse, .ref ysp, .ref ypa, .int rA, .ref yb, .ref ybd, .ref ybc, .ref yr, .int 1, .int rL, .ref ywd, .int (nI e), .int rN, .int rO, .int rW, .int rL, .int rD, .ref yd, .int rI, .int rX, .int rY, .int rZ, .int rU, .ref yro, .ref yc, .ref ybe, .ref yco, .long rC, .long rV])), (yt, .inl (g.2.1 1, 400, .inl qT)), (ywd, .inl (g.2.1 1, 77, .inl qW)), (yr, .inl (g.2.1 1, 24, .inl qr))]) ∧ (rO = 1 → ((rW ≤ 8 → ((¬ rW = 8 → T108 rW) ∧ (rW = 8 → ∃ j_7 : Nat, (j_7 ≤ e ∧ e ≤ 400 ∧ (∀ a, a < 77 → qW a = pz_wd.getD a 0) ∧ rN = nI j_7) ∧ ∀ _ : (True), ((tk_e (rt_c qT e) e j_7) ≤ e ∧ e ≤ 400 ∧ (∀ a, a < 77 → qW a = pz_wd.getD a 0) ∧ (nI (tk_e (rt_c qT e) e j_7)) = nI (tk_e (rt_c qT e) e j_7)) ∧ ∀ r_18 : Int32, ∀ f2_11 : Int32, ∀ p2_12 : Int32, ∀ d2_13 : Int32, ∀ n2_14 : Int32, ∀ t2_15 : Int32, ∀ w2_16 : Int32, ∀ l2_17 : Int32, ∀ _ : ((¬ (rt_k (rt_c qT e) e j_7) = 2 ∧ r_18 = 0 ∧ f2_11 = 1 ∧ p2_12 = (nI (tk_s (rt_c qT e) e j_7))) ∨ ((rt_k (rt_c qT e) e j_7) = 2 ∧ 3 < (rt_h (rt_c qT e) e j_7 rW) ∧ r_18 = 0 ∧ f2_11 = 2 ∧ p2_12 = (nI (tk_s (rt_c qT e) e j_7))) ∨ ((rt_k (rt_c qT e) e j_7) = 2 ∧ ¬ 3 < (rt_h (rt_c qT e) e j_7 rW) ∧ r_18 = 1 ∧ f2_11 = rF ∧ p2_12 = rP ∧ d2_13 = (rt_h (rt_c qT e) e j_7 rW) ∧ n2_14 = nI (tk_e (rt_c qT e) e (tk_e (rt_c qT e) e j_7)) ∧ l2_17 = nI (tk_s (rt_c qT e) e (tk_e (rt_c qT e) e j_7)) ∧ t2_15 = rt_k (rt_c qT e) e (tk_e (rt_c qT e) e j_7) ∧ w2_16 = rt_h (rt_c qT e) e (tk_e (rt_c qT e) e j_7) (rt_h (rt_c qT e) e j_7 rW))), ((¬ r_18 = 0 → vp_in (20 + d2_13) 24 ∧ (((qr (20 + d2_13).toNatClampNeg) < 0 → ∃ j_23 : Nat, (j_23 ≤ e ∧ e ≤ 400 ∧ (∀ a, a < 77 → qW a = pz_wd.getD a 0) ∧ n2_14 = nI j_23) ∧ ∀ r_32 : Int32, ∀ f2_25 : Int32, ∀ p2_26 : Int32, ∀ d2_27 : Int32, ∀ n2_28 : Int32, ∀ t2_29 : Int32, ∀ w2_30 : Int32, ∀ l2_31 : Int32, ∀ _ : ((¬ t2_15 = 2 ∧ r_32 = 0 ∧ f2_25 = 1 ∧ p2_26 = l2_17) ∨ (t2_15 = 2 ∧ 999 < w2_16 ∧ r_32 = 0 ∧ f2_25 = 2 ∧ p2_26 = l2_17) ∨ (t2_15 = 2 ∧ ¬ 999 < w2_16 ∧ r_32 = 1 ∧ f2_25 = f2_11 ∧ p2_26 = p2_12 ∧ d2_27 = w2_16 ∧ n2_28 = nI (tk_e (rt_c qT e) e j_23) ∧ l2_31 = nI (tk_s (rt_c qT e) e j_23) ∧ t2_29 = rt_k (rt_c qT e) e j_23 ∧ w2_30 = rt_h (rt_c qT e) e j_23 w2_16)), ((¬ r_32 = 0 → vp_in (20 + d2_13) 24 ∧ ∀ f_36 : Nat → Int32, f_36 = upd qr (20 + d2_13).toNatClampNeg d2_27 → Post (some (.int 1)) [(h0, .inr (8, [.ref yt, .int rT, .int rH, .int (nI G), .ref yw, .int (nI K), .ref yp, .ref yg, .int (nI M), .ref yu, .int (nI N), .ref ysl, .ref yin, .ref yse, .ref ysp, .ref ypa, .int rA, .ref yb, .ref ybd, .ref ybc, .ref yr, .int f2_25, .int p2_26, .ref ywd, .int (nI e), .int n2_28, .int t2_29, .int w2_30, .int l2_31, .int d2_27, .ref yd, .int rI, .int rX, .int rY, .int rZ, .int rU, .ref yro, .ref yc, .ref ybe, .ref yco, .long rC, .long rV])), (yt, .inl (g.2.1 1, 400, .inl qT)), (ywd, .inl (g.2.1 1, 77, .inl qW)), (yr, .inl (g.2.1 1, 24, .inl f_36))]) ∧ (r_32 = 0 → Post (some (.int 0)) [(h0, .inr (8, [.ref yt, .int rT, .int rH, .int (nI G), .ref yw, .int (nI K), .ref yp, .ref yg, .int (nI M), .ref yu, .int (nI N), .ref ysl, .ref yin, .ref yse, .ref ysp, .ref ypa, .int rA, .ref yb, .ref ybd, .ref ybc, .ref yr, .int f2_25, .int p2_26, .ref ywd, .int (nI e), .int n2_28, .int t2_29, .int w2_30, .int l2_31, .int d2_27, .ref yd, .int rI, .int rX, .int rY, .int rZ, .int rU, .ref yro, .ref yc, .ref ybe, .ref yco, .long rC, .long rV])), (yt, .inl (g.2.1 1, 400, .inl qT)), (ywd, .inl (g.2.1 1, 77, .inl qW)), (yr, .inl (g.2.1 1, 24, .inl qr))]))) ∧ (¬ (qr (20 + d2_13).toNatClampNeg) < 0 → ∀ r_37 : Int32, ∀ _ : (r_37 = 0), narrow .boolean (.int r_37) = .int r_37 ∧ Post (some (.int r_37)) [(h0, .inr (8, [.ref yt, .int rT, .int rH, .int (nI G), .ref yw, .int (nI K), .ref yp, .ref yg, .int (nI M), .ref yu, .int (nI N), .ref ysl, .ref yin, .ref yse, .ref ysp, .ref ypa, .int rA, .ref yb, .ref ybd, .ref ybc, .ref yr, .int 3, .int (nI (tk_s (rt_c qT e) e j_7)), .ref ywd, .int (nI e), .int n2_14, .int t2_15, .int w2_16, .int l2_17, .int d2_13, .ref yd, .int rI, .int rX, .int rY, .int rZ, .int rU, .ref yro, .ref yc, .ref ybe, .ref yco, .long rC, .long rV])), (yt, .inl (g.2.1 1, 400, .inl qT)), (ywd, .inl (g.2.1 1, 77, .inl qW)), (yr, .inl (g.2.1 1, 24, .inl qr))]))) ∧ (r_18 = 0 → Post (some (.int 0)) [(h0, .inr (8, [.ref yt, .int rT, .int rH, .int (nI G), .ref yw, .int (nI K), .ref yp, .ref yg, .int (nI M), .ref yu, .int (nI N), .ref ysl, .ref yin, .ref yse, .ref ysp, .ref ypa, .int rA, .ref yb, .ref ybd, .ref ybc, .ref yr, .int f2_11, .int p2_12, .ref ywd, .int (nI e), .int n2_14, .int t2_15, .int w2_16, .int l2_17, .int d2_13, .ref yd, .int rI, .int rX, .int rY, .int rZ, .int rU, .ref yro, .ref yc, .ref ybe, .ref yco, .long rC, .long rV])), (yt, .inl (g.2.1 1, 400, .inl qT)), (ywd, .inl (g.2.1 1, 77, .inl qW)), (yr, .inl (g.2.1 1, 24, .inl qr))]))))) ∧ (¬ rW ≤ 8 → ∀ r_40 : Int32, ∀ _ : (r_40 = 0), narrow .boolean (.int r_40) = .int r_40 ∧ Post (some (.int r_40)) [(h0, .inr (8, [.ref yt, .int rT, .int rH, .int (nI G), .ref yw, .int (nI K), .ref yp, .ref yg, .int (nI M), .ref yu, .int (nI N), .ref ysl, .ref yin, .ref yse, .ref ysp, .ref ypa, .int rA, .ref yb, .ref ybd, .ref ybc, .ref yr, .int 1, .int rL, .ref ywd, .int (nI e), .int rN, .int rO, .int rW, .int rL, .int rD, .ref yd, .int rI, .int rX, .int rY, .int rZ, .int rU, .ref yro, .ref yc, .ref ybe, .ref yco, .long rC, .long rV])), (yt, .inl (g.2.1 1, 400, .inl qT)), (ywd, .inl (g.2.1 1, 77, .inl qW)), (yr, .inl (g.2.1 1, 24, .inl qr))]))))) : pz_At B 0 0 0 [(0, .ref h0)] [] [(h0, .inr (8, [.ref yt, .int rT, .int rH, .int (nI G), .ref yw, .int (nI K), .ref yp, .ref yg, .int (nI M), .ref yu, .int (nI N), .ref ysl, .ref yin, .ref yse, .ref ysp, .ref ypa, .int rA, .ref yb, .ref ybd, .ref ybc, .ref yr, .int rF, .int rP, .ref ywd, .int (nI e), .int rN, .int rO, .int rW, .int rL, .int rD, .ref yd, .int rI, .int rX, .int rY, .int rZ, .int rU, .ref yro, .ref yc, .ref ybe, .ref yco, .long rC, .long rV])), (yt, .inl (g.2.1 1, 400, .inl qT)), (ywd, .inl (g.2.1 1, 77, .inl qW)), (yr, .inl (g.2.1 1, 24, .inl qr))] := by
  refine pz_aload_n 0 F rfl dX9_line_0 rfl ?_
  refine pz_get (ci := 8) (C := RX9) (T := TX9) (N := 42) (v := .int rO) 0 F rfl rfl pz_inX9 26 (by decide) pw_834 rfl dX9_line_1 ?_
  refine pz_iconst (v := 1) F dX9_line_4 rfl ?_
  refine pz_icmp_ne (tgt := 17) F dX9_line_5 (by decide) (fun q_1 => ?_) (fun q_1 => ?_)
  · replace vc := vc.1 q_1
    refine pz_aload_n 0 F rfl dX9_line_17 rfl ?_
    refine pz_iconst (v := 1) F dX9_line_18 rfl ?_
    refine pz_aload_n 0 F rfl dX9_line_19 rfl ?_
    refine pz_get (ci := 8) (C := RX9) (T := TX9) (N := 42) (v := .int rL) 0 F rfl rfl pz_inX9 28 (by decide) pw_836 rfl dX9_line_20 ?_
    refine pz_callV (nA := 2) (ci := 8) (C := RX9) (T := TX9) (N := 42) (As := [.int 1, .int rL]) (rest := []) (wr := [(yt, .inl (g.2.1 1, 400, .inl qT)), (ywd, .inl (g.2.1 1, 77, .inl qW)), (yr, .inl (g.2.1 1, 24, .inl qr))]) F (ctX9_wrong _ g 1 rL h0 yt rT rH yw yp yg yu ysl yin yse ysp ypa rA yb ybd ybc yr rF rP ywd (nI e) rN rO rW rL rD yd rI rX rY rZ rU yro yc ybe yco rC rV G K M N) 0 rfl rfl pw_968 pw_970 pv_32 pw_8 pw_971 (by decide +kernel) (by decide) (by decide) rfl rfl (Nat.le_of_ble_eq_true rfl) [0] [1, 2, 3] rfl rfl rfl rfl (by decide) dX9_line_23 (fun r0 w0 hp0 => ?_)
    obtain ⟨r_2, _, rfl, rfl, hq_3⟩ := hp0
    replace vc := vc r_2  hq_3
    refine pz_eq (st' := [.int r_2]) (ws' := [(yt, .inl (g.2.1 1, 400, .inl qT)), (ywd, .inl (g.2.1 1, 77, .inl qW)), (yr, .inl (g.2.1 1, 24, .inl qr)), (h0, .inr (8, [.ref yt, .int rT, .int rH, .int (nI G), .ref yw, .int (nI K), .ref yp, .ref yg, .int (nI M), .ref yu, .int (nI N), .ref ysl, .ref yin, .ref yse, .ref ysp, .ref ypa, .int rA, .ref yb, .ref ybd, .ref ybc, .ref yr, .int 1, .int rL, .ref ywd, .int (nI e), .int rN, .int rO, .int rW, .int rL, .int rD, .ref yd, .int rI, .int rX, .int rY, .int rZ, .int rU, .ref yro, .ref yc, .ref ybe, .ref yco, .long rC, .long rV]))]) rfl rfl ?_
    obtain ⟨h_4, vc⟩ := vc
    exact pz_ireturn (w1 := [(h0, .inr (8, [.ref yt, .int rT, .int rH, .int (nI G), .ref yw, .int (nI K), .ref yp, .ref yg, .int (nI M), .ref yu, .int (nI N), .ref ysl, .ref yin, .ref yse, .ref ysp, .ref ypa, .int rA, .ref yb, .ref ybd, .ref ybc, .ref yr, .int 1, .int rL, .ref ywd, .int (nI e), .int rN, .int rO, .int rW, .int rL, .int rD, .ref yd, .int rI, .int rX, .int rY, .int rZ, .int rU, .ref yro, .ref yc, .ref ybe, .ref yco, .long rC, .long rV])), (yt, .inl (g.2.1 1, 400, .inl qT)), (ywd, .inl (g.2.1 1, 77, .inl qW)), (yr, .inl (g.2.1 1, 24, .inl qr))]) F Rt (by decide) (by decide) dX9_line_26 [3, 0, 1, 2] rfl rfl h_4 vc
  · replace vc := vc.2 q_1
    refine pz_aload_n 0 F rfl dX9_line_8 rfl ?_
    refine pz_get (ci := 8) (C := RX9) (T := TX9) (N := 42) (v := .int rW) 0 F rfl rfl pz_inX9 27 (by decide) pw_835 rfl dX9_line_9 ?_
    refine pz_bipush (v := 8) F dX9_line_12 rfl ?_
    refine pz_icmp_le (tgt := 27) F dX9_line_14 (by decide) (fun q_5 => ?_) (fun q_5 => ?_)
    · replace vc := vc.1 q_5
      refine pz_aload_n 0 F rfl dX9_line_27 rfl ?_
      refine pz_get (ci := 8) (C := RX9) (T := TX9) (N := 42) (v := .int rW) 0 F rfl rfl pz_inX9 27 (by decide) pw_835 rfl dX9_line_28 ?_
      refine pz_istore_n (lv' := [(1, .int rW), (0, .ref h0)]) F dX9_line_31 rfl (by decide) rfl ?_
      refine pz_iload_n 0 F rfl dX9_line_32 rfl ?_
      refine pz_bipush (v := 8) F dX9_line_33 rfl ?_
      refine pz_icmp_ne (tgt := 108) F dX9_line_35 (by decide) (fun q_6 => ?_) (fun q_6 => ?_)
      · replace vc := vc.1 q_6
        exact pz_sub [1, 0] [0, 1, 2, 3] rfl rfl rfl (hT108 rW vc)
      · replace vc := vc.2 q_6
        refine pz_aload_n 1 F rfl dX9_line_38 rfl ?_
        obtain ⟨j_7, vc⟩ := vc
        obtain ⟨h_8, vc⟩ := vc
        refine pz_callV (nA := 0) (ci := 8) (C := RX9) (T := TX9) (N := 42) (As := []) (rest := []) (wr := [(yr, .inl (g.2.1 1, 24, .inl qr))]) F (ctX9_take _ g h0 yt rT rH yw yp yg yu ysl yin yse ysp ypa rA yb ybd ybc yr rF rP ywd rN rO rW rL rD yd rI rX rY rZ rU yro yc ybe yco rC rV qT qW G K M N e j_7 h_8) 0 rfl rfl pw_947 pw_949 pv_27 pw_8 pw_950 (by decide +kernel) (by decide) (by decide) rfl rfl (Nat.le_of_ble_eq_true rfl) [0, 1, 2] [3] rfl rfl rfl rfl (by decide) dX9_line_39 (fun r0 w0 hp0 => ?_)
        obtain ⟨_, rfl, rfl, hq_9⟩ := hp0
        replace vc := vc  hq_9
        refine pz_eq (st' := []) (ws' := [(yr, .inl (g.2.1 1, 24, .inl qr)), (h0, .inr (8, [.ref yt, .int rT, .int rH, .int (nI G), .ref yw, .int (nI K), .ref yp, .ref yg, .int (nI M), .ref yu, .int (nI N), .ref ysl, .ref yin, .ref yse, .ref ysp, .ref ypa, .int rA, .ref yb, .ref ybd, .ref ybc, .ref yr, .int rF, .int rP, .ref ywd, .int (nI e), .int (nI (tk_e (rt_c qT e) e j_7)), .int (rt_k (rt_c qT e) e j_7), .int (rt_h (rt_c qT e) e j_7 rW), .int (nI (tk_s (rt_c qT e) e j_7)), .int rD, .ref yd, .int rI, .int rX, .int rY, .int rZ, .int rU, .ref yro, .ref yc, .ref ybe, .ref yco, .long rC, .long rV])), (yt, .inl (g.2.1 1, 400, .inl qT)), (ywd, .inl (g.2.1 1, 77, .inl qW))]) rfl rfl ?_
        refine pz_aload_n 1 F rfl dX9_line_42 rfl ?_
        refine pz_get (ci := 8) (C := RX9) (T := TX9) (N := 42) (v := .int (nI (tk_s (rt_c qT e) e j_7))) 1 F rfl rfl pz_inX9 28 (by decide) pw_836 rfl dX9_line_43 ?_
        refine pz_istore_n (lv' := [(2, .int (nI (tk_s (rt_c qT e) e j_7))), (1, .int rW), (0, .ref h0)]) F dX9_line_46 rfl (by decide) rfl ?_
        refine pz_aload_n 2 F rfl dX9_line_47 rfl ?_
        refine pz_iconst (v := 3) F dX9_line_48 rfl ?_
        obtain ⟨h_10, vc⟩ := vc
        refine pz_callV (nA := 1) (ci := 8) (C := RX9) (T := TX9) (N := 42) (As := [.int 3]) (rest := []) (wr := [(yr, .inl (g.2.1 1, 24, .inl qr))]) F (ctX9_number _ g 3 h0 yt rT rH yw yp yg yu ysl yin yse ysp ypa rA yb ybd ybc yr rF rP ywd (nI (tk_e (rt_c qT e) e j_7)) (rt_k (rt_c qT e) e j_7) (rt_h (rt_c qT e) e j_7 rW) (nI (tk_s (rt_c qT e) e j_7)) rD yd rI rX rY rZ rU yro yc ybe yco rC rV qT qW G K M N e (tk_e (rt_c qT e) e j_7) h_10) 1 rfl rfl pw_972 pw_974 pv_33 pw_8 pw_975 (by decide +kernel) (by decide) (by decide) rfl rfl (Nat.le_of_ble_eq_true rfl) [1, 2, 3] [0] rfl rfl rfl rfl (by decide) dX9_line_49 (fun r0 w0 hp0 => ?_)
        obtain ⟨r_18, ⟨f2_11, p2_12, d2_13, n2_14, t2_15, w2_16, l2_17⟩, rfl, rfl, hq_19⟩ := hp0
        replace vc := vc r_18 f2_11 p2_12 d2_13 n2_14 t2_15 w2_16 l2_17 hq_19
        refine pz_eq (st' := [.int r_18]) (ws' := [(yr, .inl (g.2.1 1, 24, .inl qr)), (h0, .inr (8, [.ref yt, .int rT, .int rH, .int (nI G), .ref yw, .int (nI K), .ref yp, .ref yg, .int (nI M), .ref yu, .int (nI N), .ref ysl, .ref yin, .ref yse, .ref ysp, .ref ypa, .int rA, .ref yb, .ref ybd, .ref ybc, .ref yr, .int f2_11, .int p2_12, .ref ywd, .int (nI e), .int n2_14, .int t2_15, .int w2_16, .int l2_17, .int d2_13, .ref yd, .int rI, .int rX, .int rY, .int rZ, .int rU, .ref yro, .ref yc, .ref ybe, .ref yco, .long rC, .long rV])), (yt, .inl (g.2.1 1, 400, .inl qT)), (ywd, .inl (g.2.1 1, 77, .inl qW))]) rfl rfl ?_
        refine pz_if_ne (tgt := 57) F dX9_line_52 (by decide) (fun q_20 => ?_) (fun q_20 => ?_)
        · replace vc := vc.1 q_20
          refine pz_aload_n 2 F rfl dX9_line_57 rfl ?_
          refine pz_get (ci := 8) (C := RX9) (T := TX9) (N := 42) (v := .int d2_13) 1 F rfl rfl pz_inX9 29 (by decide) pw_837 rfl dX9_line_58 ?_
          refine pz_istore_n (lv' := [(3, .int d2_13), (2, .int (nI (tk_s (rt_c qT e) e j_7))), (1, .int rW), (0, .ref h0)]) F dX9_line_61 rfl (by decide) rfl ?_
          refine pz_aload_n 3 F rfl dX9_line_62 rfl ?_
          refine pz_get (ci := 8) (C := RX9) (T := TX9) (N := 42) (v := .ref yr) 1 F rfl rfl pz_inX9 20 (by decide) pw_828 rfl dX9_line_63 ?_
          refine pz_bipush (v := 20) F dX9_line_66 rfl ?_
          refine pz_iload_n 0 F rfl dX9_line_68 rfl ?_
          refine pz_iadd F dX9_line_69 ?_
          obtain ⟨h_21, vc⟩ := vc
          refine pz_iaload 0 F rfl h_21 dX9_line_70 ?_
          refine pz_if_lt (tgt := 81) F dX9_line_71 (by decide) (fun q_22 => ?_) (fun q_22 => ?_)
          · replace vc := vc.1 q_22
            refine pz_aload_n 3 F rfl dX9_line_81 rfl ?_
            refine pz_sipush (v := 999) F dX9_line_82 rfl ?_
            obtain ⟨j_23, vc⟩ := vc
            obtain ⟨h_24, vc⟩ := vc
            refine pz_callV (nA := 1) (ci := 8) (C := RX9) (T := TX9) (N := 42) (As := [.int 999]) (rest := []) (wr := [(yr, .inl (g.2.1 1, 24, .inl qr))]) F (ctX9_number _ g 999 h0 yt rT rH yw yp yg yu ysl yin yse ysp ypa rA yb ybd ybc yr f2_11 p2_12 ywd n2_14 t2_15 w2_16 l2_17 d2_13 yd rI rX rY rZ rU yro yc ybe yco rC rV qT qW G K M N e j_23 h_24) 1 rfl rfl pw_972 pw_974 pv_33 pw_8 pw_975 (by decide +kernel) (by decide) (by decide) rfl rfl (Nat.le_of_ble_eq_true rfl) [1, 2, 3] [0] rfl rfl rfl rfl (by decide) dX9_line_85 (fun r0 w0 hp0 => ?_)
            obtain ⟨r_32, ⟨f2_25, p2_26, d2_27, n2_28, t2_29, w2_30, l2_31⟩, rfl, rfl, hq_33⟩ := hp0
            replace vc := vc r_32 f2_25 p2_26 d2_27 n2_28 t2_29 w2_30 l2_31 hq_33
            refine pz_eq (st' := [.int r_32]) (ws' := [(yr, .inl (g.2.1 1, 24, .inl qr)), (h0, .inr (8, [.ref yt, .int rT, .int rH, .int (nI G), .ref yw, .int (nI K), .ref yp, .ref yg, .int (nI M), .ref yu, .int (nI N), .ref ysl, .ref yin, .ref yse, .ref ysp, .ref ypa, .int rA, .ref yb, .ref ybd, .ref ybc, .ref yr, .int f2_25, .int p2_26, .ref ywd, .int (nI e), .int n2_28, .int t2_29, .int w2_30, .int l2_31, .int d2_27, .ref yd, .int rI, .int rX, .int rY, .int rZ, .int rU, .ref yro, .ref yc, .ref ybe, .ref yco, .long rC, .long rV])), (yt, .inl (g.2.1 1, 400, .inl qT)), (ywd, .inl (g.2.1 1, 77, .inl qW))]) rfl rfl ?_
            refine pz_if_ne (tgt := 93) F dX9_line_88 (by decide) (fun q_34 => ?_) (fun q_34 => ?_)
            · replace vc := vc.1 q_34
              refine pz_aload_n 3 F rfl dX9_line_93 rfl ?_
              refine pz_get (ci := 8) (C := RX9) (T := TX9) (N := 42) (v := .ref yr) 1 F rfl rfl pz_inX9 20 (by decide) pw_828 rfl dX9_line_94 ?_
              refine pz_bipush (v := 20) F dX9_line_97 rfl ?_
              refine pz_iload_n 0 F rfl dX9_line_99 rfl ?_
              refine pz_iadd F dX9_line_100 ?_
              refine pz_aload_n 3 F rfl dX9_line_101 rfl ?_
              refine pz_get (ci := 8) (C := RX9) (T := TX9) (N := 42) (v := .int d2_27) 1 F rfl rfl pz_inX9 29 (by decide) pw_837 rfl dX9_line_102 ?_
              obtain ⟨h_35, vc⟩ := vc
              obtain ⟨f_36, ef_36⟩ : ∃ z : Nat → Int32, z = upd qr (20 + d2_13).toNatClampNeg d2_27 := ⟨_, rfl⟩
              replace vc := vc f_36 ef_36
              refine pz_iastore (ws' := [(yr, .inl (g.2.1 1, 24, .inl f_36)), (h0, .inr (8, [.ref yt, .int rT, .int rH, .int (nI G), .ref yw, .int (nI K), .ref yp, .ref yg, .int (nI M), .ref yu, .int (nI N), .ref ysl, .ref yin, .ref yse, .ref ysp, .ref ypa, .int rA, .ref yb, .ref ybd, .ref ybc, .ref yr, .int f2_25, .int p2_26, .ref ywd, .int (nI e), .int n2_28, .int t2_29, .int w2_30, .int l2_31, .int d2_27, .ref yd, .int rI, .int rX, .int rY, .int rZ, .int rU, .ref yro, .ref yc, .ref ybe, .ref yco, .long rC, .long rV])), (yt, .inl (g.2.1 1, 400, .inl qT)), (ywd, .inl (g.2.1 1, 77, .inl qW))]) F 0 rfl h_35 dX9_line_105 (by rw [ef_36]; rfl) ?_
              refine pz_iconst (v := 1) F dX9_line_106 rfl ?_
              exact pz_ireturn (w1 := [(h0, .inr (8, [.ref yt, .int rT, .int rH, .int (nI G), .ref yw, .int (nI K), .ref yp, .ref yg, .int (nI M), .ref yu, .int (nI N), .ref ysl, .ref yin, .ref yse, .ref ysp, .ref ypa, .int rA, .ref yb, .ref ybd, .ref ybc, .ref yr, .int f2_25, .int p2_26, .ref ywd, .int (nI e), .int n2_28, .int t2_29, .int w2_30, .int l2_31, .int d2_27, .ref yd, .int rI, .int rX, .int rY, .int rZ, .int rU, .ref yro, .ref yc, .ref ybe, .ref yco, .long rC, .long rV])), (yt, .inl (g.2.1 1, 400, .inl qT)), (ywd, .inl (g.2.1 1, 77, .inl qW)), (yr, .inl (g.2.1 1, 24, .inl f_36))]) F Rt (by decide) (by decide) dX9_line_107 [1, 2, 3, 0] rfl rfl rfl vc
            · replace vc := vc.2 q_34
              refine pz_iconst (v := 0) F dX9_line_91 rfl ?_
              exact pz_ireturn (w1 := [(h0, .inr (8, [.ref yt, .int rT, .int rH, .int (nI G), .ref yw, .int (nI K), .ref yp, .ref yg, .int (nI M), .ref yu, .int (nI N), .ref ysl, .ref yin, .ref yse, .ref ysp, .ref ypa, .int rA, .ref yb, .ref ybd, .ref ybc, .ref yr, .int f2_25, .int p2_26, .ref ywd, .int (nI e), .int n2_28, .int t2_29, .int w2_30, .int l2_31, .int d2_27, .ref yd, .int rI, .int rX, .int rY, .int rZ, .int rU, .ref yro, .ref yc, .ref ybe, .ref yco, .long rC, .long rV])), (yt, .inl (g.2.1 1, 400, .inl qT)), (ywd, .inl (g.2.1 1, 77, .inl qW)), (yr, .inl (g.2.1 1, 24, .inl qr))]) F Rt (by decide) (by decide) dX9_line_92 [1, 2, 3, 0] rfl rfl rfl vc
          · replace vc := vc.2 q_22
            refine pz_aload_n 3 F rfl dX9_line_74 rfl ?_
            refine pz_iconst (v := 3) F dX9_line_75 rfl ?_
            refine pz_iload_n 1 F rfl dX9_line_76 rfl ?_
            refine pz_callV (nA := 2) (ci := 8) (C := RX9) (T := TX9) (N := 42) (As := [.int 3, .int (nI (tk_s (rt_c qT e) e j_7))]) (rest := []) (wr := [(yr, .inl (g.2.1 1, 24, .inl qr)), (yt, .inl (g.2.1 1, 400, .inl qT)), (ywd, .inl (g.2.1 1, 77, .inl qW))]) F (ctX9_wrong _ g 3 (nI (tk_s (rt_c qT e) e j_7)) h0 yt rT rH yw yp yg yu ysl yin yse ysp ypa rA yb ybd ybc yr f2_11 p2_12 ywd (nI e) n2_14 t2_15 w2_16 l2_17 d2_13 yd rI rX rY rZ rU yro yc ybe yco rC rV G K M N) 1 rfl rfl pw_968 pw_970 pv_32 pw_8 pw_971 (by decide +kernel) (by decide) (by decide) rfl rfl (Nat.le_of_ble_eq_true rfl) [1] [0, 2, 3] rfl rfl rfl rfl (by decide) dX9_line_77 (fun r0 w0 hp0 => ?_)
            obtain ⟨r_37, _, rfl, rfl, hq_38⟩ := hp0
            replace vc := vc r_37  hq_38
            refine pz_eq (st' := [.int r_37]) (ws' := [(yr, .inl (g.2.1 1, 24, .inl qr)), (yt, .inl (g.2.1 1, 400, .inl qT)), (ywd, .inl (g.2.1 1, 77, .inl qW)), (h0, .inr (8, [.ref yt, .int rT, .int rH, .int (nI G), .ref yw, .int (nI K), .ref yp, .ref yg, .int (nI M), .ref yu, .int (nI N), .ref ysl, .ref yin, .ref yse, .ref ysp, .ref ypa, .int rA, .ref yb, .ref ybd, .ref ybc, .ref yr, .int 3, .int (nI (tk_s (rt_c qT e) e j_7)), .ref ywd, .int (nI e), .int n2_14, .int t2_15, .int w2_16, .int l2_17, .int d2_13, .ref yd, .int rI, .int rX, .int rY, .int rZ, .int rU, .ref yro, .ref yc, .ref ybe, .ref yco, .long rC, .long rV]))]) rfl rfl ?_
            obtain ⟨h_39, vc⟩ := vc
            exact pz_ireturn (w1 := [(h0, .inr (8, [.ref yt, .int rT, .int rH, .int (nI G), .ref yw, .int (nI K), .ref yp, .ref yg, .int (nI M), .ref yu, .int (nI N), .ref ysl, .ref yin, .ref yse, .ref ysp, .ref ypa, .int rA, .ref yb, .ref ybd, .ref ybc, .ref yr, .int 3, .int (nI (tk_s (rt_c qT e) e j_7)), .ref ywd, .int (nI e), .int n2_14, .int t2_15, .int w2_16, .int l2_17, .int d2_13, .ref yd, .int rI, .int rX, .int rY, .int rZ, .int rU, .ref yro, .ref yc, .ref ybe, .ref yco, .long rC, .long rV])), (yt, .inl (g.2.1 1, 400, .inl qT)), (ywd, .inl (g.2.1 1, 77, .inl qW)), (yr, .inl (g.2.1 1, 24, .inl qr))]) F Rt (by decide) (by decide) dX9_line_80 [3, 1, 2, 0] rfl rfl h_39 vc
        · replace vc := vc.2 q_20
          refine pz_iconst (v := 0) F dX9_line_55 rfl ?_
          exact pz_ireturn (w1 := [(h0, .inr (8, [.ref yt, .int rT, .int rH, .int (nI G), .ref yw, .int (nI K), .ref yp, .ref yg, .int (nI M), .ref yu, .int (nI N), .ref ysl, .ref yin, .ref yse, .ref ysp, .ref ypa, .int rA, .ref yb, .ref ybd, .ref ybc, .ref yr, .int f2_11, .int p2_12, .ref ywd, .int (nI e), .int n2_14, .int t2_15, .int w2_16, .int l2_17, .int d2_13, .ref yd, .int rI, .int rX, .int rY, .int rZ, .int rU, .ref yro, .ref yc, .ref ybe, .ref yco, .long rC, .long rV])), (yt, .inl (g.2.1 1, 400, .inl qT)), (ywd, .inl (g.2.1 1, 77, .inl qW)), (yr, .inl (g.2.1 1, 24, .inl qr))]) F Rt (by decide) (by decide) dX9_line_56 [1, 2, 3, 0] rfl rfl rfl vc
    · replace vc := vc.2 q_5
      refine pz_aload_n 0 F rfl dX9_line_17 rfl ?_
      refine pz_iconst (v := 1) F dX9_line_18 rfl ?_
      refine pz_aload_n 0 F rfl dX9_line_19 rfl ?_
      refine pz_get (ci := 8) (C := RX9) (T := TX9) (N := 42) (v := .int rL) 0 F rfl rfl pz_inX9 28 (by decide) pw_836 rfl dX9_line_20 ?_
      refine pz_callV (nA := 2) (ci := 8) (C := RX9) (T := TX9) (N := 42) (As := [.int 1, .int rL]) (rest := []) (wr := [(yt, .inl (g.2.1 1, 400, .inl qT)), (ywd, .inl (g.2.1 1, 77, .inl qW)), (yr, .inl (g.2.1 1, 24, .inl qr))]) F (ctX9_wrong _ g 1 rL h0 yt rT rH yw yp yg yu ysl yin yse ysp ypa rA yb ybd ybc yr rF rP ywd (nI e) rN rO rW rL rD yd rI rX rY rZ rU yro yc ybe yco rC rV G K M N) 0 rfl rfl pw_968 pw_970 pv_32 pw_8 pw_971 (by decide +kernel) (by decide) (by decide) rfl rfl (Nat.le_of_ble_eq_true rfl) [0] [1, 2, 3] rfl rfl rfl rfl (by decide) dX9_line_23 (fun r0 w0 hp0 => ?_)
      obtain ⟨r_40, _, rfl, rfl, hq_41⟩ := hp0
      replace vc := vc r_40  hq_41
      refine pz_eq (st' := [.int r_40]) (ws' := [(yt, .inl (g.2.1 1, 400, .inl qT)), (ywd, .inl (g.2.1 1, 77, .inl qW)), (yr, .inl (g.2.1 1, 24, .inl qr)), (h0, .inr (8, [.ref yt, .int rT, .int rH, .int (nI G), .ref yw, .int (nI K), .ref yp, .ref yg, .int (nI M), .ref yu, .int (nI N), .ref ysl, .ref yin, .ref yse, .ref ysp, .ref ypa, .int rA, .ref yb, .ref ybd, .ref ybc, .ref yr, .int 1, .int rL, .ref ywd, .int (nI e), .int rN, .int rO, .int rW, .int rL, .int rD, .ref yd, .int rI, .int rX, .int rY, .int rZ, .int rU, .ref yro, .ref yc, .ref ybe, .ref yco, .long rC, .long rV]))]) rfl rfl ?_
      obtain ⟨h_42, vc⟩ := vc
      exact pz_ireturn (w1 := [(h0, .inr (8, [.ref yt, .int rT, .int rH, .int (nI G), .ref yw, .int (nI K), .ref yp, .ref yg, .int (nI M), .ref yu, .int (nI N), .ref ysl, .ref yin, .ref yse, .ref ysp, .ref ypa, .int rA, .ref yb, .ref ybd, .ref ybc, .ref yr, .int 1, .int rL, .ref ywd, .int (nI e), .int rN, .int rO, .int rW, .int rL, .int rD, .ref yd, .int rI, .int rX, .int rY, .int rZ, .int rU, .ref yro, .ref yc, .ref ybe, .ref yco, .long rC, .long rV])), (yt, .inl (g.2.1 1, 400, .inl qT)), (ywd, .inl (g.2.1 1, 77, .inl qW)), (yr, .inl (g.2.1 1, 24, .inl qr))]) F Rt (by decide) (by decide) dX9_line_26 [3, 0, 1, 2] rfl rfl h_42 vc
set_option maxHeartbeats 4000000 in
set_option maxRecDepth 100000 in
theorem sgX9_line_108 {B : pz_B} {g : pz_G} {wc : va_W} {Post : Option Value → va_W → Prop} (F : pz_F B cX9_line 4 (some .boolean) yX9_line.cls g rmX9_line) (Rt : pz_Rt B g wc Post rmX9_line) (h0 : Nat) (yt : Nat) (rT : Int32) (rH : Int32) (yw : Nat) (yp : Nat) (yg : Nat) (yu : Nat) (ysl : Nat) (yin : Nat) (yse : Nat) (ysp : Nat) (ypa : Nat) (rA : Int32) (yb : Nat) (ybd : Nat) (ybc : Nat) (yr : Nat) (rF : Int32) (rP : Int32) (ywd : Nat) (rN : Int32) (rO : Int32) (rW : Int32) (rL : Int32) (rD : Int32) (yd : Nat) (rI : Int32) (rX : Int32) (rY : Int32) (rZ : Int32) (rU : Int32) (yro : Nat) (yc : Nat) (ybe : Nat) (yco : Nat) (rC : Int64) (rV : Int64) (qT : Nat → Int32) (qW : Nat → Int32) (qr : Nat → Int32) (G : Nat) (K : Nat) (M : Nat) (N : Nat) (e : Nat) (j : Nat) (w0 : Int32) (to : Nat → Int32) (T167 : Int32 → Int32 → Int32 → Int32 → Int32 → Prop) (hT167 : ∀ (w : Int32) (n1 : Int32) (t1 : Int32) (w1 : Int32) (l1 : Int32), T167 w n1 t1 w1 l1 → paX9_line_167 B g h0 yt rT rH yw yp yg yu ysl yin yse ysp ypa rA yb ybd ybc yr rF rP ywd rN rO rW rL rD yd rI rX rY rZ rU yro yc ybe yco rC rV qT qW qr G K M N e j w0 to w n1 t1 w1 l1) (w : Int32) (vc : vp_in (12 + w) 24 ∧ (((qr (12 + w).toNatClampNeg) < 0 → ∃ j_3 : Nat, (j_3 ≤ e ∧ e ≤ 400 ∧ (∀ a, a < 77 → qW a = pz_wd.getD a 0) ∧ rN = nI j_3) ∧ ∀ _ : (True), ((w ≤ 2 → T167 w (nI (tk_e (rt_c qT e) e j_3)) (rt_k (rt_c qT e) e j_3) (rt_h (rt_c qT e) e j_3 rW) (nI (tk_s (rt_c qT e) e j_3))) ∧ (¬ w ≤ 2 → ∀ r_7 : Int32, ∀ _ : (r_7 = if w = 3 then 100 else if w = 5 then 100 else if w = 4 then 99999 else 999), ((tk_e (rt_c qT e) e j_3) ≤ e ∧ e ≤ 400 ∧ (∀ a, a < 77 → qW a = pz_wd.getD a 0) ∧ (nI (tk_e (rt_c qT e) e j_3)) = nI (tk_e (rt_c qT e) e j_3)) ∧ ∀ r_17 : Int32, ∀ f2_10 : Int32, ∀ p2_11 : Int32, ∀ d2_12 : Int32, ∀ n2_13 : Int32, ∀ t2_14 : Int32, ∀ w2_15 : Int32, ∀ l2_16 : Int32, ∀ _ : ((¬ (rt_k (rt_c qT e) e j_3) = 2 ∧ r_17 = 0 ∧ f2_10 = 1 ∧ p2_11 = (nI (tk_s (rt_c qT e) e j_3))) ∨ ((rt_k (rt_c qT e) e j_3) = 2 ∧ r_7 < (rt_h (rt_c qT e) e j_3 rW) ∧ r_17 = 0 ∧ f2_10 = 2 ∧ p2_11 = (nI (tk_s (rt_c qT e) e j_3))) ∨ ((rt_k (rt_c qT e) e j_3) = 2 ∧ ¬ r_7 < (rt_h (rt_c qT e) e j_3 rW) ∧ r_17 = 1 ∧ f2_10 = rF ∧ p2_11 = rP ∧ d2_12 = (rt_h (rt_c qT e) e j_3 rW) ∧ n2_13 = nI (tk_e (rt_c qT e) e (tk_e (rt_c qT e) e j_3)) ∧ l2_16 = nI (tk_s (rt_c qT e) e (tk_e (rt_c qT e) e j_3)) ∧ t2_14 = rt_k (rt_c qT e) e (tk_e (rt_c qT e) e j_3) ∧ w2_15 = rt_h (rt_c qT e) e (tk_e (rt_c qT e) e j_3) (rt_h (rt_c qT e) e j_3 rW))), ((¬ r_17 = 0 → vp_in (12 + w) 24 ∧ ∀ f_21 : Nat → Int32, f_21 = upd qr (12 + w).toNatClampNeg d2_12 → Post (some (.int 1)) [(h0, .inr (8, [.ref yt, .int rT, .int rH, .int (nI G), .ref yw, .int (nI K), .ref yp, .ref yg, .int (nI M), .ref yu, .int (nI N), .ref ysl, .ref yin, .ref yse, .ref ysp, .ref ypa, .int rA, .ref yb, .ref ybd, .ref ybc, .ref yr, .int f2_10, .int p2_11, .ref ywd, .int (nI e), .int n2_13, .int t2_14, .int w2_15, .int l2_16, .int d2_12, .ref yd, .int rI, .int rX, .int rY, .int rZ, .int rU, .ref yro, .ref yc, .ref ybe, .ref yco, .long rC, .long rV])), (yt, .inl (g.2.1 1, 400, .inl qT)), (ywd, .inl (g.2.1 1, 77, .inl qW)), (yr, .inl (g.2.1 1, 24, .inl f_21))]) ∧ (r_17 = 0 → Post (some (.int 0)) [(h0, .inr (8, [.ref yt, .int rT, .int rH, .int (nI G), .ref yw, .int (nI K), .ref yp, .ref yg, .int (nI M), .ref yu, .int (nI N), .ref ysl, .ref yin, .ref yse, .ref ysp, .ref ypa, .int rA, .ref yb, .ref ybd, .ref ybc, .ref yr, .int f2_10, .int p2_11, .ref ywd, .int (nI e), .int n2_13, .int t2_14, .int w2_15, .int l2_16, .int d2_12, .ref yd, .int rI, .int rX, .int rY, .int rZ, .int rU, .ref yro, .ref yc, .ref ybe, .ref yco, .long rC, .long rV])), (yt, .inl (g.2.1 1, 400, .inl qT)), (ywd, .inl (g.2.1 1, 77, .inl qW)), (yr, .inl (g.2.1 1, 24, .inl qr))]))))) ∧ (¬ (qr (12 + w).toNatClampNeg) < 0 → ∀ r_22 : Int32, ∀ _ : (r_22 = 0), narrow .boolean (.int r_22) = .int r_22 ∧ Post (some (.int r_22)) [(h0, .inr (8, [.ref yt, .int rT, .int rH, .int (nI G), .ref yw, .int (nI K), .ref yp, .ref yg, .int (nI M), .ref yu, .int (nI N), .ref ysl, .ref yin, .ref yse, .ref ysp, .ref ypa, .int rA, .ref yb, .ref ybd, .ref ybc, .ref yr, .int 3, .int rL, .ref ywd, .int (nI e), .int rN, .int rO, .int rW, .int rL, .int rD, .ref yd, .int rI, .int rX, .int rY, .int rZ, .int rU, .ref yro, .ref yc, .ref ybe, .ref yco, .long rC, .long rV])), (yt, .inl (g.2.1 1, 400, .inl qT)), (ywd, .inl (g.2.1 1, 77, .inl qW)), (yr, .inl (g.2.1 1, 24, .inl qr))]))) : pz_At B 0 0 108 [(0, .ref h0), (1, .int w)] [] [(h0, .inr (8, [.ref yt, .int rT, .int rH, .int (nI G), .ref yw, .int (nI K), .ref yp, .ref yg, .int (nI M), .ref yu, .int (nI N), .ref ysl, .ref yin, .ref yse, .ref ysp, .ref ypa, .int rA, .ref yb, .ref ybd, .ref ybc, .ref yr, .int rF, .int rP, .ref ywd, .int (nI e), .int rN, .int rO, .int rW, .int rL, .int rD, .ref yd, .int rI, .int rX, .int rY, .int rZ, .int rU, .ref yro, .ref yc, .ref ybe, .ref yco, .long rC, .long rV])), (yt, .inl (g.2.1 1, 400, .inl qT)), (ywd, .inl (g.2.1 1, 77, .inl qW)), (yr, .inl (g.2.1 1, 24, .inl qr))] := by
  refine pz_aload_n 0 F rfl dX9_line_108 rfl ?_
  refine pz_get (ci := 8) (C := RX9) (T := TX9) (N := 42) (v := .ref yr) 0 F rfl rfl pz_inX9 20 (by decide) pw_828 rfl dX9_line_109 ?_
  refine pz_bipush (v := 12) F dX9_line_112 rfl ?_
  refine pz_iload_n 1 F rfl dX9_line_114 rfl ?_
  refine pz_iadd F dX9_line_115 ?_
  obtain ⟨h_1, vc⟩ := vc
  refine pz_iaload 3 F rfl h_1 dX9_line_116 ?_
  refine pz_if_lt (tgt := 130) F dX9_line_117 (by decide) (fun q_2 => ?_) (fun q_2 => ?_)
  · replace vc := vc.1 q_2
    refine pz_aload_n 0 F rfl dX9_line_130 rfl ?_
    obtain ⟨j_3, vc⟩ := vc
    obtain ⟨h_4, vc⟩ := vc
    refine pz_callV (nA := 0) (ci := 8) (C := RX9) (T := TX9) (N := 42) (As := []) (rest := []) (wr := [(yr, .inl (g.2.1 1, 24, .inl qr))]) F (ctX9_take _ g h0 yt rT rH yw yp yg yu ysl yin yse ysp ypa rA yb ybd ybc yr rF rP ywd rN rO rW rL rD yd rI rX rY rZ rU yro yc ybe yco rC rV qT qW G K M N e j_3 h_4) 0 rfl rfl pw_947 pw_949 pv_27 pw_8 pw_950 (by decide +kernel) (by decide) (by decide) rfl rfl (Nat.le_of_ble_eq_true rfl) [0, 1, 2] [3] rfl rfl rfl rfl (by decide) dX9_line_131 (fun r0 w0 hp0 => ?_)
    obtain ⟨_, rfl, rfl, hq_5⟩ := hp0
    replace vc := vc  hq_5
    refine pz_eq (st' := []) (ws' := [(yr, .inl (g.2.1 1, 24, .inl qr)), (h0, .inr (8, [.ref yt, .int rT, .int rH, .int (nI G), .ref yw, .int (nI K), .ref yp, .ref yg, .int (nI M), .ref yu, .int (nI N), .ref ysl, .ref yin, .ref yse, .ref ysp, .ref ypa, .int rA, .ref yb, .ref ybd, .ref ybc, .ref yr, .int rF, .int rP, .ref ywd, .int (nI e), .int (nI (tk_e (rt_c qT e) e j_3)), .int (rt_k (rt_c qT e) e j_3), .int (rt_h (rt_c qT e) e j_3 rW), .int (nI (tk_s (rt_c qT e) e j_3)), .int rD, .ref yd, .int rI, .int rX, .int rY, .int rZ, .int rU, .ref yro, .ref yc, .ref ybe, .ref yco, .long rC, .long rV])), (yt, .inl (g.2.1 1, 400, .inl qT)), (ywd, .inl (g.2.1 1, 77, .inl qW))]) rfl rfl ?_
    refine pz_iload_n 1 F rfl dX9_line_134 rfl ?_
    refine pz_iconst (v := 2) F dX9_line_135 rfl ?_
    refine pz_icmp_le (tgt := 167) F dX9_line_136 (by decide) (fun q_6 => ?_) (fun q_6 => ?_)
    · replace vc := vc.1 q_6
      exact pz_sub [0, 1] [1, 2, 3, 0] rfl rfl rfl (hT167 w (nI (tk_e (rt_c qT e) e j_3)) (rt_k (rt_c qT e) e j_3) (rt_h (rt_c qT e) e j_3 rW) (nI (tk_s (rt_c qT e) e j_3)) vc)
    · replace vc := vc.2 q_6
      refine pz_aload_n 0 F rfl dX9_line_139 rfl ?_
      refine pz_iload_n 1 F rfl dX9_line_140 rfl ?_
      refine pz_callS (nA := 1) (As := [.int w]) (rest := [.ref h0]) (wr := [(yr, .inl (g.2.1 1, 24, .inl qr)), (h0, .inr (8, [.ref yt, .int rT, .int rH, .int (nI G), .ref yw, .int (nI K), .ref yp, .ref yg, .int (nI M), .ref yu, .int (nI N), .ref ysl, .ref yin, .ref yse, .ref ysp, .ref ypa, .int rA, .ref yb, .ref ybd, .ref ybc, .ref yr, .int rF, .int rP, .ref ywd, .int (nI e), .int (nI (tk_e (rt_c qT e) e j_3)), .int (rt_k (rt_c qT e) e j_3), .int (rt_h (rt_c qT e) e j_3 rW), .int (nI (tk_s (rt_c qT e) e j_3)), .int rD, .ref yd, .int rI, .int rX, .int rY, .int rZ, .int rU, .ref yro, .ref yc, .ref ybe, .ref yco, .long rC, .long rV])), (yt, .inl (g.2.1 1, 400, .inl qT)), (ywd, .inl (g.2.1 1, 77, .inl qW))]) F (ctX9_most _ g w) pw_976 pw_977 pw_8 pw_978 (by decide +kernel) (by decide) (by decide) rfl rfl (Nat.le_of_ble_eq_true rfl) [] [0, 1, 2, 3] rfl rfl rfl rfl (by decide) dX9_line_141 (fun r0 w0 hp0 => ?_)
      obtain ⟨r_7, _, rfl, rfl, hq_8⟩ := hp0
      replace vc := vc r_7  hq_8
      refine pz_eq (st' := [.int r_7, .ref h0]) (ws' := [(yr, .inl (g.2.1 1, 24, .inl qr)), (h0, .inr (8, [.ref yt, .int rT, .int rH, .int (nI G), .ref yw, .int (nI K), .ref yp, .ref yg, .int (nI M), .ref yu, .int (nI N), .ref ysl, .ref yin, .ref yse, .ref ysp, .ref ypa, .int rA, .ref yb, .ref ybd, .ref ybc, .ref yr, .int rF, .int rP, .ref ywd, .int (nI e), .int (nI (tk_e (rt_c qT e) e j_3)), .int (rt_k (rt_c qT e) e j_3), .int (rt_h (rt_c qT e) e j_3 rW), .int (nI (tk_s (rt_c qT e) e j_3)), .int rD, .ref yd, .int rI, .int rX, .int rY, .int rZ, .int rU, .ref yro, .ref yc, .ref ybe, .ref yco, .long rC, .long rV])), (yt, .inl (g.2.1 1, 400, .inl qT)), (ywd, .inl (g.2.1 1, 77, .inl qW))]) rfl rfl ?_
      obtain ⟨h_9, vc⟩ := vc
      refine pz_callV (nA := 1) (ci := 8) (C := RX9) (T := TX9) (N := 42) (As := [.int r_7]) (rest := []) (wr := [(yr, .inl (g.2.1 1, 24, .inl qr))]) F (ctX9_number _ g r_7 h0 yt rT rH yw yp yg yu ysl yin yse ysp ypa rA yb ybd ybc yr rF rP ywd (nI (tk_e (rt_c qT e) e j_3)) (rt_k (rt_c qT e) e j_3) (rt_h (rt_c qT e) e j_3 rW) (nI (tk_s (rt_c qT e) e j_3)) rD yd rI rX rY rZ rU yro yc ybe yco rC rV qT qW G K M N e (tk_e (rt_c qT e) e j_3) h_9) 1 rfl rfl pw_972 pw_974 pv_33 pw_8 pw_975 (by decide +kernel) (by decide) (by decide) rfl rfl (Nat.le_of_ble_eq_true rfl) [1, 2, 3] [0] rfl rfl rfl rfl (by decide) dX9_line_144 (fun r0 w0 hp0 => ?_)
      obtain ⟨r_17, ⟨f2_10, p2_11, d2_12, n2_13, t2_14, w2_15, l2_16⟩, rfl, rfl, hq_18⟩ := hp0
      replace vc := vc r_17 f2_10 p2_11 d2_12 n2_13 t2_14 w2_15 l2_16 hq_18
      refine pz_eq (st' := [.int r_17]) (ws' := [(yr, .inl (g.2.1 1, 24, .inl qr)), (h0, .inr (8, [.ref yt, .int rT, .int rH, .int (nI G), .ref yw, .int (nI K), .ref yp, .ref yg, .int (nI M), .ref yu, .int (nI N), .ref ysl, .ref yin, .ref yse, .ref ysp, .ref ypa, .int rA, .ref yb, .ref ybd, .ref ybc, .ref yr, .int f2_10, .int p2_11, .ref ywd, .int (nI e), .int n2_13, .int t2_14, .int w2_15, .int l2_16, .int d2_12, .ref yd, .int rI, .int rX, .int rY, .int rZ, .int rU, .ref yro, .ref yc, .ref ybe, .ref yco, .long rC, .long rV])), (yt, .inl (g.2.1 1, 400, .inl qT)), (ywd, .inl (g.2.1 1, 77, .inl qW))]) rfl rfl ?_
      refine pz_if_ne (tgt := 152) F dX9_line_147 (by decide) (fun q_19 => ?_) (fun q_19 => ?_)
      · replace vc := vc.1 q_19
        refine pz_aload_n 0 F rfl dX9_line_152 rfl ?_
        refine pz_get (ci := 8) (C := RX9) (T := TX9) (N := 42) (v := .ref yr) 1 F rfl rfl pz_inX9 20 (by decide) pw_828 rfl dX9_line_153 ?_
        refine pz_bipush (v := 12) F dX9_line_156 rfl ?_
        refine pz_iload_n 1 F rfl dX9_line_158 rfl ?_
        refine pz_iadd F dX9_line_159 ?_
        refine pz_aload_n 0 F rfl dX9_line_160 rfl ?_
        refine pz_get (ci := 8) (C := RX9) (T := TX9) (N := 42) (v := .int d2_12) 1 F rfl rfl pz_inX9 29 (by decide) pw_837 rfl dX9_line_161 ?_
        obtain ⟨h_20, vc⟩ := vc
        obtain ⟨f_21, ef_21⟩ : ∃ z : Nat → Int32, z = upd qr (12 + w).toNatClampNeg d2_12 := ⟨_, rfl⟩
        replace vc := vc f_21 ef_21
        refine pz_iastore (ws' := [(yr, .inl (g.2.1 1, 24, .inl f_21)), (h0, .inr (8, [.ref yt, .int rT, .int rH, .int (nI G), .ref yw, .int (nI K), .ref yp, .ref yg, .int (nI M), .ref yu, .int (nI N), .ref ysl, .ref yin, .ref yse, .ref ysp, .ref ypa, .int rA, .ref yb, .ref ybd, .ref ybc, .ref yr, .int f2_10, .int p2_11, .ref ywd, .int (nI e), .int n2_13, .int t2_14, .int w2_15, .int l2_16, .int d2_12, .ref yd, .int rI, .int rX, .int rY, .int rZ, .int rU, .ref yro, .ref yc, .ref ybe, .ref yco, .long rC, .long rV])), (yt, .inl (g.2.1 1, 400, .inl qT)), (ywd, .inl (g.2.1 1, 77, .inl qW))]) F 0 rfl h_20 dX9_line_164 (by rw [ef_21]; rfl) ?_
        refine pz_iconst (v := 1) F dX9_line_165 rfl ?_
        exact pz_ireturn (w1 := [(h0, .inr (8, [.ref yt, .int rT, .int rH, .int (nI G), .ref yw, .int (nI K), .ref yp, .ref yg, .int (nI M), .ref yu, .int (nI N), .ref ysl, .ref yin, .ref yse, .ref ysp, .ref ypa, .int rA, .ref yb, .ref ybd, .ref ybc, .ref yr, .int f2_10, .int p2_11, .ref ywd, .int (nI e), .int n2_13, .int t2_14, .int w2_15, .int l2_16, .int d2_12, .ref yd, .int rI, .int rX, .int rY, .int rZ, .int rU, .ref yro, .ref yc, .ref ybe, .ref yco, .long rC, .long rV])), (yt, .inl (g.2.1 1, 400, .inl qT)), (ywd, .inl (g.2.1 1, 77, .inl qW)), (yr, .inl (g.2.1 1, 24, .inl f_21))]) F Rt (by decide) (by decide) dX9_line_166 [1, 2, 3, 0] rfl rfl rfl vc
      · replace vc := vc.2 q_19
        refine pz_iconst (v := 0) F dX9_line_150 rfl ?_
        exact pz_ireturn (w1 := [(h0, .inr (8, [.ref yt, .int rT, .int rH, .int (nI G), .ref yw, .int (nI K), .ref yp, .ref yg, .int (nI M), .ref yu, .int (nI N), .ref ysl, .ref yin, .ref yse, .ref ysp, .ref ypa, .int rA, .ref yb, .ref ybd, .ref ybc, .ref yr, .int f2_10, .int p2_11, .ref ywd, .int (nI e), .int n2_13, .int t2_14, .int w2_15, .int l2_16, .int d2_12, .ref yd, .int rI, .int rX, .int rY, .int rZ, .int rU, .ref yro, .ref yc, .ref ybe, .ref yco, .long rC, .long rV])), (yt, .inl (g.2.1 1, 400, .inl qT)), (ywd, .inl (g.2.1 1, 77, .inl qW)), (yr, .inl (g.2.1 1, 24, .inl qr))]) F Rt (by decide) (by decide) dX9_line_151 [1, 2, 3, 0] rfl rfl rfl vc
  · replace vc := vc.2 q_2
    refine pz_aload_n 0 F rfl dX9_line_120 rfl ?_
    refine pz_iconst (v := 3) F dX9_line_121 rfl ?_
    refine pz_aload_n 0 F rfl dX9_line_122 rfl ?_
    refine pz_get (ci := 8) (C := RX9) (T := TX9) (N := 42) (v := .int rL) 0 F rfl rfl pz_inX9 28 (by decide) pw_836 rfl dX9_line_123 ?_
    refine pz_callV (nA := 2) (ci := 8) (C := RX9) (T := TX9) (N := 42) (As := [.int 3, .int rL]) (rest := []) (wr := [(yt, .inl (g.2.1 1, 400, .inl qT)), (ywd, .inl (g.2.1 1, 77, .inl qW)), (yr, .inl (g.2.1 1, 24, .inl qr))]) F (ctX9_wrong _ g 3 rL h0 yt rT rH yw yp yg yu ysl yin yse ysp ypa rA yb ybd ybc yr rF rP ywd (nI e) rN rO rW rL rD yd rI rX rY rZ rU yro yc ybe yco rC rV G K M N) 0 rfl rfl pw_968 pw_970 pv_32 pw_8 pw_971 (by decide +kernel) (by decide) (by decide) rfl rfl (Nat.le_of_ble_eq_true rfl) [0] [1, 2, 3] rfl rfl rfl rfl (by decide) dX9_line_126 (fun r0 w0 hp0 => ?_)
    obtain ⟨r_22, _, rfl, rfl, hq_23⟩ := hp0
    replace vc := vc r_22  hq_23
    refine pz_eq (st' := [.int r_22]) (ws' := [(yt, .inl (g.2.1 1, 400, .inl qT)), (ywd, .inl (g.2.1 1, 77, .inl qW)), (yr, .inl (g.2.1 1, 24, .inl qr)), (h0, .inr (8, [.ref yt, .int rT, .int rH, .int (nI G), .ref yw, .int (nI K), .ref yp, .ref yg, .int (nI M), .ref yu, .int (nI N), .ref ysl, .ref yin, .ref yse, .ref ysp, .ref ypa, .int rA, .ref yb, .ref ybd, .ref ybc, .ref yr, .int 3, .int rL, .ref ywd, .int (nI e), .int rN, .int rO, .int rW, .int rL, .int rD, .ref yd, .int rI, .int rX, .int rY, .int rZ, .int rU, .ref yro, .ref yc, .ref ybe, .ref yco, .long rC, .long rV]))]) rfl rfl ?_
    obtain ⟨h_24, vc⟩ := vc
    exact pz_ireturn (w1 := [(h0, .inr (8, [.ref yt, .int rT, .int rH, .int (nI G), .ref yw, .int (nI K), .ref yp, .ref yg, .int (nI M), .ref yu, .int (nI N), .ref ysl, .ref yin, .ref yse, .ref ysp, .ref ypa, .int rA, .ref yb, .ref ybd, .ref ybc, .ref yr, .int 3, .int rL, .ref ywd, .int (nI e), .int rN, .int rO, .int rW, .int rL, .int rD, .ref yd, .int rI, .int rX, .int rY, .int rZ, .int rU, .ref yro, .ref yc, .ref ybe, .ref yco, .long rC, .long rV])), (yt, .inl (g.2.1 1, 400, .inl qT)), (ywd, .inl (g.2.1 1, 77, .inl qW)), (yr, .inl (g.2.1 1, 24, .inl qr))]) F Rt (by decide) (by decide) dX9_line_129 [3, 0, 1, 2] rfl rfl h_24 vc
set_option maxHeartbeats 4000000 in
set_option maxRecDepth 100000 in
theorem sgX9_line_167 {B : pz_B} {g : pz_G} {wc : va_W} {Post : Option Value → va_W → Prop} (F : pz_F B cX9_line 4 (some .boolean) yX9_line.cls g rmX9_line) (Rt : pz_Rt B g wc Post rmX9_line) (h0 : Nat) (yt : Nat) (rT : Int32) (rH : Int32) (yw : Nat) (yp : Nat) (yg : Nat) (yu : Nat) (ysl : Nat) (yin : Nat) (yse : Nat) (ysp : Nat) (ypa : Nat) (rA : Int32) (yb : Nat) (ybd : Nat) (ybc : Nat) (yr : Nat) (rF : Int32) (rP : Int32) (ywd : Nat) (rN : Int32) (rO : Int32) (rW : Int32) (rL : Int32) (rD : Int32) (yd : Nat) (rI : Int32) (rX : Int32) (rY : Int32) (rZ : Int32) (rU : Int32) (yro : Nat) (yc : Nat) (ybe : Nat) (yco : Nat) (rC : Int64) (rV : Int64) (qT : Nat → Int32) (qW : Nat → Int32) (qr : Nat → Int32) (G : Nat) (K : Nat) (M : Nat) (N : Nat) (e : Nat) (j : Nat) (w0 : Int32) (to : Nat → Int32) (T189 : Int32 → Int32 → Int32 → Int32 → Int32 → Int32 → Prop) (hT189 : ∀ (w : Int32) (on : Int32) (n1 : Int32) (t1 : Int32) (w1 : Int32) (l1 : Int32), T189 w on n1 t1 w1 l1 → paX9_line_189 B g h0 yt rT rH yw yp yg yu ysl yin yse ysp ypa rA yb ybd ybc yr rF rP ywd rN rO rW rL rD yd rI rX rY rZ rU yro yc ybe yco rC rV qT qW qr G K M N e j w0 to w on n1 t1 w1 l1) (w : Int32) (n1 : Int32) (t1 : Int32) (w1 : Int32) (l1 : Int32) (vc : ((¬ w = 0 → ((¬ w = 1 → T189 w 11 n1 t1 w1 l1) ∧ (w = 1 → T189 w 9 n1 t1 w1 l1))) ∧ (w = 0 → T189 w 9 n1 t1 w1 l1))) : pz_At B 0 0 167 [(0, .ref h0), (1, .int w)] [] [(h0, .inr (8, [.ref yt, .int rT, .int rH, .int (nI G), .ref yw, .int (nI K), .ref yp, .ref yg, .int (nI M), .ref yu, .int (nI N), .ref ysl, .ref yin, .ref yse, .ref ysp, .ref ypa, .int rA, .ref yb, .ref ybd, .ref ybc, .ref yr, .int rF, .int rP, .ref ywd, .int (nI e), .int n1, .int t1, .int w1, .int l1, .int rD, .ref yd, .int rI, .int rX, .int rY, .int rZ, .int rU, .ref yro, .ref yc, .ref ybe, .ref yco, .long rC, .long rV])), (yt, .inl (g.2.1 1, 400, .inl qT)), (ywd, .inl (g.2.1 1, 77, .inl qW)), (yr, .inl (g.2.1 1, 24, .inl qr))] := by
  refine pz_iload_n 1 F rfl dX9_line_167 rfl ?_
  refine pz_if_ne (tgt := 176) F dX9_line_168 (by decide) (fun q_1 => ?_) (fun q_1 => ?_)
  · replace vc := vc.1 q_1
    refine pz_iload_n 1 F rfl dX9_line_176 rfl ?_
    refine pz_iconst (v := 1) F dX9_line_177 rfl ?_
    refine pz_icmp_ne (tgt := 186) F dX9_line_178 (by decide) (fun q_2 => ?_) (fun q_2 => ?_)
    · replace vc := vc.1 q_2
      refine pz_bipush (v := 11) F dX9_line_186 rfl ?_
      refine pz_istore_n (lv' := [(2, .int 11), (0, .ref h0), (1, .int w)]) F dX9_line_188 rfl (by decide) rfl ?_
      exact pz_sub [1, 2, 0] [0, 1, 2, 3] rfl rfl rfl (hT189 w 11 n1 t1 w1 l1 vc)
    · replace vc := vc.2 q_2
      refine pz_bipush (v := 9) F dX9_line_181 rfl ?_
      refine pz_goto (tgt := 188) F dX9_line_183 (by decide) ?_
      refine pz_istore_n (lv' := [(2, .int 9), (0, .ref h0), (1, .int w)]) F dX9_line_188 rfl (by decide) rfl ?_
      exact pz_sub [1, 2, 0] [0, 1, 2, 3] rfl rfl rfl (hT189 w 9 n1 t1 w1 l1 vc)
  · replace vc := vc.2 q_1
    refine pz_bipush (v := 9) F dX9_line_171 rfl ?_
    refine pz_goto (tgt := 188) F dX9_line_173 (by decide) ?_
    refine pz_istore_n (lv' := [(2, .int 9), (0, .ref h0), (1, .int w)]) F dX9_line_188 rfl (by decide) rfl ?_
    exact pz_sub [1, 2, 0] [0, 1, 2, 3] rfl rfl rfl (hT189 w 9 n1 t1 w1 l1 vc)
set_option maxHeartbeats 4000000 in
set_option maxRecDepth 100000 in
theorem sgX9_line_189 {B : pz_B} {g : pz_G} {wc : va_W} {Post : Option Value → va_W → Prop} (F : pz_F B cX9_line 4 (some .boolean) yX9_line.cls g rmX9_line) (Rt : pz_Rt B g wc Post rmX9_line) (h0 : Nat) (yt : Nat) (rT : Int32) (rH : Int32) (yw : Nat) (yp : Nat) (yg : Nat) (yu : Nat) (ysl : Nat) (yin : Nat) (yse : Nat) (ysp : Nat) (ypa : Nat) (rA : Int32) (yb : Nat) (ybd : Nat) (ybc : Nat) (yr : Nat) (rF : Int32) (rP : Int32) (ywd : Nat) (rN : Int32) (rO : Int32) (rW : Int32) (rL : Int32) (rD : Int32) (yd : Nat) (rI : Int32) (rX : Int32) (rY : Int32) (rZ : Int32) (rU : Int32) (yro : Nat) (yc : Nat) (ybe : Nat) (yco : Nat) (rC : Int64) (rV : Int64) (qT : Nat → Int32) (qW : Nat → Int32) (qr : Nat → Int32) (G : Nat) (K : Nat) (M : Nat) (N : Nat) (e : Nat) (j : Nat) (w0 : Int32) (to : Nat → Int32) (T211 : Int32 → Int32 → Int32 → Int32 → Int32 → Int32 → Int32 → Prop) (hT211 : ∀ (w : Int32) (on : Int32) (ot : Int32) (n1 : Int32) (t1 : Int32) (w1 : Int32) (l1 : Int32), T211 w on ot n1 t1 w1 l1 → paX9_line_211 B g h0 yt rT rH yw yp yg yu ysl yin yse ysp ypa rA yb ybd ybc yr rF rP ywd rN rO rW rL rD yd rI rX rY rZ rU yro yc ybe yco rC rV qT qW qr G K M N e j w0 to w on ot n1 t1 w1 l1) (w : Int32) (on : Int32) (n1 : Int32) (t1 : Int32) (w1 : Int32) (l1 : Int32) (vc : ((¬ w = 0 → ((¬ w = 1 → T211 w on 12 n1 t1 w1 l1) ∧ (w = 1 → T211 w on 11 n1 t1 w1 l1))) ∧ (w = 0 → T211 w on 10 n1 t1 w1 l1))) : pz_At B 0 0 189 [(0, .ref h0), (1, .int w), (2, .int on)] [] [(h0, .inr (8, [.ref yt, .int rT, .int rH, .int (nI G), .ref yw, .int (nI K), .ref yp, .ref yg, .int (nI M), .ref yu, .int (nI N), .ref ysl, .ref yin, .ref yse, .ref ysp, .ref ypa, .int rA, .ref yb, .ref ybd, .ref ybc, .ref yr, .int rF, .int rP, .ref ywd, .int (nI e), .int n1, .int t1, .int w1, .int l1, .int rD, .ref yd, .int rI, .int rX, .int rY, .int rZ, .int rU, .ref yro, .ref yc, .ref ybe, .ref yco, .long rC, .long rV])), (yt, .inl (g.2.1 1, 400, .inl qT)), (ywd, .inl (g.2.1 1, 77, .inl qW)), (yr, .inl (g.2.1 1, 24, .inl qr))] := by
  refine pz_iload_n 1 F rfl dX9_line_189 rfl ?_
  refine pz_if_ne (tgt := 198) F dX9_line_190 (by decide) (fun q_1 => ?_) (fun q_1 => ?_)
  · replace vc := vc.1 q_1
    refine pz_iload_n 1 F rfl dX9_line_198 rfl ?_
    refine pz_iconst (v := 1) F dX9_line_199 rfl ?_
    refine pz_icmp_ne (tgt := 208) F dX9_line_200 (by decide) (fun q_2 => ?_) (fun q_2 => ?_)
    · replace vc := vc.1 q_2
      refine pz_bipush (v := 12) F dX9_line_208 rfl ?_
      refine pz_istore_n (lv' := [(3, .int 12), (0, .ref h0), (1, .int w), (2, .int on)]) F dX9_line_210 rfl (by decide) rfl ?_
      exact pz_sub [1, 2, 3, 0] [0, 1, 2, 3] rfl rfl rfl (hT211 w on 12 n1 t1 w1 l1 vc)
    · replace vc := vc.2 q_2
      refine pz_bipush (v := 11) F dX9_line_203 rfl ?_
      refine pz_goto (tgt := 210) F dX9_line_205 (by decide) ?_
      refine pz_istore_n (lv' := [(3, .int 11), (0, .ref h0), (1, .int w), (2, .int on)]) F dX9_line_210 rfl (by decide) rfl ?_
      exact pz_sub [1, 2, 3, 0] [0, 1, 2, 3] rfl rfl rfl (hT211 w on 11 n1 t1 w1 l1 vc)
  · replace vc := vc.2 q_1
    refine pz_bipush (v := 10) F dX9_line_193 rfl ?_
    refine pz_goto (tgt := 210) F dX9_line_195 (by decide) ?_
    refine pz_istore_n (lv' := [(3, .int 10), (0, .ref h0), (1, .int w), (2, .int on)]) F dX9_line_210 rfl (by decide) rfl ?_
    exact pz_sub [1, 2, 3, 0] [0, 1, 2, 3] rfl rfl rfl (hT211 w on 10 n1 t1 w1 l1 vc)
set_option maxHeartbeats 4000000 in
set_option maxRecDepth 100000 in
theorem sgX9_line_211 {B : pz_B} {g : pz_G} {wc : va_W} {Post : Option Value → va_W → Prop} (F : pz_F B cX9_line 4 (some .boolean) yX9_line.cls g rmX9_line) (Rt : pz_Rt B g wc Post rmX9_line) (h0 : Nat) (yt : Nat) (rT : Int32) (rH : Int32) (yw : Nat) (yp : Nat) (yg : Nat) (yu : Nat) (ysl : Nat) (yin : Nat) (yse : Nat) (ysp : Nat) (ypa : Nat) (rA : Int32) (yb : Nat) (ybd : Nat) (ybc : Nat) (yr : Nat) (rF : Int32) (rP : Int32) (ywd : Nat) (rN : Int32) (rO : Int32) (rW : Int32) (rL : Int32) (rD : Int32) (yd : Nat) (rI : Int32) (rX : Int32) (rY : Int32) (rZ : Int32) (rU : Int32) (yro : Nat) (yc : Nat) (ybe : Nat) (yco : Nat) (rC : Int64) (rV : Int64) (qT : Nat → Int32) (qW : Nat → Int32) (qr : Nat → Int32) (G : Nat) (K : Nat) (M : Nat) (N : Nat) (e : Nat) (j : Nat) (w0 : Int32) (to : Nat → Int32) (T245 : Int32 → Int32 → Int32 → Int32 → Int32 → Int32 → Prop) (hT245 : ∀ (w : Int32) (ot : Int32) (n1 : Int32) (t1 : Int32) (w1 : Int32) (l1 : Int32), T245 w ot n1 t1 w1 l1 → paX9_line_245 B g h0 yt rT rH yw yp yg yu ysl yin yse ysp ypa rA yb ybd ybc yr rF rP ywd rN rO rW rL rD yd rI rX rY rZ rU yro yc ybe yco rC rV qT qW qr G K M N e j w0 to w ot n1 t1 w1 l1) (w : Int32) (on : Int32) (ot : Int32) (n1 : Int32) (t1 : Int32) (w1 : Int32) (l1 : Int32) (vc : ((¬ t1 = 1 → ∀ r_2 : Int32, ∀ _ : (r_2 = 0), narrow .boolean (.int r_2) = .int r_2 ∧ Post (some (.int r_2)) [(h0, .inr (8, [.ref yt, .int rT, .int rH, .int (nI G), .ref yw, .int (nI K), .ref yp, .ref yg, .int (nI M), .ref yu, .int (nI N), .ref ysl, .ref yin, .ref yse, .ref ysp, .ref ypa, .int rA, .ref yb, .ref ybd, .ref ybc, .ref yr, .int 1, .int l1, .ref ywd, .int (nI e), .int n1, .int t1, .int w1, .int l1, .int rD, .ref yd, .int rI, .int rX, .int rY, .int rZ, .int rU, .ref yro, .ref yc, .ref ybe, .ref yco, .long rC, .long rV])), (yt, .inl (g.2.1 1, 400, .inl qT)), (ywd, .inl (g.2.1 1, 77, .inl qW)), (yr, .inl (g.2.1 1, 24, .inl qr))]) ∧ (t1 = 1 → ((w1 = on → T245 w ot n1 t1 w1 l1) ∧ (¬ w1 = on → ((w1 = ot → T245 w ot n1 t1 w1 l1) ∧ (¬ w1 = ot → ∀ r_7 : Int32, ∀ _ : (r_7 = 0), narrow .boolean (.int r_7) = .int r_7 ∧ Post (some (.int r_7)) [(h0, .inr (8, [.ref yt, .int rT, .int rH, .int (nI G), .ref yw, .int (nI K), .ref yp, .ref yg, .int (nI M), .ref yu, .int (nI N), .ref ysl, .ref yin, .ref yse, .ref ysp, .ref ypa, .int rA, .ref yb, .ref ybd, .ref ybc, .ref yr, .int 1, .int l1, .ref ywd, .int (nI e), .int n1, .int t1, .int w1, .int l1, .int rD, .ref yd, .int rI, .int rX, .int rY, .int rZ, .int rU, .ref yro, .ref yc, .ref ybe, .ref yco, .long rC, .long rV])), (yt, .inl (g.2.1 1, 400, .inl qT)), (ywd, .inl (g.2.1 1, 77, .inl qW)), (yr, .inl (g.2.1 1, 24, .inl qr))]))))))) : pz_At B 0 0 211 [(0, .ref h0), (1, .int w), (2, .int on), (3, .int ot)] [] [(h0, .inr (8, [.ref yt, .int rT, .int rH, .int (nI G), .ref yw, .int (nI K), .ref yp, .ref yg, .int (nI M), .ref yu, .int (nI N), .ref ysl, .ref yin, .ref yse, .ref ysp, .ref ypa, .int rA, .ref yb, .ref ybd, .ref ybc, .ref yr, .int rF, .int rP, .ref ywd, .int (nI e), .int n1, .int t1, .int w1, .int l1, .int rD, .ref yd, .int rI, .int rX, .int rY, .int rZ, .int rU, .ref yro, .ref yc, .ref ybe, .ref yco, .long rC, .long rV])), (yt, .inl (g.2.1 1, 400, .inl qT)), (ywd, .inl (g.2.1 1, 77, .inl qW)), (yr, .inl (g.2.1 1, 24, .inl qr))] := by
  refine pz_aload_n 0 F rfl dX9_line_211 rfl ?_
  refine pz_get (ci := 8) (C := RX9) (T := TX9) (N := 42) (v := .int t1) 0 F rfl rfl pz_inX9 26 (by decide) pw_834 rfl dX9_line_212 ?_
  refine pz_iconst (v := 1) F dX9_line_215 rfl ?_
  refine pz_icmp_ne (tgt := 235) F dX9_line_216 (by decide) (fun q_1 => ?_) (fun q_1 => ?_)
  · replace vc := vc.1 q_1
    refine pz_aload_n 0 F rfl dX9_line_235 rfl ?_
    refine pz_iconst (v := 1) F dX9_line_236 rfl ?_
    refine pz_aload_n 0 F rfl dX9_line_237 rfl ?_
    refine pz_get (ci := 8) (C := RX9) (T := TX9) (N := 42) (v := .int l1) 0 F rfl rfl pz_inX9 28 (by decide) pw_836 rfl dX9_line_238 ?_
    refine pz_callV (nA := 2) (ci := 8) (C := RX9) (T := TX9) (N := 42) (As := [.int 1, .int l1]) (rest := []) (wr := [(yt, .inl (g.2.1 1, 400, .inl qT)), (ywd, .inl (g.2.1 1, 77, .inl qW)), (yr, .inl (g.2.1 1, 24, .inl qr))]) F (ctX9_wrong _ g 1 l1 h0 yt rT rH yw yp yg yu ysl yin yse ysp ypa rA yb ybd ybc yr rF rP ywd (nI e) n1 t1 w1 l1 rD yd rI rX rY rZ rU yro yc ybe yco rC rV G K M N) 0 rfl rfl pw_968 pw_970 pv_32 pw_8 pw_971 (by decide +kernel) (by decide) (by decide) rfl rfl (Nat.le_of_ble_eq_true rfl) [0] [1, 2, 3] rfl rfl rfl rfl (by decide) dX9_line_241 (fun r0 w0 hp0 => ?_)
    obtain ⟨r_2, _, rfl, rfl, hq_3⟩ := hp0
    replace vc := vc r_2  hq_3
    refine pz_eq (st' := [.int r_2]) (ws' := [(yt, .inl (g.2.1 1, 400, .inl qT)), (ywd, .inl (g.2.1 1, 77, .inl qW)), (yr, .inl (g.2.1 1, 24, .inl qr)), (h0, .inr (8, [.ref yt, .int rT, .int rH, .int (nI G), .ref yw, .int (nI K), .ref yp, .ref yg, .int (nI M), .ref yu, .int (nI N), .ref ysl, .ref yin, .ref yse, .ref ysp, .ref ypa, .int rA, .ref yb, .ref ybd, .ref ybc, .ref yr, .int 1, .int l1, .ref ywd, .int (nI e), .int n1, .int t1, .int w1, .int l1, .int rD, .ref yd, .int rI, .int rX, .int rY, .int rZ, .int rU, .ref yro, .ref yc, .ref ybe, .ref yco, .long rC, .long rV]))]) rfl rfl ?_
    obtain ⟨h_4, vc⟩ := vc
    exact pz_ireturn (w1 := [(h0, .inr (8, [.ref yt, .int rT, .int rH, .int (nI G), .ref yw, .int (nI K), .ref yp, .ref yg, .int (nI M), .ref yu, .int (nI N), .ref ysl, .ref yin, .ref yse, .ref ysp, .ref ypa, .int rA, .ref yb, .ref ybd, .ref ybc, .ref yr, .int 1, .int l1, .ref ywd, .int (nI e), .int n1, .int t1, .int w1, .int l1, .int rD, .ref yd, .int rI, .int rX, .int rY, .int rZ, .int rU, .ref yro, .ref yc, .ref ybe, .ref yco, .long rC, .long rV])), (yt, .inl (g.2.1 1, 400, .inl qT)), (ywd, .inl (g.2.1 1, 77, .inl qW)), (yr, .inl (g.2.1 1, 24, .inl qr))]) F Rt (by decide) (by decide) dX9_line_244 [3, 0, 1, 2] rfl rfl h_4 vc
  · replace vc := vc.2 q_1
    refine pz_aload_n 0 F rfl dX9_line_219 rfl ?_
    refine pz_get (ci := 8) (C := RX9) (T := TX9) (N := 42) (v := .int w1) 0 F rfl rfl pz_inX9 27 (by decide) pw_835 rfl dX9_line_220 ?_
    refine pz_iload_n 2 F rfl dX9_line_223 rfl ?_
    refine pz_icmp_eq (tgt := 245) F dX9_line_224 (by decide) (fun q_5 => ?_) (fun q_5 => ?_)
    · replace vc := vc.1 q_5
      exact pz_sub [0, 1, 3] [0, 1, 2, 3] rfl rfl rfl (hT245 w ot n1 t1 w1 l1 vc)
    · replace vc := vc.2 q_5
      refine pz_aload_n 0 F rfl dX9_line_227 rfl ?_
      refine pz_get (ci := 8) (C := RX9) (T := TX9) (N := 42) (v := .int w1) 0 F rfl rfl pz_inX9 27 (by decide) pw_835 rfl dX9_line_228 ?_
      refine pz_iload_n 3 F rfl dX9_line_231 rfl ?_
      refine pz_icmp_eq (tgt := 245) F dX9_line_232 (by decide) (fun q_6 => ?_) (fun q_6 => ?_)
      · replace vc := vc.1 q_6
        exact pz_sub [0, 1, 3] [0, 1, 2, 3] rfl rfl rfl (hT245 w ot n1 t1 w1 l1 vc)
      · replace vc := vc.2 q_6
        refine pz_aload_n 0 F rfl dX9_line_235 rfl ?_
        refine pz_iconst (v := 1) F dX9_line_236 rfl ?_
        refine pz_aload_n 0 F rfl dX9_line_237 rfl ?_
        refine pz_get (ci := 8) (C := RX9) (T := TX9) (N := 42) (v := .int l1) 0 F rfl rfl pz_inX9 28 (by decide) pw_836 rfl dX9_line_238 ?_
        refine pz_callV (nA := 2) (ci := 8) (C := RX9) (T := TX9) (N := 42) (As := [.int 1, .int l1]) (rest := []) (wr := [(yt, .inl (g.2.1 1, 400, .inl qT)), (ywd, .inl (g.2.1 1, 77, .inl qW)), (yr, .inl (g.2.1 1, 24, .inl qr))]) F (ctX9_wrong _ g 1 l1 h0 yt rT rH yw yp yg yu ysl yin yse ysp ypa rA yb ybd ybc yr rF rP ywd (nI e) n1 t1 w1 l1 rD yd rI rX rY rZ rU yro yc ybe yco rC rV G K M N) 0 rfl rfl pw_968 pw_970 pv_32 pw_8 pw_971 (by decide +kernel) (by decide) (by decide) rfl rfl (Nat.le_of_ble_eq_true rfl) [0] [1, 2, 3] rfl rfl rfl rfl (by decide) dX9_line_241 (fun r0 w0 hp0 => ?_)
        obtain ⟨r_7, _, rfl, rfl, hq_8⟩ := hp0
        replace vc := vc r_7  hq_8
        refine pz_eq (st' := [.int r_7]) (ws' := [(yt, .inl (g.2.1 1, 400, .inl qT)), (ywd, .inl (g.2.1 1, 77, .inl qW)), (yr, .inl (g.2.1 1, 24, .inl qr)), (h0, .inr (8, [.ref yt, .int rT, .int rH, .int (nI G), .ref yw, .int (nI K), .ref yp, .ref yg, .int (nI M), .ref yu, .int (nI N), .ref ysl, .ref yin, .ref yse, .ref ysp, .ref ypa, .int rA, .ref yb, .ref ybd, .ref ybc, .ref yr, .int 1, .int l1, .ref ywd, .int (nI e), .int n1, .int t1, .int w1, .int l1, .int rD, .ref yd, .int rI, .int rX, .int rY, .int rZ, .int rU, .ref yro, .ref yc, .ref ybe, .ref yco, .long rC, .long rV]))]) rfl rfl ?_
        obtain ⟨h_9, vc⟩ := vc
        exact pz_ireturn (w1 := [(h0, .inr (8, [.ref yt, .int rT, .int rH, .int (nI G), .ref yw, .int (nI K), .ref yp, .ref yg, .int (nI M), .ref yu, .int (nI N), .ref ysl, .ref yin, .ref yse, .ref ysp, .ref ypa, .int rA, .ref yb, .ref ybd, .ref ybc, .ref yr, .int 1, .int l1, .ref ywd, .int (nI e), .int n1, .int t1, .int w1, .int l1, .int rD, .ref yd, .int rI, .int rX, .int rY, .int rZ, .int rU, .ref yro, .ref yc, .ref ybe, .ref yco, .long rC, .long rV])), (yt, .inl (g.2.1 1, 400, .inl qT)), (ywd, .inl (g.2.1 1, 77, .inl qW)), (yr, .inl (g.2.1 1, 24, .inl qr))]) F Rt (by decide) (by decide) dX9_line_244 [3, 0, 1, 2] rfl rfl h_9 vc
set_option maxHeartbeats 4000000 in
set_option maxRecDepth 100000 in
theorem sgX9_line_245 {B : pz_B} {g : pz_G} {wc : va_W} {Post : Option Value → va_W → Prop} (F : pz_F B cX9_line 4 (some .boolean) yX9_line.cls g rmX9_line) (Rt : pz_Rt B g wc Post rmX9_line) (h0 : Nat) (yt : Nat) (rT : Int32) (rH : Int32) (yw : Nat) (yp : Nat) (yg : Nat) (yu : Nat) (ysl : Nat) (yin : Nat) (yse : Nat) (ysp : Nat) (ypa : Nat) (rA : Int32) (yb : Nat) (ybd : Nat) (ybc : Nat) (yr : Nat) (rF : Int32) (rP : Int32) (ywd : Nat) (rN : Int32) (rO : Int32) (rW : Int32) (rL : Int32) (rD : Int32) (yd : Nat) (rI : Int32) (rX : Int32) (rY : Int32) (rZ : Int32) (rU : Int32) (yro : Nat) (yc : Nat) (ybe : Nat) (yco : Nat) (rC : Int64) (rV : Int64) (qT : Nat → Int32) (qW : Nat → Int32) (qr : Nat → Int32) (G : Nat) (K : Nat) (M : Nat) (N : Nat) (e : Nat) (j : Nat) (w0 : Int32) (to : Nat → Int32) (w : Int32) (ot : Int32) (n1 : Int32) (t1 : Int32) (w1 : Int32) (l1 : Int32) (vc : ((¬ w1 = ot → vp_in (12 + w) 24 ∧ ∀ f_3 : Nat → Int32, f_3 = upd qr (12 + w).toNatClampNeg 0 → ∃ j_4 : Nat, (j_4 ≤ e ∧ e ≤ 400 ∧ (∀ a, a < 77 → qW a = pz_wd.getD a 0) ∧ n1 = nI j_4) ∧ ∀ _ : (True), Post (some (.int 1)) [(h0, .inr (8, [.ref yt, .int rT, .int rH, .int (nI G), .ref yw, .int (nI K), .ref yp, .ref yg, .int (nI M), .ref yu, .int (nI N), .ref ysl, .ref yin, .ref yse, .ref ysp, .ref ypa, .int rA, .ref yb, .ref ybd, .ref ybc, .ref yr, .int rF, .int rP, .ref ywd, .int (nI e), .int (nI (tk_e (rt_c qT e) e j_4)), .int (rt_k (rt_c qT e) e j_4), .int (rt_h (rt_c qT e) e j_4 w1), .int (nI (tk_s (rt_c qT e) e j_4)), .int rD, .ref yd, .int rI, .int rX, .int rY, .int rZ, .int rU, .ref yro, .ref yc, .ref ybe, .ref yco, .long rC, .long rV])), (yt, .inl (g.2.1 1, 400, .inl qT)), (ywd, .inl (g.2.1 1, 77, .inl qW)), (yr, .inl (g.2.1 1, 24, .inl f_3))]) ∧ (w1 = ot → vp_in (12 + w) 24 ∧ ∀ f_8 : Nat → Int32, f_8 = upd qr (12 + w).toNatClampNeg 1 → ∃ j_9 : Nat, (j_9 ≤ e ∧ e ≤ 400 ∧ (∀ a, a < 77 → qW a = pz_wd.getD a 0) ∧ n1 = nI j_9) ∧ ∀ _ : (True), Post (some (.int 1)) [(h0, .inr (8, [.ref yt, .int rT, .int rH, .int (nI G), .ref yw, .int (nI K), .ref yp, .ref yg, .int (nI M), .ref yu, .int (nI N), .ref ysl, .ref yin, .ref yse, .ref ysp, .ref ypa, .int rA, .ref yb, .ref ybd, .ref ybc, .ref yr, .int rF, .int rP, .ref ywd, .int (nI e), .int (nI (tk_e (rt_c qT e) e j_9)), .int (rt_k (rt_c qT e) e j_9), .int (rt_h (rt_c qT e) e j_9 w1), .int (nI (tk_s (rt_c qT e) e j_9)), .int rD, .ref yd, .int rI, .int rX, .int rY, .int rZ, .int rU, .ref yro, .ref yc, .ref ybe, .ref yco, .long rC, .long rV])), (yt, .inl (g.2.1 1, 400, .inl qT)), (ywd, .inl (g.2.1 1, 77, .inl qW)), (yr, .inl (g.2.1 1, 24, .inl f_8))]))) : pz_At B 0 0 245 [(0, .ref h0), (1, .int w), (3, .int ot)] [] [(h0, .inr (8, [.ref yt, .int rT, .int rH, .int (nI G), .ref yw, .int (nI K), .ref yp, .ref yg, .int (nI M), .ref yu, .int (nI N), .ref ysl, .ref yin, .ref yse, .ref ysp, .ref ypa, .int rA, .ref yb, .ref ybd, .ref ybc, .ref yr, .int rF, .int rP, .ref ywd, .int (nI e), .int n1, .int t1, .int w1, .int l1, .int rD, .ref yd, .int rI, .int rX, .int rY, .int rZ, .int rU, .ref yro, .ref yc, .ref ybe, .ref yco, .long rC, .long rV])), (yt, .inl (g.2.1 1, 400, .inl qT)), (ywd, .inl (g.2.1 1, 77, .inl qW)), (yr, .inl (g.2.1 1, 24, .inl qr))] := by
  refine pz_aload_n 0 F rfl dX9_line_245 rfl ?_
  refine pz_get (ci := 8) (C := RX9) (T := TX9) (N := 42) (v := .ref yr) 0 F rfl rfl pz_inX9 20 (by decide) pw_828 rfl dX9_line_246 ?_
  refine pz_bipush (v := 12) F dX9_line_249 rfl ?_
  refine pz_iload_n 1 F rfl dX9_line_251 rfl ?_
  refine pz_iadd F dX9_line_252 ?_
  refine pz_aload_n 0 F rfl dX9_line_253 rfl ?_
  refine pz_get (ci := 8) (C := RX9) (T := TX9) (N := 42) (v := .int w1) 0 F rfl rfl pz_inX9 27 (by decide) pw_835 rfl dX9_line_254 ?_
  refine pz_iload_n 2 F rfl dX9_line_257 rfl ?_
  refine pz_icmp_ne (tgt := 265) F dX9_line_258 (by decide) (fun q_1 => ?_) (fun q_1 => ?_)
  · replace vc := vc.1 q_1
    refine pz_iconst (v := 0) F dX9_line_265 rfl ?_
    obtain ⟨h_2, vc⟩ := vc
    obtain ⟨f_3, ef_3⟩ : ∃ z : Nat → Int32, z = upd qr (12 + w).toNatClampNeg 0 := ⟨_, rfl⟩
    replace vc := vc f_3 ef_3
    refine pz_iastore (ws' := [(h0, .inr (8, [.ref yt, .int rT, .int rH, .int (nI G), .ref yw, .int (nI K), .ref yp, .ref yg, .int (nI M), .ref yu, .int (nI N), .ref ysl, .ref yin, .ref yse, .ref ysp, .ref ypa, .int rA, .ref yb, .ref ybd, .ref ybc, .ref yr, .int rF, .int rP, .ref ywd, .int (nI e), .int n1, .int t1, .int w1, .int l1, .int rD, .ref yd, .int rI, .int rX, .int rY, .int rZ, .int rU, .ref yro, .ref yc, .ref ybe, .ref yco, .long rC, .long rV])), (yt, .inl (g.2.1 1, 400, .inl qT)), (ywd, .inl (g.2.1 1, 77, .inl qW)), (yr, .inl (g.2.1 1, 24, .inl f_3))]) F 3 rfl h_2 dX9_line_266 (by rw [ef_3]; rfl) ?_
    refine pz_aload_n 0 F rfl dX9_line_267 rfl ?_
    obtain ⟨j_4, vc⟩ := vc
    obtain ⟨h_5, vc⟩ := vc
    refine pz_callV (nA := 0) (ci := 8) (C := RX9) (T := TX9) (N := 42) (As := []) (rest := []) (wr := [(yr, .inl (g.2.1 1, 24, .inl f_3))]) F (ctX9_take _ g h0 yt rT rH yw yp yg yu ysl yin yse ysp ypa rA yb ybd ybc yr rF rP ywd n1 t1 w1 l1 rD yd rI rX rY rZ rU yro yc ybe yco rC rV qT qW G K M N e j_4 h_5) 0 rfl rfl pw_947 pw_949 pv_27 pw_8 pw_950 (by decide +kernel) (by decide) (by decide) rfl rfl (Nat.le_of_ble_eq_true rfl) [0, 1, 2] [3] rfl rfl rfl rfl (by decide) dX9_line_268 (fun r0 w0 hp0 => ?_)
    obtain ⟨_, rfl, rfl, hq_6⟩ := hp0
    replace vc := vc  hq_6
    refine pz_eq (st' := []) (ws' := [(yr, .inl (g.2.1 1, 24, .inl f_3)), (h0, .inr (8, [.ref yt, .int rT, .int rH, .int (nI G), .ref yw, .int (nI K), .ref yp, .ref yg, .int (nI M), .ref yu, .int (nI N), .ref ysl, .ref yin, .ref yse, .ref ysp, .ref ypa, .int rA, .ref yb, .ref ybd, .ref ybc, .ref yr, .int rF, .int rP, .ref ywd, .int (nI e), .int (nI (tk_e (rt_c qT e) e j_4)), .int (rt_k (rt_c qT e) e j_4), .int (rt_h (rt_c qT e) e j_4 w1), .int (nI (tk_s (rt_c qT e) e j_4)), .int rD, .ref yd, .int rI, .int rX, .int rY, .int rZ, .int rU, .ref yro, .ref yc, .ref ybe, .ref yco, .long rC, .long rV])), (yt, .inl (g.2.1 1, 400, .inl qT)), (ywd, .inl (g.2.1 1, 77, .inl qW))]) rfl rfl ?_
    refine pz_iconst (v := 1) F dX9_line_271 rfl ?_
    exact pz_ireturn (w1 := [(h0, .inr (8, [.ref yt, .int rT, .int rH, .int (nI G), .ref yw, .int (nI K), .ref yp, .ref yg, .int (nI M), .ref yu, .int (nI N), .ref ysl, .ref yin, .ref yse, .ref ysp, .ref ypa, .int rA, .ref yb, .ref ybd, .ref ybc, .ref yr, .int rF, .int rP, .ref ywd, .int (nI e), .int (nI (tk_e (rt_c qT e) e j_4)), .int (rt_k (rt_c qT e) e j_4), .int (rt_h (rt_c qT e) e j_4 w1), .int (nI (tk_s (rt_c qT e) e j_4)), .int rD, .ref yd, .int rI, .int rX, .int rY, .int rZ, .int rU, .ref yro, .ref yc, .ref ybe, .ref yco, .long rC, .long rV])), (yt, .inl (g.2.1 1, 400, .inl qT)), (ywd, .inl (g.2.1 1, 77, .inl qW)), (yr, .inl (g.2.1 1, 24, .inl f_3))]) F Rt (by decide) (by decide) dX9_line_272 [1, 2, 3, 0] rfl rfl rfl vc
  · replace vc := vc.2 q_1
    refine pz_iconst (v := 1) F dX9_line_261 rfl ?_
    refine pz_goto (tgt := 266) F dX9_line_262 (by decide) ?_
    obtain ⟨h_7, vc⟩ := vc
    obtain ⟨f_8, ef_8⟩ : ∃ z : Nat → Int32, z = upd qr (12 + w).toNatClampNeg 1 := ⟨_, rfl⟩
    replace vc := vc f_8 ef_8
    refine pz_iastore (ws' := [(h0, .inr (8, [.ref yt, .int rT, .int rH, .int (nI G), .ref yw, .int (nI K), .ref yp, .ref yg, .int (nI M), .ref yu, .int (nI N), .ref ysl, .ref yin, .ref yse, .ref ysp, .ref ypa, .int rA, .ref yb, .ref ybd, .ref ybc, .ref yr, .int rF, .int rP, .ref ywd, .int (nI e), .int n1, .int t1, .int w1, .int l1, .int rD, .ref yd, .int rI, .int rX, .int rY, .int rZ, .int rU, .ref yro, .ref yc, .ref ybe, .ref yco, .long rC, .long rV])), (yt, .inl (g.2.1 1, 400, .inl qT)), (ywd, .inl (g.2.1 1, 77, .inl qW)), (yr, .inl (g.2.1 1, 24, .inl f_8))]) F 3 rfl h_7 dX9_line_266 (by rw [ef_8]; rfl) ?_
    refine pz_aload_n 0 F rfl dX9_line_267 rfl ?_
    obtain ⟨j_9, vc⟩ := vc
    obtain ⟨h_10, vc⟩ := vc
    refine pz_callV (nA := 0) (ci := 8) (C := RX9) (T := TX9) (N := 42) (As := []) (rest := []) (wr := [(yr, .inl (g.2.1 1, 24, .inl f_8))]) F (ctX9_take _ g h0 yt rT rH yw yp yg yu ysl yin yse ysp ypa rA yb ybd ybc yr rF rP ywd n1 t1 w1 l1 rD yd rI rX rY rZ rU yro yc ybe yco rC rV qT qW G K M N e j_9 h_10) 0 rfl rfl pw_947 pw_949 pv_27 pw_8 pw_950 (by decide +kernel) (by decide) (by decide) rfl rfl (Nat.le_of_ble_eq_true rfl) [0, 1, 2] [3] rfl rfl rfl rfl (by decide) dX9_line_268 (fun r0 w0 hp0 => ?_)
    obtain ⟨_, rfl, rfl, hq_11⟩ := hp0
    replace vc := vc  hq_11
    refine pz_eq (st' := []) (ws' := [(yr, .inl (g.2.1 1, 24, .inl f_8)), (h0, .inr (8, [.ref yt, .int rT, .int rH, .int (nI G), .ref yw, .int (nI K), .ref yp, .ref yg, .int (nI M), .ref yu, .int (nI N), .ref ysl, .ref yin, .ref yse, .ref ysp, .ref ypa, .int rA, .ref yb, .ref ybd, .ref ybc, .ref yr, .int rF, .int rP, .ref ywd, .int (nI e), .int (nI (tk_e (rt_c qT e) e j_9)), .int (rt_k (rt_c qT e) e j_9), .int (rt_h (rt_c qT e) e j_9 w1), .int (nI (tk_s (rt_c qT e) e j_9)), .int rD, .ref yd, .int rI, .int rX, .int rY, .int rZ, .int rU, .ref yro, .ref yc, .ref ybe, .ref yco, .long rC, .long rV])), (yt, .inl (g.2.1 1, 400, .inl qT)), (ywd, .inl (g.2.1 1, 77, .inl qW))]) rfl rfl ?_
    refine pz_iconst (v := 1) F dX9_line_271 rfl ?_
    exact pz_ireturn (w1 := [(h0, .inr (8, [.ref yt, .int rT, .int rH, .int (nI G), .ref yw, .int (nI K), .ref yp, .ref yg, .int (nI M), .ref yu, .int (nI N), .ref ysl, .ref yin, .ref yse, .ref ysp, .ref ypa, .int rA, .ref yb, .ref ybd, .ref ybc, .ref yr, .int rF, .int rP, .ref ywd, .int (nI e), .int (nI (tk_e (rt_c qT e) e j_9)), .int (rt_k (rt_c qT e) e j_9), .int (rt_h (rt_c qT e) e j_9 w1), .int (nI (tk_s (rt_c qT e) e j_9)), .int rD, .ref yd, .int rI, .int rX, .int rY, .int rZ, .int rU, .ref yro, .ref yc, .ref ybe, .ref yco, .long rC, .long rV])), (yt, .inl (g.2.1 1, 400, .inl qT)), (ywd, .inl (g.2.1 1, 77, .inl qW)), (yr, .inl (g.2.1 1, 24, .inl f_8))]) F Rt (by decide) (by decide) dX9_line_272 [1, 2, 3, 0] rfl rfl rfl vc
set_option maxHeartbeats 4000000 in
set_option maxRecDepth 100000 in
theorem ctX9_line (l : Launch) (g : pz_G) (h0 : Nat) (yt : Nat) (rT : Int32) (rH : Int32) (yw : Nat) (yp : Nat) (yg : Nat) (yu : Nat) (ysl : Nat) (yin : Nat) (yse : Nat) (ysp : Nat) (ypa : Nat) (rA : Int32) (yb : Nat) (ybd : Nat) (ybc : Nat) (yr : Nat) (rF : Int32) (rP : Int32) (ywd : Nat) (rN : Int32) (rO : Int32) (rW : Int32) (rL : Int32) (rD : Int32) (yd : Nat) (rI : Int32) (rX : Int32) (rY : Int32) (rZ : Int32) (rU : Int32) (yro : Nat) (yc : Nat) (ybe : Nat) (yco : Nat) (rC : Int64) (rV : Int64) (qT : Nat → Int32) (qW : Nat → Int32) (qr : Nat → Int32) (G : Nat) (K : Nat) (M : Nat) (N : Nat) (e : Nat) (j : Nat) (w0 : Int32) (to : Nat → Int32) (hpre : j ≤ e ∧ e ≤ 400 ∧ (∀ a, a < 77 → qW a = pz_wd.getD a 0) ∧ (∀ s, s < 12 → (qr (12 + s) < 0 ∧ to s = 0) ∨ (¬ qr (12 + s) < 0 ∧ ¬ to s = 0)) ∧ rO = rt_k (rt_c qT e) e j ∧ rW = rt_h (rt_c qT e) e j w0 ∧ rL = nI (tk_s (rt_c qT e) e j) ∧ rN = nI (tk_e (rt_c qT e) e j)) : pz_Ct l g yX9_line cX9_line 4 (some .boolean) rmX9_line [.ref h0] [(h0, .inr (8, [.ref yt, .int rT, .int rH, .int (nI G), .ref yw, .int (nI K), .ref yp, .ref yg, .int (nI M), .ref yu, .int (nI N), .ref ysl, .ref yin, .ref yse, .ref ysp, .ref ypa, .int rA, .ref yb, .ref ybd, .ref ybc, .ref yr, .int rF, .int rP, .ref ywd, .int (nI e), .int rN, .int rO, .int rW, .int rL, .int rD, .ref yd, .int rI, .int rX, .int rY, .int rZ, .int rU, .ref yro, .ref yc, .ref ybe, .ref yco, .long rC, .long rV])), (yt, .inl (g.2.1 1, 400, .inl qT)), (ywd, .inl (g.2.1 1, 77, .inl qW)), (yr, .inl (g.2.1 1, 24, .inl qr))] (pz_pi (fun (r : Int32) (u : Int32 × Int32 × Int32 × Int32 × Int32 × Int32 × Int32 × (Nat → Int32)) => (r = 0 ∧ ¬ (pl_line (rt_c qT e) e to j).1 = 0 ∧ u.1 = (pl_line (rt_c qT e) e to j).1 ∧ u.2.1 = nI (pl_line (rt_c qT e) e to j).2.1 ∧ u.2.2.2.2.2.2.2 = qr) ∨ (r = 1 ∧ u.1 = rF ∧ u.2.1 = rP ∧ ∃ x sl v w1, x ≤ e ∧ sl < 12 ∧ ¬ v < 0 ∧ u.2.2.2.2.2.2.2 = upd qr (12 + sl) v ∧ u.2.2.2.1 = nI (tk_e (rt_c qT e) e x) ∧ u.2.2.2.2.2.2.1 = nI (tk_s (rt_c qT e) e x) ∧ u.2.2.2.2.1 = rt_k (rt_c qT e) e x ∧ u.2.2.2.2.2.1 = rt_h (rt_c qT e) e x w1 ∧ (pl_line (rt_c qT e) e to j) = if tk_k (rt_c qT e) e x = 3 then (0, 0, tk_e (rt_c qT e) e x, sl, v) else (1, tk_s (rt_c qT e) e x, 0, 0, 0))) (fun (u : Int32 × Int32 × Int32 × Int32 × Int32 × Int32 × Int32 × (Nat → Int32)) => [(h0, .inr (8, [.ref yt, .int rT, .int rH, .int (nI G), .ref yw, .int (nI K), .ref yp, .ref yg, .int (nI M), .ref yu, .int (nI N), .ref ysl, .ref yin, .ref yse, .ref ysp, .ref ypa, .int rA, .ref yb, .ref ybd, .ref ybc, .ref yr, .int u.1, .int u.2.1, .ref ywd, .int (nI e), .int u.2.2.2.1, .int u.2.2.2.2.1, .int u.2.2.2.2.2.1, .int u.2.2.2.2.2.2.1, .int u.2.2.1, .ref yd, .int rI, .int rX, .int rY, .int rZ, .int rU, .ref yro, .ref yc, .ref ybe, .ref yco, .long rC, .long rV])), (yt, .inl (g.2.1 1, 400, .inl qT)), (ywd, .inl (g.2.1 1, 77, .inl qW)), (yr, .inl (g.2.1 1, 24, .inl u.2.2.2.2.2.2.2))])) := by
  refine pz_ofAt (by decide +kernel) (Nat.le_of_ble_eq_true rfl) (fun B F Rt hme => ?_)
  obtain ⟨hj, he, hW, htold, e1, e2, e3, e4⟩ := hpre
  subst e1; subst e2; subst e3; subst e4
  have hx := tk_e_in (c := (rt_c qT e)) hj
  have hy := tk_e_in (c := (rt_c qT e)) hx.2
  have t12 : ∀ k : Nat, (12 : Int32) + nI k = nI (12 + k) := fun k => nI_add 12 k
  have bad : ∀ (R : Int32 × Nat × Nat × Nat × Int32), pl_line (rt_c qT e) e to j = R → ¬ R.1 = 0 → ∀ (f2 p2 d2 n2 t2 w2 l2 : Int32), f2 = R.1 → p2 = nI R.2.1 → (pz_pi (fun (r : Int32) (u : Int32 × Int32 × Int32 × Int32 × Int32 × Int32 × Int32 × (Nat → Int32)) => (r = 0 ∧ ¬ (pl_line (rt_c qT e) e to j).1 = 0 ∧ u.1 = (pl_line (rt_c qT e) e to j).1 ∧ u.2.1 = nI (pl_line (rt_c qT e) e to j).2.1 ∧ u.2.2.2.2.2.2.2 = qr) ∨ (r = 1 ∧ u.1 = rF ∧ u.2.1 = rP ∧ ∃ x sl v w1, x ≤ e ∧ sl < 12 ∧ ¬ v < 0 ∧ u.2.2.2.2.2.2.2 = upd qr (12 + sl) v ∧ u.2.2.2.1 = nI (tk_e (rt_c qT e) e x) ∧ u.2.2.2.2.2.2.1 = nI (tk_s (rt_c qT e) e x) ∧ u.2.2.2.2.1 = rt_k (rt_c qT e) e x ∧ u.2.2.2.2.2.1 = rt_h (rt_c qT e) e x w1 ∧ (pl_line (rt_c qT e) e to j) = if tk_k (rt_c qT e) e x = 3 then (0, 0, tk_e (rt_c qT e) e x, sl, v) else (1, tk_s (rt_c qT e) e x, 0, 0, 0))) (fun (u : Int32 × Int32 × Int32 × Int32 × Int32 × Int32 × Int32 × (Nat → Int32)) => [(h0, .inr (8, [.ref yt, .int rT, .int rH, .int (nI G), .ref yw, .int (nI K), .ref yp, .ref yg, .int (nI M), .ref yu, .int (nI N), .ref ysl, .ref yin, .ref yse, .ref ysp, .ref ypa, .int rA, .ref yb, .ref ybd, .ref ybc, .ref yr, .int u.1, .int u.2.1, .ref ywd, .int (nI e), .int u.2.2.2.1, .int u.2.2.2.2.1, .int u.2.2.2.2.2.1, .int u.2.2.2.2.2.2.1, .int u.2.2.1, .ref yd, .int rI, .int rX, .int rY, .int rZ, .int rU, .ref yro, .ref yc, .ref ybe, .ref yco, .long rC, .long rV])), (yt, .inl (g.2.1 1, 400, .inl qT)), (ywd, .inl (g.2.1 1, 77, .inl qW)), (yr, .inl (g.2.1 1, 24, .inl u.2.2.2.2.2.2.2))])) (some (.int 0)) [(h0, .inr (8, [.ref yt, .int rT, .int rH, .int (nI G), .ref yw, .int (nI K), .ref yp, .ref yg, .int (nI M), .ref yu, .int (nI N), .ref ysl, .ref yin, .ref yse, .ref ysp, .ref ypa, .int rA, .ref yb, .ref ybd, .ref ybc, .ref yr, .int f2, .int p2, .ref ywd, .int (nI e), .int n2, .int t2, .int w2, .int l2, .int d2, .ref yd, .int rI, .int rX, .int rY, .int rZ, .int rU, .ref yro, .ref yc, .ref ybe, .ref yco, .long rC, .long rV])), (yt, .inl (g.2.1 1, 400, .inl qT)), (ywd, .inl (g.2.1 1, 77, .inl qW)), (yr, .inl (g.2.1 1, 24, .inl qr))] := by
    intro R hR h0 f2 p2 d2 n2 t2 w2 l2 h1 h2
    exact ⟨0, (f2, p2, d2, n2, t2, w2, l2, qr), rfl, rfl, Or.inl ⟨rfl, by rw [hR]; exact h0, by rw [hR]; exact h1, by rw [hR]; exact h2, rfl⟩⟩
  have good : ∀ (x sl : Nat) (v w1 d2 : Int32), x ≤ e → sl < 12 → ¬ v < 0 → (pl_line (rt_c qT e) e to j = if tk_k (rt_c qT e) e x = 3 then (0, 0, tk_e (rt_c qT e) e x, sl, v) else (1, tk_s (rt_c qT e) e x, 0, 0, 0)) → (pz_pi (fun (r : Int32) (u : Int32 × Int32 × Int32 × Int32 × Int32 × Int32 × Int32 × (Nat → Int32)) => (r = 0 ∧ ¬ (pl_line (rt_c qT e) e to j).1 = 0 ∧ u.1 = (pl_line (rt_c qT e) e to j).1 ∧ u.2.1 = nI (pl_line (rt_c qT e) e to j).2.1 ∧ u.2.2.2.2.2.2.2 = qr) ∨ (r = 1 ∧ u.1 = rF ∧ u.2.1 = rP ∧ ∃ x sl v w1, x ≤ e ∧ sl < 12 ∧ ¬ v < 0 ∧ u.2.2.2.2.2.2.2 = upd qr (12 + sl) v ∧ u.2.2.2.1 = nI (tk_e (rt_c qT e) e x) ∧ u.2.2.2.2.2.2.1 = nI (tk_s (rt_c qT e) e x) ∧ u.2.2.2.2.1 = rt_k (rt_c qT e) e x ∧ u.2.2.2.2.2.1 = rt_h (rt_c qT e) e x w1 ∧ (pl_line (rt_c qT e) e to j) = if tk_k (rt_c qT e) e x = 3 then (0, 0, tk_e (rt_c qT e) e x, sl, v) else (1, tk_s (rt_c qT e) e x, 0, 0, 0))) (fun (u : Int32 × Int32 × Int32 × Int32 × Int32 × Int32 × Int32 × (Nat → Int32)) => [(h0, .inr (8, [.ref yt, .int rT, .int rH, .int (nI G), .ref yw, .int (nI K), .ref yp, .ref yg, .int (nI M), .ref yu, .int (nI N), .ref ysl, .ref yin, .ref yse, .ref ysp, .ref ypa, .int rA, .ref yb, .ref ybd, .ref ybc, .ref yr, .int u.1, .int u.2.1, .ref ywd, .int (nI e), .int u.2.2.2.1, .int u.2.2.2.2.1, .int u.2.2.2.2.2.1, .int u.2.2.2.2.2.2.1, .int u.2.2.1, .ref yd, .int rI, .int rX, .int rY, .int rZ, .int rU, .ref yro, .ref yc, .ref ybe, .ref yco, .long rC, .long rV])), (yt, .inl (g.2.1 1, 400, .inl qT)), (ywd, .inl (g.2.1 1, 77, .inl qW)), (yr, .inl (g.2.1 1, 24, .inl u.2.2.2.2.2.2.2))])) (some (.int 1)) [(h0, .inr (8, [.ref yt, .int rT, .int rH, .int (nI G), .ref yw, .int (nI K), .ref yp, .ref yg, .int (nI M), .ref yu, .int (nI N), .ref ysl, .ref yin, .ref yse, .ref ysp, .ref ypa, .int rA, .ref yb, .ref ybd, .ref ybc, .ref yr, .int rF, .int rP, .ref ywd, .int (nI e), .int (nI (tk_e (rt_c qT e) e x)), .int (rt_k (rt_c qT e) e x), .int (rt_h (rt_c qT e) e x w1), .int (nI (tk_s (rt_c qT e) e x)), .int d2, .ref yd, .int rI, .int rX, .int rY, .int rZ, .int rU, .ref yro, .ref yc, .ref ybe, .ref yco, .long rC, .long rV])), (yt, .inl (g.2.1 1, 400, .inl qT)), (ywd, .inl (g.2.1 1, 77, .inl qW)), (yr, .inl (g.2.1 1, 24, .inl (upd qr (12 + sl) v)))] := by
    intro x sl v w1 d2 h1 h2 h3 h4
    exact ⟨1, (rF, rP, d2, nI (tk_e (rt_c qT e) e x), rt_k (rt_c qT e) e x, rt_h (rt_c qT e) e x w1, nI (tk_s (rt_c qT e) e x), upd qr (12 + sl) v), rfl, rfl, Or.inr ⟨rfl, rfl, rfl, x, sl, v, w1, h1, h2, h3, rfl, rfl, rfl, rfl, rfl, h4⟩⟩
  have h245 : ∀ (w ot n1 t1 w1 l1 : Int32), (∃ li w9, li < 3 ∧ w = nI li ∧ ot = nI (pz_ot.getD li 13) ∧ n1 = nI (tk_e (rt_c qT e) e (tk_e (rt_c qT e) e j)) ∧ w1 = rt_h (rt_c qT e) e (tk_e (rt_c qT e) e j) w9 ∧ rt_k (rt_c qT e) e (tk_e (rt_c qT e) e j) = 1 ∧ (w1 = nI (pz_us.getD li 13) ∨ w1 = ot) ∧ pl_line (rt_c qT e) e to j = pl_end (rt_c qT e) e (tk_e (rt_c qT e) e j) li li) → paX9_line_245 B g h0 yt rT rH yw yp yg yu ysl yin yse ysp ypa rA yb ybd ybc yr rF rP ywd (nI (tk_e (rt_c qT e) e j)) (rt_k (rt_c qT e) e j) (rt_h (rt_c qT e) e j w0) (nI (tk_s (rt_c qT e) e j)) rD yd rI rX rY rZ rU yro yc ybe yco rC rV qT qW qr G K M N e j w0 to w ot n1 t1 w1 l1 := by
    rintro w ot n1 t1 w1 l1 ⟨li, w9, hli, rfl, rfl, rfl, rfl, hk, hor, hR⟩
    refine sgX9_line_245 F Rt h0 yt rT rH yw yp yg yu ysl yin yse ysp ypa rA yb ybd ybc yr rF rP ywd (nI (tk_e (rt_c qT e) e j)) (rt_k (rt_c qT e) e j) (rt_h (rt_c qT e) e j w0) (nI (tk_s (rt_c qT e) e j)) rD yd rI rX rY rZ rU yro yc ybe yco rC rV qT qW qr G K M N e j w0 to _ _ _ t1 _ l1 ?_
    rw [t12, nI_clamp (by omega)]
    have hin : vp_in (nI (12 + li)) 24 := vp_in_nI (by omega) (by omega)
    rcases pl_word (c := (rt_c qT e)) (e := e) (y := tk_e (rt_c qT e) e j) li w9 hli with ⟨h1, h2⟩ | ⟨h1, h2, h3⟩ | ⟨h1, h2, h3, h4⟩
    · exact absurd ⟨hk, hor⟩ h1
    · refine ⟨fun q => absurd h2 q, fun _ => ⟨hin, ?_⟩⟩
      rintro f rfl
      exact ⟨_, ⟨hy.2, he, hW, rfl⟩, fun _ => good _ li 1 _ _ hy.2 (by omega) (by decide) (hR.trans h3)⟩
    · refine ⟨fun _ => ⟨hin, ?_⟩, fun q => absurd q h3⟩
      rintro f rfl
      exact ⟨_, ⟨hy.2, he, hW, rfl⟩, fun _ => good _ li 0 _ _ hy.2 (by omega) (by decide) (hR.trans h4)⟩
  have h211 : ∀ (w on ot n1 t1 w1 l1 : Int32), (∃ li w9, li < 3 ∧ w = nI li ∧ on = nI (pz_us.getD li 13) ∧ ot = nI (pz_ot.getD li 13) ∧ n1 = nI (tk_e (rt_c qT e) e (tk_e (rt_c qT e) e j)) ∧ t1 = rt_k (rt_c qT e) e (tk_e (rt_c qT e) e j) ∧ w1 = rt_h (rt_c qT e) e (tk_e (rt_c qT e) e j) w9 ∧ l1 = nI (tk_s (rt_c qT e) e (tk_e (rt_c qT e) e j)) ∧ pl_line (rt_c qT e) e to j = pl_end (rt_c qT e) e (tk_e (rt_c qT e) e j) li li) → paX9_line_211 B g h0 yt rT rH yw yp yg yu ysl yin yse ysp ypa rA yb ybd ybc yr rF rP ywd (nI (tk_e (rt_c qT e) e j)) (rt_k (rt_c qT e) e j) (rt_h (rt_c qT e) e j w0) (nI (tk_s (rt_c qT e) e j)) rD yd rI rX rY rZ rU yro yc ybe yco rC rV qT qW qr G K M N e j w0 to w on ot n1 t1 w1 l1 := by
    rintro w on ot n1 t1 w1 l1 ⟨li, w9, hli, rfl, rfl, rfl, rfl, rfl, rfl, rfl, hR⟩
    refine sgX9_line_211 F Rt h0 yt rT rH yw yp yg yu ysl yin yse ysp ypa rA yb ybd ybc yr rF rP ywd (nI (tk_e (rt_c qT e) e j)) (rt_k (rt_c qT e) e j) (rt_h (rt_c qT e) e j w0) (nI (tk_s (rt_c qT e) e j)) rD yd rI rX rY rZ rU yro yc ybe yco rC rV qT qW qr G K M N e j w0 to _ h245 _ _ _ _ _ _ _ ?_
    have no : ¬ (rt_k (rt_c qT e) e (tk_e (rt_c qT e) e j) = 1 ∧ (rt_h (rt_c qT e) e (tk_e (rt_c qT e) e j) w9 = nI (pz_us.getD li 13) ∨ rt_h (rt_c qT e) e (tk_e (rt_c qT e) e j) w9 = nI (pz_ot.getD li 13))) → pl_line (rt_c qT e) e to j = (1, tk_s (rt_c qT e) e (tk_e (rt_c qT e) e j), 0, 0, 0) := by
      intro hn
      rcases pl_word (c := (rt_c qT e)) (e := e) (y := tk_e (rt_c qT e) e j) li w9 hli with ⟨h1, h2⟩ | ⟨h1, h2, h3⟩ | ⟨h1, h2, h3, h4⟩
      · exact hR.trans h2
      · exact absurd ⟨h1, Or.inr h2⟩ hn
      · exact absurd ⟨h1, Or.inl h2⟩ hn
    refine ⟨fun q => ?_, fun q => ⟨fun q2 => ⟨li, w9, hli, rfl, rfl, rfl, rfl, q, Or.inl q2, hR⟩, fun q2 => ⟨fun q3 => ⟨li, w9, hli, rfl, rfl, rfl, rfl, q, Or.inr q3, hR⟩, fun q3 => ?_⟩⟩⟩
    · rintro r rfl
      exact ⟨by decide, bad _ (no (fun h => q h.1)) (by first | exact pu_n1 | exact pu_n2 | exact pu_n3) _ _ _ _ _ _ _ rfl rfl⟩
    · rintro r rfl
      exact ⟨by decide, bad _ (no (fun h => h.2.elim q2 q3)) (by first | exact pu_n1 | exact pu_n2 | exact pu_n3) _ _ _ _ _ _ _ rfl rfl⟩
  have h167 : ∀ (w n1 t1 w1 l1 : Int32), (∃ li w9, li < 3 ∧ w = nI li ∧ n1 = nI (tk_e (rt_c qT e) e (tk_e (rt_c qT e) e j)) ∧ t1 = rt_k (rt_c qT e) e (tk_e (rt_c qT e) e j) ∧ w1 = rt_h (rt_c qT e) e (tk_e (rt_c qT e) e j) w9 ∧ l1 = nI (tk_s (rt_c qT e) e (tk_e (rt_c qT e) e j)) ∧ pl_line (rt_c qT e) e to j = pl_end (rt_c qT e) e (tk_e (rt_c qT e) e j) li li) → paX9_line_167 B g h0 yt rT rH yw yp yg yu ysl yin yse ysp ypa rA yb ybd ybc yr rF rP ywd (nI (tk_e (rt_c qT e) e j)) (rt_k (rt_c qT e) e j) (rt_h (rt_c qT e) e j w0) (nI (tk_s (rt_c qT e) e j)) rD yd rI rX rY rZ rU yro yc ybe yco rC rV qT qW qr G K M N e j w0 to w n1 t1 w1 l1 := by
    rintro w n1 t1 w1 l1 ⟨li, w9, hli, rfl, rfl, rfl, rfl, rfl, hR⟩
    have h189 : ∀ (w on n1 t1 w1 l1 : Int32), (w = nI li ∧ on = nI (pz_us.getD li 13) ∧ n1 = nI (tk_e (rt_c qT e) e (tk_e (rt_c qT e) e j)) ∧ t1 = rt_k (rt_c qT e) e (tk_e (rt_c qT e) e j) ∧ w1 = rt_h (rt_c qT e) e (tk_e (rt_c qT e) e j) w9 ∧ l1 = nI (tk_s (rt_c qT e) e (tk_e (rt_c qT e) e j))) → paX9_line_189 B g h0 yt rT rH yw yp yg yu ysl yin yse ysp ypa rA yb ybd ybc yr rF rP ywd (nI (tk_e (rt_c qT e) e j)) (rt_k (rt_c qT e) e j) (rt_h (rt_c qT e) e j w0) (nI (tk_s (rt_c qT e) e j)) rD yd rI rX rY rZ rU yro yc ybe yco rC rV qT qW qr G K M N e j w0 to w on n1 t1 w1 l1 := by
      rintro w on n1 t1 w1 l1 ⟨rfl, rfl, rfl, rfl, rfl, rfl⟩
      refine sgX9_line_189 F Rt h0 yt rT rH yw yp yg yu ysl yin yse ysp ypa rA yb ybd ybc yr rF rP ywd (nI (tk_e (rt_c qT e) e j)) (rt_k (rt_c qT e) e j) (rt_h (rt_c qT e) e j w0) (nI (tk_s (rt_c qT e) e j)) rD yd rI rX rY rZ rU yro yc ybe yco rC rV qT qW qr G K M N e j w0 to _ h211 _ _ _ _ _ _ ?_
      rcases (show li = 0 ∨ li = 1 ∨ li = 2 by omega) with rfl | rfl | rfl
      · exact ⟨fun q => absurd rfl q, fun _ => ⟨0, w9, hli, rfl, rfl, rfl, rfl, rfl, rfl, rfl, hR⟩⟩
      · exact ⟨fun _ => ⟨fun q => absurd rfl q, fun _ => ⟨1, w9, hli, rfl, rfl, rfl, rfl, rfl, rfl, rfl, hR⟩⟩, fun q => absurd q (by decide)⟩
      · exact ⟨fun _ => ⟨fun _ => ⟨2, w9, hli, rfl, rfl, rfl, rfl, rfl, rfl, rfl, hR⟩, fun q => absurd q (by decide)⟩, fun q => absurd q (by decide)⟩
    refine sgX9_line_167 F Rt h0 yt rT rH yw yp yg yu ysl yin yse ysp ypa rA yb ybd ybc yr rF rP ywd (nI (tk_e (rt_c qT e) e j)) (rt_k (rt_c qT e) e j) (rt_h (rt_c qT e) e j w0) (nI (tk_s (rt_c qT e) e j)) rD yd rI rX rY rZ rU yro yc ybe yco rC rV qT qW qr G K M N e j w0 to _ h189 _ _ _ _ _ ?_
    rcases (show li = 0 ∨ li = 1 ∨ li = 2 by omega) with rfl | rfl | rfl
    · exact ⟨fun q => absurd rfl q, fun _ => ⟨rfl, rfl, rfl, rfl, rfl, rfl⟩⟩
    · exact ⟨fun _ => ⟨fun q => absurd rfl q, fun _ => ⟨rfl, rfl, rfl, rfl, rfl, rfl⟩⟩, fun q => absurd q (by decide)⟩
    · exact ⟨fun _ => ⟨fun _ => ⟨rfl, rfl, rfl, rfl, rfl, rfl⟩, fun q => absurd q (by decide)⟩, fun q => absurd q (by decide)⟩
  have h108 : ∀ (w : Int32), (∃ k, k < 8 ∧ w = nI k ∧ tk_l (rt_c qT e) e j = some k) → paX9_line_108 B g h0 yt rT rH yw yp yg yu ysl yin yse ysp ypa rA yb ybd ybc yr rF rP ywd (nI (tk_e (rt_c qT e) e j)) (rt_k (rt_c qT e) e j) (rt_h (rt_c qT e) e j w0) (nI (tk_s (rt_c qT e) e j)) rD yd rI rX rY rZ rU yro yc ybe yco rC rV qT qW qr G K M N e j w0 to w := by
    rintro w ⟨k, hk, rfl, hl⟩
    refine sgX9_line_108 F Rt h0 yt rT rH yw yp yg yu ysl yin yse ysp ypa rA yb ybd ybc yr rF rP ywd (nI (tk_e (rt_c qT e) e j)) (rt_k (rt_c qT e) e j) (rt_h (rt_c qT e) e j w0) (nI (tk_s (rt_c qT e) e j)) rD yd rI rX rY rZ rU yro yc ybe yco rC rV qT qW qr G K M N e j w0 to _ h167 _ ?_
    rw [t12, nI_clamp (by omega)]
    have hin : vp_in (nI (12 + k)) 24 := vp_in_nI (by omega) (by omega)
    refine ⟨hin, fun q => ⟨tk_e (rt_c qT e) e j, ⟨hx.2, he, hW, rfl⟩, fun _ => ⟨fun q2 => ?_, fun q2 => ?_⟩⟩, fun q => ?_⟩
    · have hto : to k = 0 := by
        rcases htold k (by omega) with h | h
        · exact h.2
        · exact absurd q h.1
      exact ⟨k, _, by have := (nI_leI (b := 2) (by omega) (by omega)).mp q2; omega, rfl, rfl, rfl, rfl, rfl, pl_line_w hl (by omega) hto⟩
    · have hto : to k = 0 := by
        rcases htold k (by omega) with h | h
        · exact h.2
        · exact absurd q h.1
      have h3 : 3 ≤ k := by
        apply Classical.byContradiction
        intro h
        exact q2 (nI_le (b := 2) (by omega) (by omega))
      obtain ⟨u1, m, u2, u3, u4⟩ := us_no h3 (by omega)
      rw [u4]
      rintro rm rfl
      refine ⟨⟨hy.2, he, hW, rfl⟩, fun r f2 p2 d2 n2 t2 w2 l2 hr => ?_⟩
      have hR := pl_line_w hl (by omega) hto
      rcases pl_num (c := (rt_c qT e)) (e := e) (y := tk_e (rt_c qT e) e j) k (rt_h (rt_c qT e) e j w0) hx.2 u1 u3 u2 with ⟨h1, h2⟩ | ⟨h1, h2, h4⟩ | ⟨h1, h2, h4, h5⟩
      · rcases hr with ⟨a, rfl, rfl, rfl⟩ | ⟨a, _⟩ | ⟨a, _⟩
        · exact ⟨fun q => absurd rfl q, fun _ => bad _ (hR.trans h2) (by first | exact pu_n1 | exact pu_n2 | exact pu_n3) _ _ _ _ _ _ _ rfl rfl⟩
        · exact absurd a h1
        · exact absurd a h1
      · rcases hr with ⟨a, _⟩ | ⟨a, a2, rfl, rfl, rfl⟩ | ⟨a, a2, _⟩
        · exact absurd h1 a
        · exact ⟨fun q => absurd rfl q, fun _ => bad _ (hR.trans h4) (by first | exact pu_n1 | exact pu_n2 | exact pu_n3) _ _ _ _ _ _ _ rfl rfl⟩
        · exact absurd h2 a2
      · rcases hr with ⟨a, _⟩ | ⟨a, a2, _⟩ | ⟨a, a2, rfl, rfl, rfl, rfl, rfl, rfl, rfl, rfl⟩
        · exact absurd h1 a
        · exact absurd a2 h2
        · refine ⟨fun _ => ⟨hin, ?_⟩, fun q => absurd q (by decide)⟩
          rintro f rfl
          exact good _ k _ _ _ hy.2 (by omega) h4 (hR.trans h5)
    · have hto : ¬ to k = 0 := by
        rcases htold k (by omega) with h | h
        · exact absurd h.1 q
        · exact h.2
      rintro r rfl
      exact ⟨by decide, bad _ (pl_line_w3 hl (by omega) hto) (by first | exact pu_n1 | exact pu_n2 | exact pu_n3) _ _ _ _ _ _ _ rfl rfl⟩
  refine sgX9_line_0 F Rt h0 yt rT rH yw yp yg yu ysl yin yse ysp ypa rA yb ybd ybc yr rF rP ywd (nI (tk_e (rt_c qT e) e j)) (rt_k (rt_c qT e) e j) (rt_h (rt_c qT e) e j w0) (nI (tk_s (rt_c qT e) e j)) rD yd rI rX rY rZ rU yro yc ybe yco rC rV qT qW qr G K M N e j w0 to _ h108 ?_
  rcases rt_cases (rt_c qT e) e j w0 with ⟨hk, k, k1, k2, k3, k4⟩ | ⟨hk, k4⟩
  · rw [k2]
    refine ⟨fun q => absurd hk q, fun _ => ⟨fun q => ?_, fun q => ?_⟩⟩
    · have hk8 : k ≤ 8 := (nI_leI (b := 8) (by omega) (by omega)).mp q
      have hl := tk_l_some (by omega) k3 k4
      refine ⟨fun q2 => ⟨k, ?_, rfl, hl⟩, fun q2 => ?_⟩
      · rcases Nat.lt_or_ge k 8 with h | h
        · exact h
        · exact absurd (congrArg nI (show k = 8 by omega)) q2
      · have ek : k = 8 := (nI_eq (b := 8) (by omega) (by omega)).mp q2
        subst ek
        refine ⟨tk_e (rt_c qT e) e j, ⟨hx.2, he, hW, rfl⟩, fun _ => ⟨⟨hy.2, he, hW, rfl⟩, fun r f2 p2 d2 n2 t2 w2 l2 hr => ?_⟩⟩
        rcases pl_line_o (to := to) (nI 8) hx.2 hl with ⟨h1, h2⟩ | ⟨h1, h2, h4⟩ | ⟨h1, h2, v, hv, ev, h4⟩
        · rcases hr with ⟨a, rfl, rfl, rfl⟩ | ⟨a, _⟩ | ⟨a, _⟩
          · exact ⟨fun q => absurd rfl q, fun _ => bad _ h2 (by first | exact pu_n1 | exact pu_n2 | exact pu_n3) _ _ _ _ _ _ _ rfl rfl⟩
          · exact absurd a h1
          · exact absurd a h1
        · rcases hr with ⟨a, _⟩ | ⟨a, a2, rfl, rfl, rfl⟩ | ⟨a, a2, _⟩
          · exact absurd h1 a
          · exact ⟨fun q => absurd rfl q, fun _ => bad _ h4 (by first | exact pu_n1 | exact pu_n2 | exact pu_n3) _ _ _ _ _ _ _ rfl rfl⟩
          · exact absurd h2 a2
        · rcases hr with ⟨a, _⟩ | ⟨a, a2, _⟩ | ⟨a, a2, rfl, rfl, rfl, rfl, rfl, rfl, rfl, rfl⟩
          · exact absurd h1 a
          · exact absurd a2 h2
          · have e20 : (20 : Int32) + nI v = nI (12 + (8 + v)) := by
              have : (20 : Int32) + nI v = nI (20 + v) := nI_add 20 v
              rw [this, show 20 + v = 12 + (8 + v) by omega]
            rw [ev, e20, nI_clamp (by omega)]
            have hin : vp_in (nI (12 + (8 + v))) 24 := vp_in_nI (by omega) (by omega)
            refine ⟨fun _ => ⟨hin, fun q3 => ?_, fun q3 => ?_⟩, fun q => absurd q (by decide)⟩
            · have hto : to (8 + v) = 0 := by
                rcases htold (8 + v) (by omega) with h | h
                · exact h.2
                · exact absurd q3 h.1
              have hR : pl_line (rt_c qT e) e to j = pl_end (rt_c qT e) e (tk_e (rt_c qT e) e (tk_e (rt_c qT e) e j)) 8 (8 + v) := by
                rcases h4 with h | h
                · exact absurd hto h.1
                · exact h.2
              have hz := tk_e_in (c := (rt_c qT e)) hy.2
              refine ⟨_, ⟨hz.2, he, hW, rfl⟩, fun r f2 p2 d2 n2 t2 w2 l2 hr => ?_⟩
              rcases pl_num (c := (rt_c qT e)) (e := e) (y := tk_e (rt_c qT e) e (tk_e (rt_c qT e) e j)) (li := 8) (m := 999) (8 + v) (nI v) hy.2 (by decide) (by decide) (by omega) with ⟨g1, g2⟩ | ⟨g1, g2, g4⟩ | ⟨g1, g2, g4, g5⟩
              · rcases hr with ⟨a, rfl, rfl, rfl⟩ | ⟨a, _⟩ | ⟨a, _⟩
                · exact ⟨fun q => absurd rfl q, fun _ => bad _ (hR.trans g2) (by first | exact pu_n1 | exact pu_n2 | exact pu_n3) _ _ _ _ _ _ _ rfl rfl⟩
                · exact absurd a g1
                · exact absurd a g1
              · rcases hr with ⟨a, _⟩ | ⟨a, a2, rfl, rfl, rfl⟩ | ⟨a, a2, _⟩
                · exact absurd g1 a
                · exact ⟨fun q => absurd rfl q, fun _ => bad _ (hR.trans g4) (by first | exact pu_n1 | exact pu_n2 | exact pu_n3) _ _ _ _ _ _ _ rfl rfl⟩
                · exact absurd g2 a2
              · rcases hr with ⟨a, _⟩ | ⟨a, a2, _⟩ | ⟨a, a2, rfl, rfl, rfl, rfl, rfl, rfl, rfl, rfl⟩
                · exact absurd g1 a
                · exact absurd a2 g2
                · refine ⟨fun _ => ⟨hin, ?_⟩, fun q => absurd q (by decide)⟩
                  rintro f rfl
                  exact good _ (8 + v) _ _ _ hz.2 (by omega) g4 (hR.trans g5)
            · have hto : ¬ to (8 + v) = 0 := by
                rcases htold (8 + v) (by omega) with h | h
                · exact absurd h.1 q3
                · exact h.2
              rintro r rfl
              rcases h4 with h | h
              · exact ⟨by decide, bad _ h.2 (by first | exact pu_n1 | exact pu_n2 | exact pu_n3) _ _ _ _ _ _ _ rfl rfl⟩
              · exact absurd h.1 hto
    · have hk8 : ¬ k ≤ 8 := fun h => q (nI_le (b := 8) h (by omega))
      rintro r rfl
      exact ⟨by decide, bad _ (pl_line_n (tk_l_none (fun x hx => k4 x (by omega) (by omega)))) (by first | exact pu_n1 | exact pu_n2 | exact pu_n3) _ _ _ _ _ _ _ rfl rfl⟩
  · refine ⟨fun q => ?_, fun q => absurd q hk⟩
    rintro r rfl
    exact ⟨by decide, bad _ (pl_line_n (tk_l_none (fun x hx => k4 x (by omega)))) (by first | exact pu_n1 | exact pu_n2 | exact pu_n3) _ _ _ _ _ _ _ rfl rfl⟩
