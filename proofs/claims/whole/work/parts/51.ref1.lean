
abbrev rmX9_thrown : Room := { frames := 0, cells := 0, slots := 0, locals := 0 }
set_option maxHeartbeats 4000000 in
set_option maxRecDepth 100000 in
theorem sgX9_thrown_0 {B : pz_B} {g : pz_G} {wc : va_W} {Post : Option Value → va_W → Prop} (F : pz_F B cX9_thrown 1 (some .int) yX9_thrown.cls g rmX9_thrown) (Rt : pz_Rt B g wc Post rmX9_thrown) (h0 : Nat) (yt : Nat) (rT : Int32) (rH : Int32) (yw : Nat) (yp : Nat) (yg : Nat) (yu : Nat) (ysl : Nat) (yin : Nat) (yse : Nat) (ysp : Nat) (ypa : Nat) (rA : Int32) (yb : Nat) (ybd : Nat) (ybc : Nat) (yr : Nat) (rF : Int32) (rP : Int32) (ywd : Nat) (rS : Int32) (rN : Int32) (rO : Int32) (rW : Int32) (rL : Int32) (rD : Int32) (yd : Nat) (rI : Int32) (rX : Int32) (rY : Int32) (rZ : Int32) (rU : Int32) (yro : Nat) (yc : Nat) (ybe : Nat) (yco : Nat) (rC : Int64) (rV : Int64) (G : Nat) (K : Nat) (M : Nat) (N : Nat)  (vc : Post (some (.int rH)) [(h0, .inr (8, [.ref yt, .int rT, .int rH, .int (nI G), .ref yw, .int (nI K), .ref yp, .ref yg, .int (nI M), .ref yu, .int (nI N), .ref ysl, .ref yin, .ref yse, .ref ysp, .ref ypa, .int rA, .ref yb, .ref ybd, .ref ybc, .ref yr, .int rF, .int rP, .ref ywd, .int rS, .int rN, .int rO, .int rW, .int rL, .int rD, .ref yd, .int rI, .int rX, .int rY, .int rZ, .int rU, .ref yro, .ref yc, .ref ybe, .ref yco, .long rC, .long rV]))]) : pz_At B 0 0 0 [(0, .ref h0)] [] [(h0, .inr (8, [.ref yt, .int rT, .int rH, .int (nI G), .ref yw, .int (nI K), .ref yp, .ref yg, .int (nI M), .ref yu, .int (nI N), .ref ysl, .ref yin, .ref yse, .ref ysp, .ref ypa, .int rA, .ref yb, .ref ybd, .ref ybc, .ref yr, .int rF, .int rP, .ref ywd, .int rS, .int rN, .int rO, .int rW, .int rL, .int rD, .ref yd, .int rI, .int rX, .int rY, .int rZ, .int rU, .ref yro, .ref yc, .ref ybe, .ref yco, .long rC, .long rV]))] := by
  refine pz_aload_n 0 F rfl dX9_thrown_0 rfl ?_
  refine pz_get (ci := 8) (C := RX9) (T := TX9) (N := 42) (v := .int rH) 0 F rfl rfl pz_inX9 2 (by decide) pw_810 rfl dX9_thrown_1 ?_
  exact pz_ireturn (w1 := [(h0, .inr (8, [.ref yt, .int rT, .int rH, .int (nI G), .ref yw, .int (nI K), .ref yp, .ref yg, .int (nI M), .ref yu, .int (nI N), .ref ysl, .ref yin, .ref yse, .ref ysp, .ref ypa, .int rA, .ref yb, .ref ybd, .ref ybc, .ref yr, .int rF, .int rP, .ref ywd, .int rS, .int rN, .int rO, .int rW, .int rL, .int rD, .ref yd, .int rI, .int rX, .int rY, .int rZ, .int rU, .ref yro, .ref yc, .ref ybe, .ref yco, .long rC, .long rV]))]) F Rt (by decide) (by decide) dX9_thrown_4 [0] rfl rfl rfl vc
set_option maxHeartbeats 4000000 in
set_option maxRecDepth 100000 in
theorem ctX9_thrown (l : Launch) (g : pz_G) (h0 : Nat) (yt : Nat) (rT : Int32) (rH : Int32) (yw : Nat) (yp : Nat) (yg : Nat) (yu : Nat) (ysl : Nat) (yin : Nat) (yse : Nat) (ysp : Nat) (ypa : Nat) (rA : Int32) (yb : Nat) (ybd : Nat) (ybc : Nat) (yr : Nat) (rF : Int32) (rP : Int32) (ywd : Nat) (rS : Int32) (rN : Int32) (rO : Int32) (rW : Int32) (rL : Int32) (rD : Int32) (yd : Nat) (rI : Int32) (rX : Int32) (rY : Int32) (rZ : Int32) (rU : Int32) (yro : Nat) (yc : Nat) (ybe : Nat) (yco : Nat) (rC : Int64) (rV : Int64) (G : Nat) (K : Nat) (M : Nat) (N : Nat) : pz_Ct l g yX9_thrown cX9_thrown 1 (some .int) rmX9_thrown [.ref h0] [(h0, .inr (8, [.ref yt, .int rT, .int rH, .int (nI G), .ref yw, .int (nI K), .ref yp, .ref yg, .int (nI M), .ref yu, .int (nI N), .ref ysl, .ref yin, .ref yse, .ref ysp, .ref ypa, .int rA, .ref yb, .ref ybd, .ref ybc, .ref yr, .int rF, .int rP, .ref ywd, .int rS, .int rN, .int rO, .int rW, .int rL, .int rD, .ref yd, .int rI, .int rX, .int rY, .int rZ, .int rU, .ref yro, .ref yc, .ref ybe, .ref yco, .long rC, .long rV]))] (pz_pi (fun (r : Int32) (u : Unit) => r = rH) (fun (u : Unit) => [(h0, .inr (8, [.ref yt, .int rT, .int rH, .int (nI G), .ref yw, .int (nI K), .ref yp, .ref yg, .int (nI M), .ref yu, .int (nI N), .ref ysl, .ref yin, .ref yse, .ref ysp, .ref ypa, .int rA, .ref yb, .ref ybd, .ref ybc, .ref yr, .int rF, .int rP, .ref ywd, .int rS, .int rN, .int rO, .int rW, .int rL, .int rD, .ref yd, .int rI, .int rX, .int rY, .int rZ, .int rU, .ref yro, .ref yc, .ref ybe, .ref yco, .long rC, .long rV]))])) := by
  refine pz_ofAt (by decide +kernel) (Nat.le_of_ble_eq_true rfl) (fun B F Rt hme => ?_)
  refine sgX9_thrown_0 F Rt h0 yt rT rH yw yp yg yu ysl yin yse ysp ypa rA yb ybd ybc yr rF rP ywd rS rN rO rW rL rD yd rI rX rY rZ rU yro yc ybe yco rC rV G K M N ?_
  clear F Rt hme
  repeat' (first | apply And.intro | intro _)
  all_goals (try subst_vars)
  all_goals (first | exact ⟨_, (), rfl, rfl, rfl⟩ | exact ⟨_, (), rfl, rfl, by simp only [*, reduceIte, and_self, and_true, true_and, not_false_eq_true]⟩)
abbrev rmX9_wrong : Room := { frames := 0, cells := 0, slots := 0, locals := 0 }
set_option maxHeartbeats 4000000 in
set_option maxRecDepth 100000 in
theorem sgX9_wrong_0 {B : pz_B} {g : pz_G} {wc : va_W} {Post : Option Value → va_W → Prop} (F : pz_F B cX9_wrong 3 (some .boolean) yX9_wrong.cls g rmX9_wrong) (Rt : pz_Rt B g wc Post rmX9_wrong) (w : Int32) (a : Int32) (h0 : Nat) (yt : Nat) (rT : Int32) (rH : Int32) (yw : Nat) (yp : Nat) (yg : Nat) (yu : Nat) (ysl : Nat) (yin : Nat) (yse : Nat) (ysp : Nat) (ypa : Nat) (rA : Int32) (yb : Nat) (ybd : Nat) (ybc : Nat) (yr : Nat) (rF : Int32) (rP : Int32) (ywd : Nat) (rS : Int32) (rN : Int32) (rO : Int32) (rW : Int32) (rL : Int32) (rD : Int32) (yd : Nat) (rI : Int32) (rX : Int32) (rY : Int32) (rZ : Int32) (rU : Int32) (yro : Nat) (yc : Nat) (ybe : Nat) (yco : Nat) (rC : Int64) (rV : Int64) (G : Nat) (K : Nat) (M : Nat) (N : Nat)  (vc : Post (some (.int 0)) [(h0, .inr (8, [.ref yt, .int rT, .int rH, .int (nI G), .ref yw, .int (nI K), .ref yp, .ref yg, .int (nI M), .ref yu, .int (nI N), .ref ysl, .ref yin, .ref yse, .ref ysp, .ref ypa, .int rA, .ref yb, .ref ybd, .ref ybc, .ref yr, .int w, .int a, .ref ywd, .int rS, .int rN, .int rO, .int rW, .int rL, .int rD, .ref yd, .int rI, .int rX, .int rY, .int rZ, .int rU, .ref yro, .ref yc, .ref ybe, .ref yco, .long rC, .long rV]))]) : pz_At B 0 0 0 [(0, .ref h0), (1, .int w), (2, .int a)] [] [(h0, .inr (8, [.ref yt, .int rT, .int rH, .int (nI G), .ref yw, .int (nI K), .ref yp, .ref yg, .int (nI M), .ref yu, .int (nI N), .ref ysl, .ref yin, .ref yse, .ref ysp, .ref ypa, .int rA, .ref yb, .ref ybd, .ref ybc, .ref yr, .int rF, .int rP, .ref ywd, .int rS, .int rN, .int rO, .int rW, .int rL, .int rD, .ref yd, .int rI, .int rX, .int rY, .int rZ, .int rU, .ref yro, .ref yc, .ref ybe, .ref yco, .long rC, .long rV]))] := by
  refine pz_aload_n 0 F rfl dX9_wrong_0 rfl ?_
  refine pz_iload_n 1 F rfl dX9_wrong_1 rfl ?_
  refine pz_put (ws' := [(h0, .inr (8, [.ref yt, .int rT, .int rH, .int (nI G), .ref yw, .int (nI K), .ref yp, .ref yg, .int (nI M), .ref yu, .int (nI N), .ref ysl, .ref yin, .ref yse, .ref ysp, .ref ypa, .int rA, .ref yb, .ref ybd, .ref ybc, .ref yr, .int w, .int rP, .ref ywd, .int rS, .int rN, .int rO, .int rW, .int rL, .int rD, .ref yd, .int rI, .int rX, .int rY, .int rZ, .int rU, .ref yro, .ref yc, .ref ybe, .ref yco, .long rC, .long rV]))]) (ci := 8) (C := RX9) (T := TX9) (N := 42) (v := .int w) (ty := .int) 0 F rfl rfl pz_inX9 21 (by decide) pw_829 tyX9_ok nmX9 rfl rfl rfl rfl (Nat.le_of_ble_eq_true rfl) dX9_wrong_2 rfl ?_
  refine pz_aload_n 0 F rfl dX9_wrong_5 rfl ?_
  refine pz_iload_n 2 F rfl dX9_wrong_6 rfl ?_
  refine pz_put (ws' := [(h0, .inr (8, [.ref yt, .int rT, .int rH, .int (nI G), .ref yw, .int (nI K), .ref yp, .ref yg, .int (nI M), .ref yu, .int (nI N), .ref ysl, .ref yin, .ref yse, .ref ysp, .ref ypa, .int rA, .ref yb, .ref ybd, .ref ybc, .ref yr, .int w, .int a, .ref ywd, .int rS, .int rN, .int rO, .int rW, .int rL, .int rD, .ref yd, .int rI, .int rX, .int rY, .int rZ, .int rU, .ref yro, .ref yc, .ref ybe, .ref yco, .long rC, .long rV]))]) (ci := 8) (C := RX9) (T := TX9) (N := 42) (v := .int a) (ty := .int) 0 F rfl rfl pz_inX9 22 (by decide) pw_830 tyX9_ok nmX9 rfl rfl rfl rfl (Nat.le_of_ble_eq_true rfl) dX9_wrong_7 rfl ?_
  refine pz_iconst (v := 0) F dX9_wrong_10 rfl ?_
  exact pz_ireturn (w1 := [(h0, .inr (8, [.ref yt, .int rT, .int rH, .int (nI G), .ref yw, .int (nI K), .ref yp, .ref yg, .int (nI M), .ref yu, .int (nI N), .ref ysl, .ref yin, .ref yse, .ref ysp, .ref ypa, .int rA, .ref yb, .ref ybd, .ref ybc, .ref yr, .int w, .int a, .ref ywd, .int rS, .int rN, .int rO, .int rW, .int rL, .int rD, .ref yd, .int rI, .int rX, .int rY, .int rZ, .int rU, .ref yro, .ref yc, .ref ybe, .ref yco, .long rC, .long rV]))]) F Rt (by decide) (by decide) dX9_wrong_11 [0] rfl rfl rfl vc
set_option maxHeartbeats 4000000 in
set_option maxRecDepth 100000 in
theorem ctX9_wrong (l : Launch) (g : pz_G) (w : Int32) (a : Int32) (h0 : Nat) (yt : Nat) (rT : Int32) (rH : Int32) (yw : Nat) (yp : Nat) (yg : Nat) (yu : Nat) (ysl : Nat) (yin : Nat) (yse : Nat) (ysp : Nat) (ypa : Nat) (rA : Int32) (yb : Nat) (ybd : Nat) (ybc : Nat) (yr : Nat) (rF : Int32) (rP : Int32) (ywd : Nat) (rS : Int32) (rN : Int32) (rO : Int32) (rW : Int32) (rL : Int32) (rD : Int32) (yd : Nat) (rI : Int32) (rX : Int32) (rY : Int32) (rZ : Int32) (rU : Int32) (yro : Nat) (yc : Nat) (ybe : Nat) (yco : Nat) (rC : Int64) (rV : Int64) (G : Nat) (K : Nat) (M : Nat) (N : Nat) : pz_Ct l g yX9_wrong cX9_wrong 3 (some .boolean) rmX9_wrong [.ref h0, .int w, .int a] [(h0, .inr (8, [.ref yt, .int rT, .int rH, .int (nI G), .ref yw, .int (nI K), .ref yp, .ref yg, .int (nI M), .ref yu, .int (nI N), .ref ysl, .ref yin, .ref yse, .ref ysp, .ref ypa, .int rA, .ref yb, .ref ybd, .ref ybc, .ref yr, .int rF, .int rP, .ref ywd, .int rS, .int rN, .int rO, .int rW, .int rL, .int rD, .ref yd, .int rI, .int rX, .int rY, .int rZ, .int rU, .ref yro, .ref yc, .ref ybe, .ref yco, .long rC, .long rV]))] (pz_pi (fun (r : Int32) (u : Unit) => r = 0) (fun (u : Unit) => [(h0, .inr (8, [.ref yt, .int rT, .int rH, .int (nI G), .ref yw, .int (nI K), .ref yp, .ref yg, .int (nI M), .ref yu, .int (nI N), .ref ysl, .ref yin, .ref yse, .ref ysp, .ref ypa, .int rA, .ref yb, .ref ybd, .ref ybc, .ref yr, .int w, .int a, .ref ywd, .int rS, .int rN, .int rO, .int rW, .int rL, .int rD, .ref yd, .int rI, .int rX, .int rY, .int rZ, .int rU, .ref yro, .ref yc, .ref ybe, .ref yco, .long rC, .long rV]))])) := by
  refine pz_ofAt (by decide +kernel) (Nat.le_of_ble_eq_true rfl) (fun B F Rt hme => ?_)
  refine sgX9_wrong_0 F Rt w a h0 yt rT rH yw yp yg yu ysl yin yse ysp ypa rA yb ybd ybc yr rF rP ywd rS rN rO rW rL rD yd rI rX rY rZ rU yro yc ybe yco rC rV G K M N ?_
  clear F Rt hme
  repeat' (first | apply And.intro | intro _)
  all_goals (try subst_vars)
  all_goals (first | exact ⟨_, (), rfl, rfl, rfl⟩ | exact ⟨_, (), rfl, rfl, by simp only [*, reduceIte, and_self, and_true, true_and, not_false_eq_true]⟩)
abbrev rmX9_fails : Room := { frames := 0, cells := 0, slots := 0, locals := 0 }
set_option maxHeartbeats 4000000 in
set_option maxRecDepth 100000 in
theorem sgX9_fails_0 {B : pz_B} {g : pz_G} {wc : va_W} {Post : Option Value → va_W → Prop} (F : pz_F B cX9_fails 2 (some .int) yX9_fails.cls g rmX9_fails) (Rt : pz_Rt B g wc Post rmX9_fails) (w : Int32) (h0 : Nat) (yt : Nat) (rT : Int32) (rH : Int32) (yw : Nat) (yp : Nat) (yg : Nat) (yu : Nat) (ysl : Nat) (yin : Nat) (yse : Nat) (ysp : Nat) (ypa : Nat) (rA : Int32) (yb : Nat) (ybd : Nat) (ybc : Nat) (yr : Nat) (rF : Int32) (rP : Int32) (ywd : Nat) (rS : Int32) (rN : Int32) (rO : Int32) (rW : Int32) (rL : Int32) (rD : Int32) (yd : Nat) (rI : Int32) (rX : Int32) (rY : Int32) (rZ : Int32) (rU : Int32) (yro : Nat) (yc : Nat) (ybe : Nat) (yco : Nat) (rC : Int64) (rV : Int64) (G : Nat) (K : Nat) (M : Nat) (N : Nat)  (vc : Post (some (.int 0)) [(h0, .inr (8, [.ref yt, .int rT, .int w, .int (nI G), .ref yw, .int (nI K), .ref yp, .ref yg, .int (nI M), .ref yu, .int (nI N), .ref ysl, .ref yin, .ref yse, .ref ysp, .ref ypa, .int rA, .ref yb, .ref ybd, .ref ybc, .ref yr, .int rF, .int rP, .ref ywd, .int rS, .int rN, .int rO, .int rW, .int rL, .int rD, .ref yd, .int rI, .int rX, .int rY, .int rZ, .int rU, .ref yro, .ref yc, .ref ybe, .ref yco, .long rC, .long rV]))]) : pz_At B 0 0 0 [(0, .ref h0), (1, .int w)] [] [(h0, .inr (8, [.ref yt, .int rT, .int rH, .int (nI G), .ref yw, .int (nI K), .ref yp, .ref yg, .int (nI M), .ref yu, .int (nI N), .ref ysl, .ref yin, .ref yse, .ref ysp, .ref ypa, .int rA, .ref yb, .ref ybd, .ref ybc, .ref yr, .int rF, .int rP, .ref ywd, .int rS, .int rN, .int rO, .int rW, .int rL, .int rD, .ref yd, .int rI, .int rX, .int rY, .int rZ, .int rU, .ref yro, .ref yc, .ref ybe, .ref yco, .long rC, .long rV]))] := by
  refine pz_aload_n 0 F rfl dX9_fails_0 rfl ?_
  refine pz_iload_n 1 F rfl dX9_fails_1 rfl ?_
  refine pz_put (ws' := [(h0, .inr (8, [.ref yt, .int rT, .int w, .int (nI G), .ref yw, .int (nI K), .ref yp, .ref yg, .int (nI M), .ref yu, .int (nI N), .ref ysl, .ref yin, .ref yse, .ref ysp, .ref ypa, .int rA, .ref yb, .ref ybd, .ref ybc, .ref yr, .int rF, .int rP, .ref ywd, .int rS, .int rN, .int rO, .int rW, .int rL, .int rD, .ref yd, .int rI, .int rX, .int rY, .int rZ, .int rU, .ref yro, .ref yc, .ref ybe, .ref yco, .long rC, .long rV]))]) (ci := 8) (C := RX9) (T := TX9) (N := 42) (v := .int w) (ty := .int) 0 F rfl rfl pz_inX9 2 (by decide) pw_810 tyX9_ok nmX9 rfl rfl rfl rfl (Nat.le_of_ble_eq_true rfl) dX9_fails_2 rfl ?_
  refine pz_iconst (v := 0) F dX9_fails_5 rfl ?_
  exact pz_ireturn (w1 := [(h0, .inr (8, [.ref yt, .int rT, .int w, .int (nI G), .ref yw, .int (nI K), .ref yp, .ref yg, .int (nI M), .ref yu, .int (nI N), .ref ysl, .ref yin, .ref yse, .ref ysp, .ref ypa, .int rA, .ref yb, .ref ybd, .ref ybc, .ref yr, .int rF, .int rP, .ref ywd, .int rS, .int rN, .int rO, .int rW, .int rL, .int rD, .ref yd, .int rI, .int rX, .int rY, .int rZ, .int rU, .ref yro, .ref yc, .ref ybe, .ref yco, .long rC, .long rV]))]) F Rt (by decide) (by decide) dX9_fails_6 [0] rfl rfl rfl vc
set_option maxHeartbeats 4000000 in
set_option maxRecDepth 100000 in
theorem ctX9_fails (l : Launch) (g : pz_G) (w : Int32) (h0 : Nat) (yt : Nat) (rT : Int32) (rH : Int32) (yw : Nat) (yp : Nat) (yg : Nat) (yu : Nat) (ysl : Nat) (yin : Nat) (yse : Nat) (ysp : Nat) (ypa : Nat) (rA : Int32) (yb : Nat) (ybd : Nat) (ybc : Nat) (yr : Nat) (rF : Int32) (rP : Int32) (ywd : Nat) (rS : Int32) (rN : Int32) (rO : Int32) (rW : Int32) (rL : Int32) (rD : Int32) (yd : Nat) (rI : Int32) (rX : Int32) (rY : Int32) (rZ : Int32) (rU : Int32) (yro : Nat) (yc : Nat) (ybe : Nat) (yco : Nat) (rC : Int64) (rV : Int64) (G : Nat) (K : Nat) (M : Nat) (N : Nat) : pz_Ct l g yX9_fails cX9_fails 2 (some .int) rmX9_fails [.ref h0, .int w] [(h0, .inr (8, [.ref yt, .int rT, .int rH, .int (nI G), .ref yw, .int (nI K), .ref yp, .ref yg, .int (nI M), .ref yu, .int (nI N), .ref ysl, .ref yin, .ref yse, .ref ysp, .ref ypa, .int rA, .ref yb, .ref ybd, .ref ybc, .ref yr, .int rF, .int rP, .ref ywd, .int rS, .int rN, .int rO, .int rW, .int rL, .int rD, .ref yd, .int rI, .int rX, .int rY, .int rZ, .int rU, .ref yro, .ref yc, .ref ybe, .ref yco, .long rC, .long rV]))] (pz_pi (fun (r : Int32) (u : Unit) => r = 0) (fun (u : Unit) => [(h0, .inr (8, [.ref yt, .int rT, .int w, .int (nI G), .ref yw, .int (nI K), .ref yp, .ref yg, .int (nI M), .ref yu, .int (nI N), .ref ysl, .ref yin, .ref yse, .ref ysp, .ref ypa, .int rA, .ref yb, .ref ybd, .ref ybc, .ref yr, .int rF, .int rP, .ref ywd, .int rS, .int rN, .int rO, .int rW, .int rL, .int rD, .ref yd, .int rI, .int rX, .int rY, .int rZ, .int rU, .ref yro, .ref yc, .ref ybe, .ref yco, .long rC, .long rV]))])) := by
  refine pz_ofAt (by decide +kernel) (Nat.le_of_ble_eq_true rfl) (fun B F Rt hme => ?_)
  refine sgX9_fails_0 F Rt w h0 yt rT rH yw yp yg yu ysl yin yse ysp ypa rA yb ybd ybc yr rF rP ywd rS rN rO rW rL rD yd rI rX rY rZ rU yro yc ybe yco rC rV G K M N ?_
  clear F Rt hme
  repeat' (first | apply And.intro | intro _)
  all_goals (try subst_vars)
  all_goals (first | exact ⟨_, (), rfl, rfl, rfl⟩ | exact ⟨_, (), rfl, rfl, by simp only [*, reduceIte, and_self, and_true, true_and, not_false_eq_true]⟩)
abbrev rmX9_fault : Room := { frames := 0, cells := 0, slots := 0, locals := 0 }
set_option maxHeartbeats 4000000 in
set_option maxRecDepth 100000 in
theorem sgX9_fault_0 {B : pz_B} {g : pz_G} {wc : va_W} {Post : Option Value → va_W → Prop} (F : pz_F B cX9_fault 2 (some .int) yX9_fault.cls g rmX9_fault) (Rt : pz_Rt B g wc Post rmX9_fault) (w : Int32) (h0 : Nat) (yt : Nat) (rT : Int32) (rH : Int32) (yw : Nat) (yp : Nat) (yg : Nat) (yu : Nat) (ysl : Nat) (yin : Nat) (yse : Nat) (ysp : Nat) (ypa : Nat) (rA : Int32) (yb : Nat) (ybd : Nat) (ybc : Nat) (yr : Nat) (rF : Int32) (rP : Int32) (ywd : Nat) (rS : Int32) (rN : Int32) (rO : Int32) (rW : Int32) (rL : Int32) (rD : Int32) (yd : Nat) (rI : Int32) (rX : Int32) (rY : Int32) (rZ : Int32) (rU : Int32) (yro : Nat) (yc : Nat) (ybe : Nat) (yco : Nat) (rC : Int64) (rV : Int64) (G : Nat) (K : Nat) (M : Nat) (N : Nat)  (vc : ((¬ w = 0 → ((¬ w = 1 → Post (some (.int (-1))) [(h0, .inr (8, [.ref yt, .int rT, .int 0, .int (nI G), .ref yw, .int (nI K), .ref yp, .ref yg, .int (nI M), .ref yu, .int (nI N), .ref ysl, .ref yin, .ref yse, .ref ysp, .ref ypa, .int rA, .ref yb, .ref ybd, .ref ybc, .ref yr, .int rF, .int rP, .ref ywd, .int rS, .int rN, .int rO, .int rW, .int rL, .int rD, .ref yd, .int rI, .int rX, .int rY, .int rZ, .int rU, .ref yro, .ref yc, .ref ybe, .ref yco, .long rC, .long rV]))]) ∧ (w = 1 → Post (some (.int rP)) [(h0, .inr (8, [.ref yt, .int rT, .int 0, .int (nI G), .ref yw, .int (nI K), .ref yp, .ref yg, .int (nI M), .ref yu, .int (nI N), .ref ysl, .ref yin, .ref yse, .ref ysp, .ref ypa, .int rA, .ref yb, .ref ybd, .ref ybc, .ref yr, .int rF, .int rP, .ref ywd, .int rS, .int rN, .int rO, .int rW, .int rL, .int rD, .ref yd, .int rI, .int rX, .int rY, .int rZ, .int rU, .ref yro, .ref yc, .ref ybe, .ref yco, .long rC, .long rV]))]))) ∧ (w = 0 → Post (some (.int rF)) [(h0, .inr (8, [.ref yt, .int rT, .int 0, .int (nI G), .ref yw, .int (nI K), .ref yp, .ref yg, .int (nI M), .ref yu, .int (nI N), .ref ysl, .ref yin, .ref yse, .ref ysp, .ref ypa, .int rA, .ref yb, .ref ybd, .ref ybc, .ref yr, .int rF, .int rP, .ref ywd, .int rS, .int rN, .int rO, .int rW, .int rL, .int rD, .ref yd, .int rI, .int rX, .int rY, .int rZ, .int rU, .ref yro, .ref yc, .ref ybe, .ref yco, .long rC, .long rV]))]))) : pz_At B 0 0 0 [(0, .ref h0), (1, .int w)] [] [(h0, .inr (8, [.ref yt, .int rT, .int rH, .int (nI G), .ref yw, .int (nI K), .ref yp, .ref yg, .int (nI M), .ref yu, .int (nI N), .ref ysl, .ref yin, .ref yse, .ref ysp, .ref ypa, .int rA, .ref yb, .ref ybd, .ref ybc, .ref yr, .int rF, .int rP, .ref ywd, .int rS, .int rN, .int rO, .int rW, .int rL, .int rD, .ref yd, .int rI, .int rX, .int rY, .int rZ, .int rU, .ref yro, .ref yc, .ref ybe, .ref yco, .long rC, .long rV]))] := by
  refine pz_aload_n 0 F rfl dX9_fault_0 rfl ?_
  refine pz_iconst (v := 0) F dX9_fault_1 rfl ?_
  refine pz_put (ws' := [(h0, .inr (8, [.ref yt, .int rT, .int 0, .int (nI G), .ref yw, .int (nI K), .ref yp, .ref yg, .int (nI M), .ref yu, .int (nI N), .ref ysl, .ref yin, .ref yse, .ref ysp, .ref ypa, .int rA, .ref yb, .ref ybd, .ref ybc, .ref yr, .int rF, .int rP, .ref ywd, .int rS, .int rN, .int rO, .int rW, .int rL, .int rD, .ref yd, .int rI, .int rX, .int rY, .int rZ, .int rU, .ref yro, .ref yc, .ref ybe, .ref yco, .long rC, .long rV]))]) (ci := 8) (C := RX9) (T := TX9) (N := 42) (v := .int 0) (ty := .int) 0 F rfl rfl pz_inX9 2 (by decide) pw_810 tyX9_ok nmX9 rfl rfl rfl rfl (Nat.le_of_ble_eq_true rfl) dX9_fault_2 rfl ?_
  refine pz_iload_n 1 F rfl dX9_fault_5 rfl ?_
  refine pz_if_ne (tgt := 16) F dX9_fault_6 (by decide) (fun q_1 => ?_) (fun q_1 => ?_)
  · replace vc := vc.1 q_1
    refine pz_iload_n 1 F rfl dX9_fault_16 rfl ?_
    refine pz_iconst (v := 1) F dX9_fault_17 rfl ?_
    refine pz_icmp_ne (tgt := 28) F dX9_fault_18 (by decide) (fun q_2 => ?_) (fun q_2 => ?_)
    · replace vc := vc.1 q_2
      refine pz_iconst (v := (-1)) F dX9_fault_28 rfl ?_
      exact pz_ireturn (w1 := [(h0, .inr (8, [.ref yt, .int rT, .int 0, .int (nI G), .ref yw, .int (nI K), .ref yp, .ref yg, .int (nI M), .ref yu, .int (nI N), .ref ysl, .ref yin, .ref yse, .ref ysp, .ref ypa, .int rA, .ref yb, .ref ybd, .ref ybc, .ref yr, .int rF, .int rP, .ref ywd, .int rS, .int rN, .int rO, .int rW, .int rL, .int rD, .ref yd, .int rI, .int rX, .int rY, .int rZ, .int rU, .ref yro, .ref yc, .ref ybe, .ref yco, .long rC, .long rV]))]) F Rt (by decide) (by decide) dX9_fault_29 [0] rfl rfl rfl vc
    · replace vc := vc.2 q_2
      refine pz_aload_n 0 F rfl dX9_fault_21 rfl ?_
      refine pz_get (ci := 8) (C := RX9) (T := TX9) (N := 42) (v := .int rP) 0 F rfl rfl pz_inX9 22 (by decide) pw_830 rfl dX9_fault_22 ?_
      refine pz_goto (tgt := 29) F dX9_fault_25 (by decide) ?_
      exact pz_ireturn (w1 := [(h0, .inr (8, [.ref yt, .int rT, .int 0, .int (nI G), .ref yw, .int (nI K), .ref yp, .ref yg, .int (nI M), .ref yu, .int (nI N), .ref ysl, .ref yin, .ref yse, .ref ysp, .ref ypa, .int rA, .ref yb, .ref ybd, .ref ybc, .ref yr, .int rF, .int rP, .ref ywd, .int rS, .int rN, .int rO, .int rW, .int rL, .int rD, .ref yd, .int rI, .int rX, .int rY, .int rZ, .int rU, .ref yro, .ref yc, .ref ybe, .ref yco, .long rC, .long rV]))]) F Rt (by decide) (by decide) dX9_fault_29 [0] rfl rfl rfl vc
  · replace vc := vc.2 q_1
    refine pz_aload_n 0 F rfl dX9_fault_9 rfl ?_
    refine pz_get (ci := 8) (C := RX9) (T := TX9) (N := 42) (v := .int rF) 0 F rfl rfl pz_inX9 21 (by decide) pw_829 rfl dX9_fault_10 ?_
    refine pz_goto (tgt := 29) F dX9_fault_13 (by decide) ?_
    exact pz_ireturn (w1 := [(h0, .inr (8, [.ref yt, .int rT, .int 0, .int (nI G), .ref yw, .int (nI K), .ref yp, .ref yg, .int (nI M), .ref yu, .int (nI N), .ref ysl, .ref yin, .ref yse, .ref ysp, .ref ypa, .int rA, .ref yb, .ref ybd, .ref ybc, .ref yr, .int rF, .int rP, .ref ywd, .int rS, .int rN, .int rO, .int rW, .int rL, .int rD, .ref yd, .int rI, .int rX, .int rY, .int rZ, .int rU, .ref yro, .ref yc, .ref ybe, .ref yco, .long rC, .long rV]))]) F Rt (by decide) (by decide) dX9_fault_29 [0] rfl rfl rfl vc
set_option maxHeartbeats 4000000 in
set_option maxRecDepth 100000 in
theorem ctX9_fault (l : Launch) (g : pz_G) (w : Int32) (h0 : Nat) (yt : Nat) (rT : Int32) (rH : Int32) (yw : Nat) (yp : Nat) (yg : Nat) (yu : Nat) (ysl : Nat) (yin : Nat) (yse : Nat) (ysp : Nat) (ypa : Nat) (rA : Int32) (yb : Nat) (ybd : Nat) (ybc : Nat) (yr : Nat) (rF : Int32) (rP : Int32) (ywd : Nat) (rS : Int32) (rN : Int32) (rO : Int32) (rW : Int32) (rL : Int32) (rD : Int32) (yd : Nat) (rI : Int32) (rX : Int32) (rY : Int32) (rZ : Int32) (rU : Int32) (yro : Nat) (yc : Nat) (ybe : Nat) (yco : Nat) (rC : Int64) (rV : Int64) (G : Nat) (K : Nat) (M : Nat) (N : Nat) : pz_Ct l g yX9_fault cX9_fault 2 (some .int) rmX9_fault [.ref h0, .int w] [(h0, .inr (8, [.ref yt, .int rT, .int rH, .int (nI G), .ref yw, .int (nI K), .ref yp, .ref yg, .int (nI M), .ref yu, .int (nI N), .ref ysl, .ref yin, .ref yse, .ref ysp, .ref ypa, .int rA, .ref yb, .ref ybd, .ref ybc, .ref yr, .int rF, .int rP, .ref ywd, .int rS, .int rN, .int rO, .int rW, .int rL, .int rD, .ref yd, .int rI, .int rX, .int rY, .int rZ, .int rU, .ref yro, .ref yc, .ref ybe, .ref yco, .long rC, .long rV]))] (pz_pi (fun (r : Int32) (u : Unit) => r = if w = 0 then rF else if w = 1 then rP else -1) (fun (u : Unit) => [(h0, .inr (8, [.ref yt, .int rT, .int 0, .int (nI G), .ref yw, .int (nI K), .ref yp, .ref yg, .int (nI M), .ref yu, .int (nI N), .ref ysl, .ref yin, .ref yse, .ref ysp, .ref ypa, .int rA, .ref yb, .ref ybd, .ref ybc, .ref yr, .int rF, .int rP, .ref ywd, .int rS, .int rN, .int rO, .int rW, .int rL, .int rD, .ref yd, .int rI, .int rX, .int rY, .int rZ, .int rU, .ref yro, .ref yc, .ref ybe, .ref yco, .long rC, .long rV]))])) := by
  refine pz_ofAt (by decide +kernel) (Nat.le_of_ble_eq_true rfl) (fun B F Rt hme => ?_)
  refine sgX9_fault_0 F Rt w h0 yt rT rH yw yp yg yu ysl yin yse ysp ypa rA yb ybd ybc yr rF rP ywd rS rN rO rW rL rD yd rI rX rY rZ rU yro yc ybe yco rC rV G K M N ?_
  clear F Rt hme
  repeat' (first | apply And.intro | intro _)
  all_goals (try subst_vars)
  all_goals (first | exact ⟨_, (), rfl, rfl, rfl⟩ | exact ⟨_, (), rfl, rfl, by simp only [*, reduceIte, and_self, and_true, true_and, not_false_eq_true]⟩)
abbrev rmX9_sale : Room := { frames := 0, cells := 0, slots := 0, locals := 0 }
set_option maxHeartbeats 4000000 in
set_option maxRecDepth 100000 in
theorem sgX9_sale_0 {B : pz_B} {g : pz_G} {wc : va_W} {Post : Option Value → va_W → Prop} (F : pz_F B cX9_sale 2 (some .int) yX9_sale.cls g rmX9_sale) (Rt : pz_Rt B g wc Post rmX9_sale) (w : Int32) (h0 : Nat) (yt : Nat) (rT : Int32) (rH : Int32) (yw : Nat) (yp : Nat) (yg : Nat) (yu : Nat) (ysl : Nat) (yin : Nat) (yse : Nat) (ysp : Nat) (ypa : Nat) (rA : Int32) (yb : Nat) (ybd : Nat) (ybc : Nat) (yr : Nat) (rF : Int32) (rP : Int32) (ywd : Nat) (rS : Int32) (rN : Int32) (rO : Int32) (rW : Int32) (rL : Int32) (rD : Int32) (yd : Nat) (rI : Int32) (rX : Int32) (rY : Int32) (rZ : Int32) (rU : Int32) (yro : Nat) (yc : Nat) (ybe : Nat) (yco : Nat) (rC : Int64) (rV : Int64) (G : Nat) (K : Nat) (M : Nat) (N : Nat)  (vc : ((¬ rI = 0 → ((¬ w = 0 → ((¬ w = 1 → ((¬ w = 2 → ((¬ w = 3 → Post (some (.int (-1))) [(h0, .inr (8, [.ref yt, .int rT, .int 0, .int (nI G), .ref yw, .int (nI K), .ref yp, .ref yg, .int (nI M), .ref yu, .int (nI N), .ref ysl, .ref yin, .ref yse, .ref ysp, .ref ypa, .int rA, .ref yb, .ref ybd, .ref ybc, .ref yr, .int rF, .int rP, .ref ywd, .int rS, .int rN, .int rO, .int rW, .int rL, .int rD, .ref yd, .int rI, .int rX, .int rY, .int rZ, .int rU, .ref yro, .ref yc, .ref ybe, .ref yco, .long rC, .long rV]))]) ∧ (w = 3 → Post (some (.int rU)) [(h0, .inr (8, [.ref yt, .int rT, .int 0, .int (nI G), .ref yw, .int (nI K), .ref yp, .ref yg, .int (nI M), .ref yu, .int (nI N), .ref ysl, .ref yin, .ref yse, .ref ysp, .ref ypa, .int rA, .ref yb, .ref ybd, .ref ybc, .ref yr, .int rF, .int rP, .ref ywd, .int rS, .int rN, .int rO, .int rW, .int rL, .int rD, .ref yd, .int rI, .int rX, .int rY, .int rZ, .int rU, .ref yro, .ref yc, .ref ybe, .ref yco, .long rC, .long rV]))]))) ∧ (w = 2 → Post (some (.int rZ)) [(h0, .inr (8, [.ref yt, .int rT, .int 0, .int (nI G), .ref yw, .int (nI K), .ref yp, .ref yg, .int (nI M), .ref yu, .int (nI N), .ref ysl, .ref yin, .ref yse, .ref ysp, .ref ypa, .int rA, .ref yb, .ref ybd, .ref ybc, .ref yr, .int rF, .int rP, .ref ywd, .int rS, .int rN, .int rO, .int rW, .int rL, .int rD, .ref yd, .int rI, .int rX, .int rY, .int rZ, .int rU, .ref yro, .ref yc, .ref ybe, .ref yco, .long rC, .long rV]))]))) ∧ (w = 1 → Post (some (.int rY)) [(h0, .inr (8, [.ref yt, .int rT, .int 0, .int (nI G), .ref yw, .int (nI K), .ref yp, .ref yg, .int (nI M), .ref yu, .int (nI N), .ref ysl, .ref yin, .ref yse, .ref ysp, .ref ypa, .int rA, .ref yb, .ref ybd, .ref ybc, .ref yr, .int rF, .int rP, .ref ywd, .int rS, .int rN, .int rO, .int rW, .int rL, .int rD, .ref yd, .int rI, .int rX, .int rY, .int rZ, .int rU, .ref yro, .ref yc, .ref ybe, .ref yco, .long rC, .long rV]))]))) ∧ (w = 0 → Post (some (.int rX)) [(h0, .inr (8, [.ref yt, .int rT, .int 0, .int (nI G), .ref yw, .int (nI K), .ref yp, .ref yg, .int (nI M), .ref yu, .int (nI N), .ref ysl, .ref yin, .ref yse, .ref ysp, .ref ypa, .int rA, .ref yb, .ref ybd, .ref ybc, .ref yr, .int rF, .int rP, .ref ywd, .int rS, .int rN, .int rO, .int rW, .int rL, .int rD, .ref yd, .int rI, .int rX, .int rY, .int rZ, .int rU, .ref yro, .ref yc, .ref ybe, .ref yco, .long rC, .long rV]))]))) ∧ (rI = 0 → Post (some (.int (-1))) [(h0, .inr (8, [.ref yt, .int rT, .int 0, .int (nI G), .ref yw, .int (nI K), .ref yp, .ref yg, .int (nI M), .ref yu, .int (nI N), .ref ysl, .ref yin, .ref yse, .ref ysp, .ref ypa, .int rA, .ref yb, .ref ybd, .ref ybc, .ref yr, .int rF, .int rP, .ref ywd, .int rS, .int rN, .int rO, .int rW, .int rL, .int rD, .ref yd, .int rI, .int rX, .int rY, .int rZ, .int rU, .ref yro, .ref yc, .ref ybe, .ref yco, .long rC, .long rV]))]))) : pz_At B 0 0 0 [(0, .ref h0), (1, .int w)] [] [(h0, .inr (8, [.ref yt, .int rT, .int rH, .int (nI G), .ref yw, .int (nI K), .ref yp, .ref yg, .int (nI M), .ref yu, .int (nI N), .ref ysl, .ref yin, .ref yse, .ref ysp, .ref ypa, .int rA, .ref yb, .ref ybd, .ref ybc, .ref yr, .int rF, .int rP, .ref ywd, .int rS, .int rN, .int rO, .int rW, .int rL, .int rD, .ref yd, .int rI, .int rX, .int rY, .int rZ, .int rU, .ref yro, .ref yc, .ref ybe, .ref yco, .long rC, .long rV]))] := by
  refine pz_aload_n 0 F rfl dX9_sale_0 rfl ?_
  refine pz_iconst (v := 0) F dX9_sale_1 rfl ?_
  refine pz_put (ws' := [(h0, .inr (8, [.ref yt, .int rT, .int 0, .int (nI G), .ref yw, .int (nI K), .ref yp, .ref yg, .int (nI M), .ref yu, .int (nI N), .ref ysl, .ref yin, .ref yse, .ref ysp, .ref ypa, .int rA, .ref yb, .ref ybd, .ref ybc, .ref yr, .int rF, .int rP, .ref ywd, .int rS, .int rN, .int rO, .int rW, .int rL, .int rD, .ref yd, .int rI, .int rX, .int rY, .int rZ, .int rU, .ref yro, .ref yc, .ref ybe, .ref yco, .long rC, .long rV]))]) (ci := 8) (C := RX9) (T := TX9) (N := 42) (v := .int 0) (ty := .int) 0 F rfl rfl pz_inX9 2 (by decide) pw_810 tyX9_ok nmX9 rfl rfl rfl rfl (Nat.le_of_ble_eq_true rfl) dX9_sale_2 rfl ?_
  refine pz_aload_n 0 F rfl dX9_sale_5 rfl ?_
  refine pz_get (ci := 8) (C := RX9) (T := TX9) (N := 42) (v := .int rI) 0 F rfl rfl pz_inX9 31 (by decide) pw_839 rfl dX9_sale_6 ?_
  refine pz_if_ne (tgt := 14) F dX9_sale_9 (by decide) (fun q_1 => ?_) (fun q_1 => ?_)
  · replace vc := vc.1 q_1
    refine pz_iload_n 1 F rfl dX9_sale_14 rfl ?_
    refine pz_if_ne (tgt := 25) F dX9_sale_15 (by decide) (fun q_2 => ?_) (fun q_2 => ?_)
    · replace vc := vc.1 q_2
      refine pz_iload_n 1 F rfl dX9_sale_25 rfl ?_
      refine pz_iconst (v := 1) F dX9_sale_26 rfl ?_
      refine pz_icmp_ne (tgt := 37) F dX9_sale_27 (by decide) (fun q_3 => ?_) (fun q_3 => ?_)
      · replace vc := vc.1 q_3
        refine pz_iload_n 1 F rfl dX9_sale_37 rfl ?_
        refine pz_iconst (v := 2) F dX9_sale_38 rfl ?_
        refine pz_icmp_ne (tgt := 49) F dX9_sale_39 (by decide) (fun q_4 => ?_) (fun q_4 => ?_)
        · replace vc := vc.1 q_4
          refine pz_iload_n 1 F rfl dX9_sale_49 rfl ?_
          refine pz_iconst (v := 3) F dX9_sale_50 rfl ?_
          refine pz_icmp_ne (tgt := 61) F dX9_sale_51 (by decide) (fun q_5 => ?_) (fun q_5 => ?_)
          · replace vc := vc.1 q_5
            refine pz_iconst (v := (-1)) F dX9_sale_61 rfl ?_
            exact pz_ireturn (w1 := [(h0, .inr (8, [.ref yt, .int rT, .int 0, .int (nI G), .ref yw, .int (nI K), .ref yp, .ref yg, .int (nI M), .ref yu, .int (nI N), .ref ysl, .ref yin, .ref yse, .ref ysp, .ref ypa, .int rA, .ref yb, .ref ybd, .ref ybc, .ref yr, .int rF, .int rP, .ref ywd, .int rS, .int rN, .int rO, .int rW, .int rL, .int rD, .ref yd, .int rI, .int rX, .int rY, .int rZ, .int rU, .ref yro, .ref yc, .ref ybe, .ref yco, .long rC, .long rV]))]) F Rt (by decide) (by decide) dX9_sale_62 [0] rfl rfl rfl vc
          · replace vc := vc.2 q_5
            refine pz_aload_n 0 F rfl dX9_sale_54 rfl ?_
            refine pz_get (ci := 8) (C := RX9) (T := TX9) (N := 42) (v := .int rU) 0 F rfl rfl pz_inX9 35 (by decide) pw_843 rfl dX9_sale_55 ?_
            refine pz_goto (tgt := 62) F dX9_sale_58 (by decide) ?_
            exact pz_ireturn (w1 := [(h0, .inr (8, [.ref yt, .int rT, .int 0, .int (nI G), .ref yw, .int (nI K), .ref yp, .ref yg, .int (nI M), .ref yu, .int (nI N), .ref ysl, .ref yin, .ref yse, .ref ysp, .ref ypa, .int rA, .ref yb, .ref ybd, .ref ybc, .ref yr, .int rF, .int rP, .ref ywd, .int rS, .int rN, .int rO, .int rW, .int rL, .int rD, .ref yd, .int rI, .int rX, .int rY, .int rZ, .int rU, .ref yro, .ref yc, .ref ybe, .ref yco, .long rC, .long rV]))]) F Rt (by decide) (by decide) dX9_sale_62 [0] rfl rfl rfl vc
        · replace vc := vc.2 q_4
          refine pz_aload_n 0 F rfl dX9_sale_42 rfl ?_
          refine pz_get (ci := 8) (C := RX9) (T := TX9) (N := 42) (v := .int rZ) 0 F rfl rfl pz_inX9 34 (by decide) pw_842 rfl dX9_sale_43 ?_
          refine pz_goto (tgt := 62) F dX9_sale_46 (by decide) ?_
          exact pz_ireturn (w1 := [(h0, .inr (8, [.ref yt, .int rT, .int 0, .int (nI G), .ref yw, .int (nI K), .ref yp, .ref yg, .int (nI M), .ref yu, .int (nI N), .ref ysl, .ref yin, .ref yse, .ref ysp, .ref ypa, .int rA, .ref yb, .ref ybd, .ref ybc, .ref yr, .int rF, .int rP, .ref ywd, .int rS, .int rN, .int rO, .int rW, .int rL, .int rD, .ref yd, .int rI, .int rX, .int rY, .int rZ, .int rU, .ref yro, .ref yc, .ref ybe, .ref yco, .long rC, .long rV]))]) F Rt (by decide) (by decide) dX9_sale_62 [0] rfl rfl rfl vc
      · replace vc := vc.2 q_3
        refine pz_aload_n 0 F rfl dX9_sale_30 rfl ?_
        refine pz_get (ci := 8) (C := RX9) (T := TX9) (N := 42) (v := .int rY) 0 F rfl rfl pz_inX9 33 (by decide) pw_841 rfl dX9_sale_31 ?_
        refine pz_goto (tgt := 62) F dX9_sale_34 (by decide) ?_
        exact pz_ireturn (w1 := [(h0, .inr (8, [.ref yt, .int rT, .int 0, .int (nI G), .ref yw, .int (nI K), .ref yp, .ref yg, .int (nI M), .ref yu, .int (nI N), .ref ysl, .ref yin, .ref yse, .ref ysp, .ref ypa, .int rA, .ref yb, .ref ybd, .ref ybc, .ref yr, .int rF, .int rP, .ref ywd, .int rS, .int rN, .int rO, .int rW, .int rL, .int rD, .ref yd, .int rI, .int rX, .int rY, .int rZ, .int rU, .ref yro, .ref yc, .ref ybe, .ref yco, .long rC, .long rV]))]) F Rt (by decide) (by decide) dX9_sale_62 [0] rfl rfl rfl vc
    · replace vc := vc.2 q_2
      refine pz_aload_n 0 F rfl dX9_sale_18 rfl ?_
      refine pz_get (ci := 8) (C := RX9) (T := TX9) (N := 42) (v := .int rX) 0 F rfl rfl pz_inX9 32 (by decide) pw_840 rfl dX9_sale_19 ?_
      refine pz_goto (tgt := 62) F dX9_sale_22 (by decide) ?_
      exact pz_ireturn (w1 := [(h0, .inr (8, [.ref yt, .int rT, .int 0, .int (nI G), .ref yw, .int (nI K), .ref yp, .ref yg, .int (nI M), .ref yu, .int (nI N), .ref ysl, .ref yin, .ref yse, .ref ysp, .ref ypa, .int rA, .ref yb, .ref ybd, .ref ybc, .ref yr, .int rF, .int rP, .ref ywd, .int rS, .int rN, .int rO, .int rW, .int rL, .int rD, .ref yd, .int rI, .int rX, .int rY, .int rZ, .int rU, .ref yro, .ref yc, .ref ybe, .ref yco, .long rC, .long rV]))]) F Rt (by decide) (by decide) dX9_sale_62 [0] rfl rfl rfl vc
  · replace vc := vc.2 q_1
    refine pz_iconst (v := (-1)) F dX9_sale_12 rfl ?_
    exact pz_ireturn (w1 := [(h0, .inr (8, [.ref yt, .int rT, .int 0, .int (nI G), .ref yw, .int (nI K), .ref yp, .ref yg, .int (nI M), .ref yu, .int (nI N), .ref ysl, .ref yin, .ref yse, .ref ysp, .ref ypa, .int rA, .ref yb, .ref ybd, .ref ybc, .ref yr, .int rF, .int rP, .ref ywd, .int rS, .int rN, .int rO, .int rW, .int rL, .int rD, .ref yd, .int rI, .int rX, .int rY, .int rZ, .int rU, .ref yro, .ref yc, .ref ybe, .ref yco, .long rC, .long rV]))]) F Rt (by decide) (by decide) dX9_sale_13 [0] rfl rfl rfl vc
set_option maxHeartbeats 4000000 in
set_option maxRecDepth 100000 in
theorem ctX9_sale (l : Launch) (g : pz_G) (w : Int32) (h0 : Nat) (yt : Nat) (rT : Int32) (rH : Int32) (yw : Nat) (yp : Nat) (yg : Nat) (yu : Nat) (ysl : Nat) (yin : Nat) (yse : Nat) (ysp : Nat) (ypa : Nat) (rA : Int32) (yb : Nat) (ybd : Nat) (ybc : Nat) (yr : Nat) (rF : Int32) (rP : Int32) (ywd : Nat) (rS : Int32) (rN : Int32) (rO : Int32) (rW : Int32) (rL : Int32) (rD : Int32) (yd : Nat) (rI : Int32) (rX : Int32) (rY : Int32) (rZ : Int32) (rU : Int32) (yro : Nat) (yc : Nat) (ybe : Nat) (yco : Nat) (rC : Int64) (rV : Int64) (G : Nat) (K : Nat) (M : Nat) (N : Nat) : pz_Ct l g yX9_sale cX9_sale 2 (some .int) rmX9_sale [.ref h0, .int w] [(h0, .inr (8, [.ref yt, .int rT, .int rH, .int (nI G), .ref yw, .int (nI K), .ref yp, .ref yg, .int (nI M), .ref yu, .int (nI N), .ref ysl, .ref yin, .ref yse, .ref ysp, .ref ypa, .int rA, .ref yb, .ref ybd, .ref ybc, .ref yr, .int rF, .int rP, .ref ywd, .int rS, .int rN, .int rO, .int rW, .int rL, .int rD, .ref yd, .int rI, .int rX, .int rY, .int rZ, .int rU, .ref yro, .ref yc, .ref ybe, .ref yco, .long rC, .long rV]))] (pz_pi (fun (r : Int32) (u : Unit) => r = if rI = 0 then -1 else if w = 0 then rX else if w = 1 then rY else if w = 2 then rZ else if w = 3 then rU else -1) (fun (u : Unit) => [(h0, .inr (8, [.ref yt, .int rT, .int 0, .int (nI G), .ref yw, .int (nI K), .ref yp, .ref yg, .int (nI M), .ref yu, .int (nI N), .ref ysl, .ref yin, .ref yse, .ref ysp, .ref ypa, .int rA, .ref yb, .ref ybd, .ref ybc, .ref yr, .int rF, .int rP, .ref ywd, .int rS, .int rN, .int rO, .int rW, .int rL, .int rD, .ref yd, .int rI, .int rX, .int rY, .int rZ, .int rU, .ref yro, .ref yc, .ref ybe, .ref yco, .long rC, .long rV]))])) := by
  refine pz_ofAt (by decide +kernel) (Nat.le_of_ble_eq_true rfl) (fun B F Rt hme => ?_)
  refine sgX9_sale_0 F Rt w h0 yt rT rH yw yp yg yu ysl yin yse ysp ypa rA yb ybd ybc yr rF rP ywd rS rN rO rW rL rD yd rI rX rY rZ rU yro yc ybe yco rC rV G K M N ?_
  clear F Rt hme
  repeat' (first | apply And.intro | intro _)
  all_goals (try subst_vars)
  all_goals (first | exact ⟨_, (), rfl, rfl, rfl⟩ | exact ⟨_, (), rfl, rfl, by simp only [*, reduceIte, and_self, and_true, true_and, not_false_eq_true]⟩)
abbrev rmX9_count : Room := { frames := 0, cells := 0, slots := 0, locals := 0 }
set_option maxHeartbeats 4000000 in
set_option maxRecDepth 100000 in
theorem sgX9_count_0 {B : pz_B} {g : pz_G} {wc : va_W} {Post : Option Value → va_W → Prop} (F : pz_F B cX9_count 2 (some .int) yX9_count.cls g rmX9_count) (Rt : pz_Rt B g wc Post rmX9_count) (w : Int32) (h0 : Nat) (yt : Nat) (rT : Int32) (rH : Int32) (yw : Nat) (yp : Nat) (yg : Nat) (yu : Nat) (ysl : Nat) (yin : Nat) (yse : Nat) (ysp : Nat) (ypa : Nat) (rA : Int32) (yb : Nat) (ybd : Nat) (ybc : Nat) (yr : Nat) (rF : Int32) (rP : Int32) (ywd : Nat) (rS : Int32) (rN : Int32) (rO : Int32) (rW : Int32) (rL : Int32) (rD : Int32) (yd : Nat) (rI : Int32) (rX : Int32) (rY : Int32) (rZ : Int32) (rU : Int32) (yro : Nat) (yc : Nat) (ybe : Nat) (yco : Nat) (rC : Int64) (rV : Int64) (G : Nat) (K : Nat) (M : Nat) (N : Nat)  (vc : ((w = 0 → Post (some (.int (nI G))) [(h0, .inr (8, [.ref yt, .int rT, .int 0, .int (nI G), .ref yw, .int (nI K), .ref yp, .ref yg, .int (nI M), .ref yu, .int (nI N), .ref ysl, .ref yin, .ref yse, .ref ysp, .ref ypa, .int rA, .ref yb, .ref ybd, .ref ybc, .ref yr, .int rF, .int rP, .ref ywd, .int rS, .int rN, .int rO, .int rW, .int rL, .int rD, .ref yd, .int rI, .int rX, .int rY, .int rZ, .int rU, .ref yro, .ref yc, .ref ybe, .ref yco, .long rC, .long rV]))]) ∧ (¬ w = 0 → ((w = 1 → Post (some (.int (nI K))) [(h0, .inr (8, [.ref yt, .int rT, .int 0, .int (nI G), .ref yw, .int (nI K), .ref yp, .ref yg, .int (nI M), .ref yu, .int (nI N), .ref ysl, .ref yin, .ref yse, .ref ysp, .ref ypa, .int rA, .ref yb, .ref ybd, .ref ybc, .ref yr, .int rF, .int rP, .ref ywd, .int rS, .int rN, .int rO, .int rW, .int rL, .int rD, .ref yd, .int rI, .int rX, .int rY, .int rZ, .int rU, .ref yro, .ref yc, .ref ybe, .ref yco, .long rC, .long rV]))]) ∧ (¬ w = 1 → ((w = 2 → Post (some (.int (nI M))) [(h0, .inr (8, [.ref yt, .int rT, .int 0, .int (nI G), .ref yw, .int (nI K), .ref yp, .ref yg, .int (nI M), .ref yu, .int (nI N), .ref ysl, .ref yin, .ref yse, .ref ysp, .ref ypa, .int rA, .ref yb, .ref ybd, .ref ybc, .ref yr, .int rF, .int rP, .ref ywd, .int rS, .int rN, .int rO, .int rW, .int rL, .int rD, .ref yd, .int rI, .int rX, .int rY, .int rZ, .int rU, .ref yro, .ref yc, .ref ybe, .ref yco, .long rC, .long rV]))]) ∧ (¬ w = 2 → ((w = 3 → Post (some (.int (nI N))) [(h0, .inr (8, [.ref yt, .int rT, .int 0, .int (nI G), .ref yw, .int (nI K), .ref yp, .ref yg, .int (nI M), .ref yu, .int (nI N), .ref ysl, .ref yin, .ref yse, .ref ysp, .ref ypa, .int rA, .ref yb, .ref ybd, .ref ybc, .ref yr, .int rF, .int rP, .ref ywd, .int rS, .int rN, .int rO, .int rW, .int rL, .int rD, .ref yd, .int rI, .int rX, .int rY, .int rZ, .int rU, .ref yro, .ref yc, .ref ybe, .ref yco, .long rC, .long rV]))]) ∧ (¬ w = 3 → ((w = 4 → Post (some (.int rA)) [(h0, .inr (8, [.ref yt, .int rT, .int 0, .int (nI G), .ref yw, .int (nI K), .ref yp, .ref yg, .int (nI M), .ref yu, .int (nI N), .ref ysl, .ref yin, .ref yse, .ref ysp, .ref ypa, .int rA, .ref yb, .ref ybd, .ref ybc, .ref yr, .int rF, .int rP, .ref ywd, .int rS, .int rN, .int rO, .int rW, .int rL, .int rD, .ref yd, .int rI, .int rX, .int rY, .int rZ, .int rU, .ref yro, .ref yc, .ref ybe, .ref yco, .long rC, .long rV]))]) ∧ (¬ w = 4 → Post (some (.int (-1000000000))) [(h0, .inr (8, [.ref yt, .int rT, .int 0, .int (nI G), .ref yw, .int (nI K), .ref yp, .ref yg, .int (nI M), .ref yu, .int (nI N), .ref ysl, .ref yin, .ref yse, .ref ysp, .ref ypa, .int rA, .ref yb, .ref ybd, .ref ybc, .ref yr, .int rF, .int rP, .ref ywd, .int rS, .int rN, .int rO, .int rW, .int rL, .int rD, .ref yd, .int rI, .int rX, .int rY, .int rZ, .int rU, .ref yro, .ref yc, .ref ybe, .ref yco, .long rC, .long rV]))]))))))))))) : pz_At B 0 0 0 [(0, .ref h0), (1, .int w)] [] [(h0, .inr (8, [.ref yt, .int rT, .int rH, .int (nI G), .ref yw, .int (nI K), .ref yp, .ref yg, .int (nI M), .ref yu, .int (nI N), .ref ysl, .ref yin, .ref yse, .ref ysp, .ref ypa, .int rA, .ref yb, .ref ybd, .ref ybc, .ref yr, .int rF, .int rP, .ref ywd, .int rS, .int rN, .int rO, .int rW, .int rL, .int rD, .ref yd, .int rI, .int rX, .int rY, .int rZ, .int rU, .ref yro, .ref yc, .ref ybe, .ref yco, .long rC, .long rV]))] := by
  refine pz_aload_n 0 F rfl dX9_count_0 rfl ?_
  refine pz_iconst (v := 0) F dX9_count_1 rfl ?_
  refine pz_put (ws' := [(h0, .inr (8, [.ref yt, .int rT, .int 0, .int (nI G), .ref yw, .int (nI K), .ref yp, .ref yg, .int (nI M), .ref yu, .int (nI N), .ref ysl, .ref yin, .ref yse, .ref ysp, .ref ypa, .int rA, .ref yb, .ref ybd, .ref ybc, .ref yr, .int rF, .int rP, .ref ywd, .int rS, .int rN, .int rO, .int rW, .int rL, .int rD, .ref yd, .int rI, .int rX, .int rY, .int rZ, .int rU, .ref yro, .ref yc, .ref ybe, .ref yco, .long rC, .long rV]))]) (ci := 8) (C := RX9) (T := TX9) (N := 42) (v := .int 0) (ty := .int) 0 F rfl rfl pz_inX9 2 (by decide) pw_810 tyX9_ok nmX9 rfl rfl rfl rfl (Nat.le_of_ble_eq_true rfl) dX9_count_2 rfl ?_
  refine pz_iload_n 1 F rfl dX9_count_5 rfl ?_
  by_cases q_1 : w = 0
  · replace vc := vc.1 q_1
    refine pz_tsw (off := 34) (tgt := 40) F dX9_count_6 (by rw [q_1]; decide) (by rw [q_1]; decide) (by rw [q_1]; rfl) (by decide) ?_
    refine pz_aload_n 0 F rfl dX9_count_40 rfl ?_
    refine pz_get (ci := 8) (C := RX9) (T := TX9) (N := 42) (v := .int (nI G)) 0 F rfl rfl pz_inX9 3 (by decide) pw_811 rfl dX9_count_41 ?_
    exact pz_ireturn (w1 := [(h0, .inr (8, [.ref yt, .int rT, .int 0, .int (nI G), .ref yw, .int (nI K), .ref yp, .ref yg, .int (nI M), .ref yu, .int (nI N), .ref ysl, .ref yin, .ref yse, .ref ysp, .ref ypa, .int rA, .ref yb, .ref ybd, .ref ybc, .ref yr, .int rF, .int rP, .ref ywd, .int rS, .int rN, .int rO, .int rW, .int rL, .int rD, .ref yd, .int rI, .int rX, .int rY, .int rZ, .int rU, .ref yro, .ref yc, .ref ybe, .ref yco, .long rC, .long rV]))]) F Rt (by decide) (by decide) dX9_count_44 [0] rfl rfl rfl vc
  · replace vc := vc.2 q_1
    by_cases q_2 : w = 1
    · replace vc := vc.1 q_2
      refine pz_tsw (off := 39) (tgt := 45) F dX9_count_6 (by rw [q_2]; decide) (by rw [q_2]; decide) (by rw [q_2]; rfl) (by decide) ?_
      refine pz_aload_n 0 F rfl dX9_count_45 rfl ?_
      refine pz_get (ci := 8) (C := RX9) (T := TX9) (N := 42) (v := .int (nI K)) 0 F rfl rfl pz_inX9 5 (by decide) pw_813 rfl dX9_count_46 ?_
      exact pz_ireturn (w1 := [(h0, .inr (8, [.ref yt, .int rT, .int 0, .int (nI G), .ref yw, .int (nI K), .ref yp, .ref yg, .int (nI M), .ref yu, .int (nI N), .ref ysl, .ref yin, .ref yse, .ref ysp, .ref ypa, .int rA, .ref yb, .ref ybd, .ref ybc, .ref yr, .int rF, .int rP, .ref ywd, .int rS, .int rN, .int rO, .int rW, .int rL, .int rD, .ref yd, .int rI, .int rX, .int rY, .int rZ, .int rU, .ref yro, .ref yc, .ref ybe, .ref yco, .long rC, .long rV]))]) F Rt (by decide) (by decide) dX9_count_49 [0] rfl rfl rfl vc
    · replace vc := vc.2 q_2
      by_cases q_3 : w = 2
      · replace vc := vc.1 q_3
        refine pz_tsw (off := 44) (tgt := 50) F dX9_count_6 (by rw [q_3]; decide) (by rw [q_3]; decide) (by rw [q_3]; rfl) (by decide) ?_
        refine pz_aload_n 0 F rfl dX9_count_50 rfl ?_
        refine pz_get (ci := 8) (C := RX9) (T := TX9) (N := 42) (v := .int (nI M)) 0 F rfl rfl pz_inX9 8 (by decide) pw_816 rfl dX9_count_51 ?_
        exact pz_ireturn (w1 := [(h0, .inr (8, [.ref yt, .int rT, .int 0, .int (nI G), .ref yw, .int (nI K), .ref yp, .ref yg, .int (nI M), .ref yu, .int (nI N), .ref ysl, .ref yin, .ref yse, .ref ysp, .ref ypa, .int rA, .ref yb, .ref ybd, .ref ybc, .ref yr, .int rF, .int rP, .ref ywd, .int rS, .int rN, .int rO, .int rW, .int rL, .int rD, .ref yd, .int rI, .int rX, .int rY, .int rZ, .int rU, .ref yro, .ref yc, .ref ybe, .ref yco, .long rC, .long rV]))]) F Rt (by decide) (by decide) dX9_count_54 [0] rfl rfl rfl vc
      · replace vc := vc.2 q_3
        by_cases q_4 : w = 3
        · replace vc := vc.1 q_4
          refine pz_tsw (off := 49) (tgt := 55) F dX9_count_6 (by rw [q_4]; decide) (by rw [q_4]; decide) (by rw [q_4]; rfl) (by decide) ?_
          refine pz_aload_n 0 F rfl dX9_count_55 rfl ?_
          refine pz_get (ci := 8) (C := RX9) (T := TX9) (N := 42) (v := .int (nI N)) 0 F rfl rfl pz_inX9 10 (by decide) pw_818 rfl dX9_count_56 ?_
          exact pz_ireturn (w1 := [(h0, .inr (8, [.ref yt, .int rT, .int 0, .int (nI G), .ref yw, .int (nI K), .ref yp, .ref yg, .int (nI M), .ref yu, .int (nI N), .ref ysl, .ref yin, .ref yse, .ref ysp, .ref ypa, .int rA, .ref yb, .ref ybd, .ref ybc, .ref yr, .int rF, .int rP, .ref ywd, .int rS, .int rN, .int rO, .int rW, .int rL, .int rD, .ref yd, .int rI, .int rX, .int rY, .int rZ, .int rU, .ref yro, .ref yc, .ref ybe, .ref yco, .long rC, .long rV]))]) F Rt (by decide) (by decide) dX9_count_59 [0] rfl rfl rfl vc
        · replace vc := vc.2 q_4
          by_cases q_5 : w = 4
          · replace vc := vc.1 q_5
            refine pz_tsw (off := 54) (tgt := 60) F dX9_count_6 (by rw [q_5]; decide) (by rw [q_5]; decide) (by rw [q_5]; rfl) (by decide) ?_
            refine pz_aload_n 0 F rfl dX9_count_60 rfl ?_
            refine pz_get (ci := 8) (C := RX9) (T := TX9) (N := 42) (v := .int rA) 0 F rfl rfl pz_inX9 16 (by decide) pw_824 rfl dX9_count_61 ?_
            exact pz_ireturn (w1 := [(h0, .inr (8, [.ref yt, .int rT, .int 0, .int (nI G), .ref yw, .int (nI K), .ref yp, .ref yg, .int (nI M), .ref yu, .int (nI N), .ref ysl, .ref yin, .ref yse, .ref ysp, .ref ypa, .int rA, .ref yb, .ref ybd, .ref ybc, .ref yr, .int rF, .int rP, .ref ywd, .int rS, .int rN, .int rO, .int rW, .int rL, .int rD, .ref yd, .int rI, .int rX, .int rY, .int rZ, .int rU, .ref yro, .ref yc, .ref ybe, .ref yco, .long rC, .long rV]))]) F Rt (by decide) (by decide) dX9_count_64 [0] rfl rfl rfl vc
          · replace vc := vc.2 q_5
            refine pz_tswO (tgt := 65) F dX9_count_6 (by have h0 := lv_neT (a := 0) q_1 rfl; have h1 := lv_neT (a := 1) q_2 rfl; have h2 := lv_neT (a := 2) q_3 rfl; have h3 := lv_neT (a := 3) q_4 rfl; have h4 := lv_neT (a := 4) q_5 rfl; omega) (by decide) ?_
            refine pz_ldc (v := -1000000000) F pw_1134 dX9_count_65 ?_
            exact pz_ireturn (w1 := [(h0, .inr (8, [.ref yt, .int rT, .int 0, .int (nI G), .ref yw, .int (nI K), .ref yp, .ref yg, .int (nI M), .ref yu, .int (nI N), .ref ysl, .ref yin, .ref yse, .ref ysp, .ref ypa, .int rA, .ref yb, .ref ybd, .ref ybc, .ref yr, .int rF, .int rP, .ref ywd, .int rS, .int rN, .int rO, .int rW, .int rL, .int rD, .ref yd, .int rI, .int rX, .int rY, .int rZ, .int rU, .ref yro, .ref yc, .ref ybe, .ref yco, .long rC, .long rV]))]) F Rt (by decide) (by decide) dX9_count_67 [0] rfl rfl rfl vc
set_option maxHeartbeats 4000000 in
set_option maxRecDepth 100000 in
theorem ctX9_count (l : Launch) (g : pz_G) (w : Int32) (h0 : Nat) (yt : Nat) (rT : Int32) (rH : Int32) (yw : Nat) (yp : Nat) (yg : Nat) (yu : Nat) (ysl : Nat) (yin : Nat) (yse : Nat) (ysp : Nat) (ypa : Nat) (rA : Int32) (yb : Nat) (ybd : Nat) (ybc : Nat) (yr : Nat) (rF : Int32) (rP : Int32) (ywd : Nat) (rS : Int32) (rN : Int32) (rO : Int32) (rW : Int32) (rL : Int32) (rD : Int32) (yd : Nat) (rI : Int32) (rX : Int32) (rY : Int32) (rZ : Int32) (rU : Int32) (yro : Nat) (yc : Nat) (ybe : Nat) (yco : Nat) (rC : Int64) (rV : Int64) (G : Nat) (K : Nat) (M : Nat) (N : Nat) : pz_Ct l g yX9_count cX9_count 2 (some .int) rmX9_count [.ref h0, .int w] [(h0, .inr (8, [.ref yt, .int rT, .int rH, .int (nI G), .ref yw, .int (nI K), .ref yp, .ref yg, .int (nI M), .ref yu, .int (nI N), .ref ysl, .ref yin, .ref yse, .ref ysp, .ref ypa, .int rA, .ref yb, .ref ybd, .ref ybc, .ref yr, .int rF, .int rP, .ref ywd, .int rS, .int rN, .int rO, .int rW, .int rL, .int rD, .ref yd, .int rI, .int rX, .int rY, .int rZ, .int rU, .ref yro, .ref yc, .ref ybe, .ref yco, .long rC, .long rV]))] (pz_pi (fun (r : Int32) (u : Unit) => r = if w = 0 then (nI G) else if w = 1 then (nI K) else if w = 2 then (nI M) else if w = 3 then (nI N) else if w = 4 then rA else -1000000000) (fun (u : Unit) => [(h0, .inr (8, [.ref yt, .int rT, .int 0, .int (nI G), .ref yw, .int (nI K), .ref yp, .ref yg, .int (nI M), .ref yu, .int (nI N), .ref ysl, .ref yin, .ref yse, .ref ysp, .ref ypa, .int rA, .ref yb, .ref ybd, .ref ybc, .ref yr, .int rF, .int rP, .ref ywd, .int rS, .int rN, .int rO, .int rW, .int rL, .int rD, .ref yd, .int rI, .int rX, .int rY, .int rZ, .int rU, .ref yro, .ref yc, .ref ybe, .ref yco, .long rC, .long rV]))])) := by
  refine pz_ofAt (by decide +kernel) (Nat.le_of_ble_eq_true rfl) (fun B F Rt hme => ?_)
  refine sgX9_count_0 F Rt w h0 yt rT rH yw yp yg yu ysl yin yse ysp ypa rA yb ybd ybc yr rF rP ywd rS rN rO rW rL rD yd rI rX rY rZ rU yro yc ybe yco rC rV G K M N ?_
  clear F Rt hme
  repeat' (first | apply And.intro | intro _)
  all_goals (try subst_vars)
  all_goals (first | exact ⟨_, (), rfl, rfl, rfl⟩ | exact ⟨_, (), rfl, rfl, by simp only [*, reduceIte, and_self, and_true, true_and, not_false_eq_true]⟩)
abbrev rmX9_most : Room := { frames := 0, cells := 0, slots := 0, locals := 0 }
set_option maxHeartbeats 4000000 in
set_option maxRecDepth 100000 in
theorem sgX9_most_0 {B : pz_B} {g : pz_G} {wc : va_W} {Post : Option Value → va_W → Prop} (F : pz_F B cX9_most 1 (some .int) yX9_most.cls g rmX9_most) (Rt : pz_Rt B g wc Post rmX9_most) (w : Int32)  (vc : ((w = 3 → Post (some (.int 100)) []) ∧ (¬ w = 3 → ((¬ w = 5 → ((¬ w = 4 → Post (some (.int 999)) []) ∧ (w = 4 → Post (some (.int 99999)) []))) ∧ (w = 5 → Post (some (.int 100)) []))))) : pz_At B 0 0 0 [(0, .int w)] [] [] := by
  refine pz_iload_n 0 F rfl dX9_most_0 rfl ?_
  refine pz_iconst (v := 3) F dX9_most_1 rfl ?_
  refine pz_icmp_eq (tgt := 10) F dX9_most_2 (by decide) (fun q_1 => ?_) (fun q_1 => ?_)
  · replace vc := vc.1 q_1
    refine pz_bipush (v := 100) F dX9_most_10 rfl ?_
    refine pz_goto (tgt := 28) F dX9_most_12 (by decide) ?_
    exact pz_ireturn (w1 := []) F Rt (by decide) (by decide) dX9_most_28 [] rfl rfl rfl vc
  · replace vc := vc.2 q_1
    refine pz_iload_n 0 F rfl dX9_most_5 rfl ?_
    refine pz_iconst (v := 5) F dX9_most_6 rfl ?_
    refine pz_icmp_ne (tgt := 15) F dX9_most_7 (by decide) (fun q_2 => ?_) (fun q_2 => ?_)
    · replace vc := vc.1 q_2
      refine pz_iload_n 0 F rfl dX9_most_15 rfl ?_
      refine pz_iconst (v := 4) F dX9_most_16 rfl ?_
      refine pz_icmp_ne (tgt := 25) F dX9_most_17 (by decide) (fun q_3 => ?_) (fun q_3 => ?_)
      · replace vc := vc.1 q_3
        refine pz_sipush (v := 999) F dX9_most_25 rfl ?_
        exact pz_ireturn (w1 := []) F Rt (by decide) (by decide) dX9_most_28 [] rfl rfl rfl vc
      · replace vc := vc.2 q_3
        refine pz_ldc (v := 99999) F pw_979 dX9_most_20 ?_
        refine pz_goto (tgt := 28) F dX9_most_22 (by decide) ?_
        exact pz_ireturn (w1 := []) F Rt (by decide) (by decide) dX9_most_28 [] rfl rfl rfl vc
    · replace vc := vc.2 q_2
      refine pz_bipush (v := 100) F dX9_most_10 rfl ?_
      refine pz_goto (tgt := 28) F dX9_most_12 (by decide) ?_
      exact pz_ireturn (w1 := []) F Rt (by decide) (by decide) dX9_most_28 [] rfl rfl rfl vc
set_option maxHeartbeats 4000000 in
set_option maxRecDepth 100000 in
theorem ctX9_most (l : Launch) (g : pz_G) (w : Int32) : pz_Ct l g yX9_most cX9_most 1 (some .int) rmX9_most [.int w] [] (pz_pi (fun (r : Int32) (u : Unit) => r = if w = 3 then 100 else if w = 5 then 100 else if w = 4 then 99999 else 999) (fun (u : Unit) => [])) := by
  refine pz_ofAt (by decide +kernel) (Nat.le_of_ble_eq_true rfl) (fun B F Rt hme => ?_)
  refine sgX9_most_0 F Rt w ?_
  clear F Rt hme
  repeat' (first | apply And.intro | intro _)
  all_goals (try subst_vars)
  all_goals (first | exact ⟨_, (), rfl, rfl, rfl⟩ | exact ⟨_, (), rfl, rfl, by simp only [*, reduceIte, and_self, and_true, true_and, not_false_eq_true]⟩)
abbrev rmX9_hundredth : Room := { frames := 0, cells := 0, slots := 0, locals := 0 }
set_option maxHeartbeats 4000000 in
set_option maxRecDepth 100000 in
theorem sgX9_hundredth_0 {B : pz_B} {g : pz_G} {wc : va_W} {Post : Option Value → va_W → Prop} (F : pz_F B cX9_hundredth 2 (some .int) yX9_hundredth.cls g rmX9_hundredth) (Rt : pz_Rt B g wc Post rmX9_hundredth) (c : Int32) (y : Int32)  (vc : ∀ x_1 : Int32, x_1 = (((c.toInt64 * y.toInt64) / 100).toInt32) → Post (some (.int x_1)) []) : pz_At B 0 0 0 [(0, .int c), (1, .int y)] [] [] := by
  refine pz_iload_n 0 F rfl dX9_hundredth_0 rfl ?_
  refine pz_i2l F dX9_hundredth_1 ?_
  refine pz_iload_n 1 F rfl dX9_hundredth_2 rfl ?_
  refine pz_i2l F dX9_hundredth_3 ?_
  refine pz_lmul F dX9_hundredth_4 ?_
  refine pz_ldc2 (v := 100) F pw_1035 dX9_hundredth_5 ?_
  refine pz_ldiv F (by decide) dX9_hundredth_8 ?_
  refine pz_l2i F dX9_hundredth_9 ?_
  refine pz_topi (fun x_1 ex_1 => ?_)
  replace vc := vc x_1 ex_1
  exact pz_ireturn (w1 := []) F Rt (by decide) (by decide) dX9_hundredth_10 [] rfl rfl rfl vc
set_option maxHeartbeats 4000000 in
set_option maxRecDepth 100000 in
theorem ctX9_hundredth (l : Launch) (g : pz_G) (c : Int32) (y : Int32) : pz_Ct l g yX9_hundredth cX9_hundredth 2 (some .int) rmX9_hundredth [.int c, .int y] [] (pz_pi (fun (r : Int32) (u : Unit) => r = hd_l c y) (fun (u : Unit) => [])) := by
  refine pz_ofAt (by decide +kernel) (Nat.le_of_ble_eq_true rfl) (fun B F Rt hme => ?_)
  refine sgX9_hundredth_0 F Rt c y ?_
  clear F Rt hme
  repeat' (first | apply And.intro | intro _)
  all_goals (try subst_vars)
  all_goals (first | exact ⟨_, (), rfl, rfl, rfl⟩ | exact ⟨_, (), rfl, rfl, by simp only [*, hd_l, reduceIte, and_self, and_true, true_and, not_false_eq_true]⟩)
abbrev rmX9_isMan : Room := { frames := 0, cells := 0, slots := 0, locals := 0 }
set_option maxHeartbeats 4000000 in
set_option maxRecDepth 100000 in
theorem sgX9_isMan_0 {B : pz_B} {g : pz_G} {wc : va_W} {Post : Option Value → va_W → Prop} (F : pz_F B cX9_isMan 2 (some .boolean) yX9_isMan.cls g rmX9_isMan) (Rt : pz_Rt B g wc Post rmX9_isMan) (m : Int32) (h0 : Nat) (yt : Nat) (rT : Int32) (rH : Int32) (yw : Nat) (yp : Nat) (yg : Nat) (yu : Nat) (ysl : Nat) (yin : Nat) (yse : Nat) (ysp : Nat) (ypa : Nat) (rA : Int32) (yb : Nat) (ybd : Nat) (ybc : Nat) (yr : Nat) (rF : Int32) (rP : Int32) (ywd : Nat) (rS : Int32) (rN : Int32) (rO : Int32) (rW : Int32) (rL : Int32) (rD : Int32) (yd : Nat) (rI : Int32) (rX : Int32) (rY : Int32) (rZ : Int32) (rU : Int32) (yro : Nat) (yc : Nat) (ybe : Nat) (yco : Nat) (rC : Int64) (rV : Int64) (G : Nat) (K : Nat) (M : Nat) (N : Nat)  (vc : ((m < 0 → Post (some (.int 0)) [(h0, .inr (8, [.ref yt, .int rT, .int rH, .int (nI G), .ref yw, .int (nI K), .ref yp, .ref yg, .int (nI M), .ref yu, .int (nI N), .ref ysl, .ref yin, .ref yse, .ref ysp, .ref ypa, .int rA, .ref yb, .ref ybd, .ref ybc, .ref yr, .int rF, .int rP, .ref ywd, .int rS, .int rN, .int rO, .int rW, .int rL, .int rD, .ref yd, .int rI, .int rX, .int rY, .int rZ, .int rU, .ref yro, .ref yc, .ref ybe, .ref yco, .long rC, .long rV]))]) ∧ (¬ m < 0 → (((nI M) ≤ m → Post (some (.int 0)) [(h0, .inr (8, [.ref yt, .int rT, .int rH, .int (nI G), .ref yw, .int (nI K), .ref yp, .ref yg, .int (nI M), .ref yu, .int (nI N), .ref ysl, .ref yin, .ref yse, .ref ysp, .ref ypa, .int rA, .ref yb, .ref ybd, .ref ybc, .ref yr, .int rF, .int rP, .ref ywd, .int rS, .int rN, .int rO, .int rW, .int rL, .int rD, .ref yd, .int rI, .int rX, .int rY, .int rZ, .int rU, .ref yro, .ref yc, .ref ybe, .ref yco, .long rC, .long rV]))]) ∧ (¬ (nI M) ≤ m → Post (some (.int 1)) [(h0, .inr (8, [.ref yt, .int rT, .int rH, .int (nI G), .ref yw, .int (nI K), .ref yp, .ref yg, .int (nI M), .ref yu, .int (nI N), .ref ysl, .ref yin, .ref yse, .ref ysp, .ref ypa, .int rA, .ref yb, .ref ybd, .ref ybc, .ref yr, .int rF, .int rP, .ref ywd, .int rS, .int rN, .int rO, .int rW, .int rL, .int rD, .ref yd, .int rI, .int rX, .int rY, .int rZ, .int rU, .ref yro, .ref yc, .ref ybe, .ref yco, .long rC, .long rV]))]))))) : pz_At B 0 0 0 [(0, .ref h0), (1, .int m)] [] [(h0, .inr (8, [.ref yt, .int rT, .int rH, .int (nI G), .ref yw, .int (nI K), .ref yp, .ref yg, .int (nI M), .ref yu, .int (nI N), .ref ysl, .ref yin, .ref yse, .ref ysp, .ref ypa, .int rA, .ref yb, .ref ybd, .ref ybc, .ref yr, .int rF, .int rP, .ref ywd, .int rS, .int rN, .int rO, .int rW, .int rL, .int rD, .ref yd, .int rI, .int rX, .int rY, .int rZ, .int rU, .ref yro, .ref yc, .ref ybe, .ref yco, .long rC, .long rV]))] := by
  refine pz_iload_n 1 F rfl dX9_isMan_0 rfl ?_
  refine pz_if_lt (tgt := 16) F dX9_isMan_1 (by decide) (fun q_1 => ?_) (fun q_1 => ?_)
  · replace vc := vc.1 q_1
    refine pz_iconst (v := 0) F dX9_isMan_16 rfl ?_
    exact pz_ireturn (w1 := [(h0, .inr (8, [.ref yt, .int rT, .int rH, .int (nI G), .ref yw, .int (nI K), .ref yp, .ref yg, .int (nI M), .ref yu, .int (nI N), .ref ysl, .ref yin, .ref yse, .ref ysp, .ref ypa, .int rA, .ref yb, .ref ybd, .ref ybc, .ref yr, .int rF, .int rP, .ref ywd, .int rS, .int rN, .int rO, .int rW, .int rL, .int rD, .ref yd, .int rI, .int rX, .int rY, .int rZ, .int rU, .ref yro, .ref yc, .ref ybe, .ref yco, .long rC, .long rV]))]) F Rt (by decide) (by decide) dX9_isMan_17 [0] rfl rfl rfl vc
  · replace vc := vc.2 q_1
    refine pz_iload_n 1 F rfl dX9_isMan_4 rfl ?_
    refine pz_aload_n 0 F rfl dX9_isMan_5 rfl ?_
    refine pz_get (ci := 8) (C := RX9) (T := TX9) (N := 42) (v := .int (nI M)) 0 F rfl rfl pz_inX9 8 (by decide) pw_816 rfl dX9_isMan_6 ?_
    refine pz_icmp_ge (tgt := 16) F dX9_isMan_9 (by decide) (fun q_2 => ?_) (fun q_2 => ?_)
    · replace vc := vc.1 q_2
      refine pz_iconst (v := 0) F dX9_isMan_16 rfl ?_
      exact pz_ireturn (w1 := [(h0, .inr (8, [.ref yt, .int rT, .int rH, .int (nI G), .ref yw, .int (nI K), .ref yp, .ref yg, .int (nI M), .ref yu, .int (nI N), .ref ysl, .ref yin, .ref yse, .ref ysp, .ref ypa, .int rA, .ref yb, .ref ybd, .ref ybc, .ref yr, .int rF, .int rP, .ref ywd, .int rS, .int rN, .int rO, .int rW, .int rL, .int rD, .ref yd, .int rI, .int rX, .int rY, .int rZ, .int rU, .ref yro, .ref yc, .ref ybe, .ref yco, .long rC, .long rV]))]) F Rt (by decide) (by decide) dX9_isMan_17 [0] rfl rfl rfl vc
    · replace vc := vc.2 q_2
      refine pz_iconst (v := 1) F dX9_isMan_12 rfl ?_
      refine pz_goto (tgt := 17) F dX9_isMan_13 (by decide) ?_
      exact pz_ireturn (w1 := [(h0, .inr (8, [.ref yt, .int rT, .int rH, .int (nI G), .ref yw, .int (nI K), .ref yp, .ref yg, .int (nI M), .ref yu, .int (nI N), .ref ysl, .ref yin, .ref yse, .ref ysp, .ref ypa, .int rA, .ref yb, .ref ybd, .ref ybc, .ref yr, .int rF, .int rP, .ref ywd, .int rS, .int rN, .int rO, .int rW, .int rL, .int rD, .ref yd, .int rI, .int rX, .int rY, .int rZ, .int rU, .ref yro, .ref yc, .ref ybe, .ref yco, .long rC, .long rV]))]) F Rt (by decide) (by decide) dX9_isMan_17 [0] rfl rfl rfl vc
set_option maxHeartbeats 4000000 in
set_option maxRecDepth 100000 in
theorem ctX9_isMan (l : Launch) (g : pz_G) (m : Int32) (h0 : Nat) (yt : Nat) (rT : Int32) (rH : Int32) (yw : Nat) (yp : Nat) (yg : Nat) (yu : Nat) (ysl : Nat) (yin : Nat) (yse : Nat) (ysp : Nat) (ypa : Nat) (rA : Int32) (yb : Nat) (ybd : Nat) (ybc : Nat) (yr : Nat) (rF : Int32) (rP : Int32) (ywd : Nat) (rS : Int32) (rN : Int32) (rO : Int32) (rW : Int32) (rL : Int32) (rD : Int32) (yd : Nat) (rI : Int32) (rX : Int32) (rY : Int32) (rZ : Int32) (rU : Int32) (yro : Nat) (yc : Nat) (ybe : Nat) (yco : Nat) (rC : Int64) (rV : Int64) (G : Nat) (K : Nat) (M : Nat) (N : Nat) : pz_Ct l g yX9_isMan cX9_isMan 2 (some .boolean) rmX9_isMan [.ref h0, .int m] [(h0, .inr (8, [.ref yt, .int rT, .int rH, .int (nI G), .ref yw, .int (nI K), .ref yp, .ref yg, .int (nI M), .ref yu, .int (nI N), .ref ysl, .ref yin, .ref yse, .ref ysp, .ref ypa, .int rA, .ref yb, .ref ybd, .ref ybc, .ref yr, .int rF, .int rP, .ref ywd, .int rS, .int rN, .int rO, .int rW, .int rL, .int rD, .ref yd, .int rI, .int rX, .int rY, .int rZ, .int rU, .ref yro, .ref yc, .ref ybe, .ref yco, .long rC, .long rV]))] (pz_pi (fun (r : Int32) (u : Unit) => r = if m < 0 then 0 else if (nI M) ≤ m then 0 else 1) (fun (u : Unit) => [(h0, .inr (8, [.ref yt, .int rT, .int rH, .int (nI G), .ref yw, .int (nI K), .ref yp, .ref yg, .int (nI M), .ref yu, .int (nI N), .ref ysl, .ref yin, .ref yse, .ref ysp, .ref ypa, .int rA, .ref yb, .ref ybd, .ref ybc, .ref yr, .int rF, .int rP, .ref ywd, .int rS, .int rN, .int rO, .int rW, .int rL, .int rD, .ref yd, .int rI, .int rX, .int rY, .int rZ, .int rU, .ref yro, .ref yc, .ref ybe, .ref yco, .long rC, .long rV]))])) := by
  refine pz_ofAt (by decide +kernel) (Nat.le_of_ble_eq_true rfl) (fun B F Rt hme => ?_)
  refine sgX9_isMan_0 F Rt m h0 yt rT rH yw yp yg yu ysl yin yse ysp ypa rA yb ybd ybc yr rF rP ywd rS rN rO rW rL rD yd rI rX rY rZ rU yro yc ybe yco rC rV G K M N ?_
  clear F Rt hme
  repeat' (first | apply And.intro | intro _)
  all_goals (try subst_vars)
  all_goals (first | exact ⟨_, (), rfl, rfl, rfl⟩ | exact ⟨_, (), rfl, rfl, by simp only [*, reduceIte, and_self, and_true, true_and, not_false_eq_true]⟩)
abbrev rmX9_isBoulder : Room := { frames := 0, cells := 0, slots := 0, locals := 0 }
set_option maxHeartbeats 4000000 in
set_option maxRecDepth 100000 in
theorem sgX9_isBoulder_0 {B : pz_B} {g : pz_G} {wc : va_W} {Post : Option Value → va_W → Prop} (F : pz_F B cX9_isBoulder 2 (some .boolean) yX9_isBoulder.cls g rmX9_isBoulder) (Rt : pz_Rt B g wc Post rmX9_isBoulder) (m : Int32) (h0 : Nat) (yt : Nat) (rT : Int32) (rH : Int32) (yw : Nat) (yp : Nat) (yg : Nat) (yu : Nat) (ysl : Nat) (yin : Nat) (yse : Nat) (ysp : Nat) (ypa : Nat) (rA : Int32) (yb : Nat) (ybd : Nat) (ybc : Nat) (yr : Nat) (rF : Int32) (rP : Int32) (ywd : Nat) (rS : Int32) (rN : Int32) (rO : Int32) (rW : Int32) (rL : Int32) (rD : Int32) (yd : Nat) (rI : Int32) (rX : Int32) (rY : Int32) (rZ : Int32) (rU : Int32) (yro : Nat) (yc : Nat) (ybe : Nat) (yco : Nat) (rC : Int64) (rV : Int64) (G : Nat) (K : Nat) (M : Nat) (N : Nat)  (vc : ((m < 0 → Post (some (.int 0)) [(h0, .inr (8, [.ref yt, .int rT, .int rH, .int (nI G), .ref yw, .int (nI K), .ref yp, .ref yg, .int (nI M), .ref yu, .int (nI N), .ref ysl, .ref yin, .ref yse, .ref ysp, .ref ypa, .int rA, .ref yb, .ref ybd, .ref ybc, .ref yr, .int rF, .int rP, .ref ywd, .int rS, .int rN, .int rO, .int rW, .int rL, .int rD, .ref yd, .int rI, .int rX, .int rY, .int rZ, .int rU, .ref yro, .ref yc, .ref ybe, .ref yco, .long rC, .long rV]))]) ∧ (¬ m < 0 → (((nI N) ≤ m → Post (some (.int 0)) [(h0, .inr (8, [.ref yt, .int rT, .int rH, .int (nI G), .ref yw, .int (nI K), .ref yp, .ref yg, .int (nI M), .ref yu, .int (nI N), .ref ysl, .ref yin, .ref yse, .ref ysp, .ref ypa, .int rA, .ref yb, .ref ybd, .ref ybc, .ref yr, .int rF, .int rP, .ref ywd, .int rS, .int rN, .int rO, .int rW, .int rL, .int rD, .ref yd, .int rI, .int rX, .int rY, .int rZ, .int rU, .ref yro, .ref yc, .ref ybe, .ref yco, .long rC, .long rV]))]) ∧ (¬ (nI N) ≤ m → Post (some (.int 1)) [(h0, .inr (8, [.ref yt, .int rT, .int rH, .int (nI G), .ref yw, .int (nI K), .ref yp, .ref yg, .int (nI M), .ref yu, .int (nI N), .ref ysl, .ref yin, .ref yse, .ref ysp, .ref ypa, .int rA, .ref yb, .ref ybd, .ref ybc, .ref yr, .int rF, .int rP, .ref ywd, .int rS, .int rN, .int rO, .int rW, .int rL, .int rD, .ref yd, .int rI, .int rX, .int rY, .int rZ, .int rU, .ref yro, .ref yc, .ref ybe, .ref yco, .long rC, .long rV]))]))))) : pz_At B 0 0 0 [(0, .ref h0), (1, .int m)] [] [(h0, .inr (8, [.ref yt, .int rT, .int rH, .int (nI G), .ref yw, .int (nI K), .ref yp, .ref yg, .int (nI M), .ref yu, .int (nI N), .ref ysl, .ref yin, .ref yse, .ref ysp, .ref ypa, .int rA, .ref yb, .ref ybd, .ref ybc, .ref yr, .int rF, .int rP, .ref ywd, .int rS, .int rN, .int rO, .int rW, .int rL, .int rD, .ref yd, .int rI, .int rX, .int rY, .int rZ, .int rU, .ref yro, .ref yc, .ref ybe, .ref yco, .long rC, .long rV]))] := by
  refine pz_iload_n 1 F rfl dX9_isBoulder_0 rfl ?_
  refine pz_if_lt (tgt := 16) F dX9_isBoulder_1 (by decide) (fun q_1 => ?_) (fun q_1 => ?_)
  · replace vc := vc.1 q_1
    refine pz_iconst (v := 0) F dX9_isBoulder_16 rfl ?_
    exact pz_ireturn (w1 := [(h0, .inr (8, [.ref yt, .int rT, .int rH, .int (nI G), .ref yw, .int (nI K), .ref yp, .ref yg, .int (nI M), .ref yu, .int (nI N), .ref ysl, .ref yin, .ref yse, .ref ysp, .ref ypa, .int rA, .ref yb, .ref ybd, .ref ybc, .ref yr, .int rF, .int rP, .ref ywd, .int rS, .int rN, .int rO, .int rW, .int rL, .int rD, .ref yd, .int rI, .int rX, .int rY, .int rZ, .int rU, .ref yro, .ref yc, .ref ybe, .ref yco, .long rC, .long rV]))]) F Rt (by decide) (by decide) dX9_isBoulder_17 [0] rfl rfl rfl vc
  · replace vc := vc.2 q_1
    refine pz_iload_n 1 F rfl dX9_isBoulder_4 rfl ?_
    refine pz_aload_n 0 F rfl dX9_isBoulder_5 rfl ?_
    refine pz_get (ci := 8) (C := RX9) (T := TX9) (N := 42) (v := .int (nI N)) 0 F rfl rfl pz_inX9 10 (by decide) pw_818 rfl dX9_isBoulder_6 ?_
    refine pz_icmp_ge (tgt := 16) F dX9_isBoulder_9 (by decide) (fun q_2 => ?_) (fun q_2 => ?_)
    · replace vc := vc.1 q_2
      refine pz_iconst (v := 0) F dX9_isBoulder_16 rfl ?_
      exact pz_ireturn (w1 := [(h0, .inr (8, [.ref yt, .int rT, .int rH, .int (nI G), .ref yw, .int (nI K), .ref yp, .ref yg, .int (nI M), .ref yu, .int (nI N), .ref ysl, .ref yin, .ref yse, .ref ysp, .ref ypa, .int rA, .ref yb, .ref ybd, .ref ybc, .ref yr, .int rF, .int rP, .ref ywd, .int rS, .int rN, .int rO, .int rW, .int rL, .int rD, .ref yd, .int rI, .int rX, .int rY, .int rZ, .int rU, .ref yro, .ref yc, .ref ybe, .ref yco, .long rC, .long rV]))]) F Rt (by decide) (by decide) dX9_isBoulder_17 [0] rfl rfl rfl vc
    · replace vc := vc.2 q_2
      refine pz_iconst (v := 1) F dX9_isBoulder_12 rfl ?_
      refine pz_goto (tgt := 17) F dX9_isBoulder_13 (by decide) ?_
      exact pz_ireturn (w1 := [(h0, .inr (8, [.ref yt, .int rT, .int rH, .int (nI G), .ref yw, .int (nI K), .ref yp, .ref yg, .int (nI M), .ref yu, .int (nI N), .ref ysl, .ref yin, .ref yse, .ref ysp, .ref ypa, .int rA, .ref yb, .ref ybd, .ref ybc, .ref yr, .int rF, .int rP, .ref ywd, .int rS, .int rN, .int rO, .int rW, .int rL, .int rD, .ref yd, .int rI, .int rX, .int rY, .int rZ, .int rU, .ref yro, .ref yc, .ref ybe, .ref yco, .long rC, .long rV]))]) F Rt (by decide) (by decide) dX9_isBoulder_17 [0] rfl rfl rfl vc
set_option maxHeartbeats 4000000 in
set_option maxRecDepth 100000 in
theorem ctX9_isBoulder (l : Launch) (g : pz_G) (m : Int32) (h0 : Nat) (yt : Nat) (rT : Int32) (rH : Int32) (yw : Nat) (yp : Nat) (yg : Nat) (yu : Nat) (ysl : Nat) (yin : Nat) (yse : Nat) (ysp : Nat) (ypa : Nat) (rA : Int32) (yb : Nat) (ybd : Nat) (ybc : Nat) (yr : Nat) (rF : Int32) (rP : Int32) (ywd : Nat) (rS : Int32) (rN : Int32) (rO : Int32) (rW : Int32) (rL : Int32) (rD : Int32) (yd : Nat) (rI : Int32) (rX : Int32) (rY : Int32) (rZ : Int32) (rU : Int32) (yro : Nat) (yc : Nat) (ybe : Nat) (yco : Nat) (rC : Int64) (rV : Int64) (G : Nat) (K : Nat) (M : Nat) (N : Nat) : pz_Ct l g yX9_isBoulder cX9_isBoulder 2 (some .boolean) rmX9_isBoulder [.ref h0, .int m] [(h0, .inr (8, [.ref yt, .int rT, .int rH, .int (nI G), .ref yw, .int (nI K), .ref yp, .ref yg, .int (nI M), .ref yu, .int (nI N), .ref ysl, .ref yin, .ref yse, .ref ysp, .ref ypa, .int rA, .ref yb, .ref ybd, .ref ybc, .ref yr, .int rF, .int rP, .ref ywd, .int rS, .int rN, .int rO, .int rW, .int rL, .int rD, .ref yd, .int rI, .int rX, .int rY, .int rZ, .int rU, .ref yro, .ref yc, .ref ybe, .ref yco, .long rC, .long rV]))] (pz_pi (fun (r : Int32) (u : Unit) => r = if m < 0 then 0 else if (nI N) ≤ m then 0 else 1) (fun (u : Unit) => [(h0, .inr (8, [.ref yt, .int rT, .int rH, .int (nI G), .ref yw, .int (nI K), .ref yp, .ref yg, .int (nI M), .ref yu, .int (nI N), .ref ysl, .ref yin, .ref yse, .ref ysp, .ref ypa, .int rA, .ref yb, .ref ybd, .ref ybc, .ref yr, .int rF, .int rP, .ref ywd, .int rS, .int rN, .int rO, .int rW, .int rL, .int rD, .ref yd, .int rI, .int rX, .int rY, .int rZ, .int rU, .ref yro, .ref yc, .ref ybe, .ref yco, .long rC, .long rV]))])) := by
  refine pz_ofAt (by decide +kernel) (Nat.le_of_ble_eq_true rfl) (fun B F Rt hme => ?_)
  refine sgX9_isBoulder_0 F Rt m h0 yt rT rH yw yp yg yu ysl yin yse ysp ypa rA yb ybd ybc yr rF rP ywd rS rN rO rW rL rD yd rI rX rY rZ rU yro yc ybe yco rC rV G K M N ?_
  clear F Rt hme
  repeat' (first | apply And.intro | intro _)
  all_goals (try subst_vars)
  all_goals (first | exact ⟨_, (), rfl, rfl, rfl⟩ | exact ⟨_, (), rfl, rfl, by simp only [*, reduceIte, and_self, and_true, true_and, not_false_eq_true]⟩)
abbrev rmX9_isWeight : Room := { frames := 0, cells := 0, slots := 0, locals := 0 }
set_option maxHeartbeats 4000000 in
set_option maxRecDepth 100000 in
theorem sgX9_isWeight_0 {B : pz_B} {g : pz_G} {wc : va_W} {Post : Option Value → va_W → Prop} (F : pz_F B cX9_isWeight 3 (some .boolean) yX9_isWeight.cls g rmX9_isWeight) (Rt : pz_Rt B g wc Post rmX9_isWeight) (g_ : Int32) (w : Int32) (h0 : Nat) (yt : Nat) (rT : Int32) (rH : Int32) (yw : Nat) (yp : Nat) (yg : Nat) (yu : Nat) (ysl : Nat) (yin : Nat) (yse : Nat) (ysp : Nat) (ypa : Nat) (rA : Int32) (yb : Nat) (ybd : Nat) (ybc : Nat) (yr : Nat) (rF : Int32) (rP : Int32) (ywd : Nat) (rS : Int32) (rN : Int32) (rO : Int32) (rW : Int32) (rL : Int32) (rD : Int32) (yd : Nat) (rI : Int32) (rX : Int32) (rY : Int32) (rZ : Int32) (rU : Int32) (yro : Nat) (yc : Nat) (ybe : Nat) (yco : Nat) (rC : Int64) (rV : Int64) (G : Nat) (K : Nat) (M : Nat) (N : Nat)  (vc : ((w < 0 → Post (some (.int 0)) [(h0, .inr (8, [.ref yt, .int rT, .int rH, .int (nI G), .ref yw, .int (nI K), .ref yp, .ref yg, .int (nI M), .ref yu, .int (nI N), .ref ysl, .ref yin, .ref yse, .ref ysp, .ref ypa, .int rA, .ref yb, .ref ybd, .ref ybc, .ref yr, .int rF, .int rP, .ref ywd, .int rS, .int rN, .int rO, .int rW, .int rL, .int rD, .ref yd, .int rI, .int rX, .int rY, .int rZ, .int rU, .ref yro, .ref yc, .ref ybe, .ref yco, .long rC, .long rV]))]) ∧ (¬ w < 0 → (((16 : Int32) < w → Post (some (.int 0)) [(h0, .inr (8, [.ref yt, .int rT, .int rH, .int (nI G), .ref yw, .int (nI K), .ref yp, .ref yg, .int (nI M), .ref yu, .int (nI N), .ref ysl, .ref yin, .ref yse, .ref ysp, .ref ypa, .int rA, .ref yb, .ref ybd, .ref ybc, .ref yr, .int rF, .int rP, .ref ywd, .int rS, .int rN, .int rO, .int rW, .int rL, .int rD, .ref yd, .int rI, .int rX, .int rY, .int rZ, .int rU, .ref yro, .ref yc, .ref ybe, .ref yco, .long rC, .long rV]))]) ∧ (¬ (16 : Int32) < w → ((w = 0 → Post (some (.int 1)) [(h0, .inr (8, [.ref yt, .int rT, .int rH, .int (nI G), .ref yw, .int (nI K), .ref yp, .ref yg, .int (nI M), .ref yu, .int (nI N), .ref ysl, .ref yin, .ref yse, .ref ysp, .ref ypa, .int rA, .ref yb, .ref ybd, .ref ybc, .ref yr, .int rF, .int rP, .ref ywd, .int rS, .int rN, .int rO, .int rW, .int rL, .int rD, .ref yd, .int rI, .int rX, .int rY, .int rZ, .int rU, .ref yro, .ref yc, .ref ybe, .ref yco, .long rC, .long rV]))]) ∧ (¬ w = 0 → (((nI G) ≤ g_ → Post (some (.int 0)) [(h0, .inr (8, [.ref yt, .int rT, .int rH, .int (nI G), .ref yw, .int (nI K), .ref yp, .ref yg, .int (nI M), .ref yu, .int (nI N), .ref ysl, .ref yin, .ref yse, .ref ysp, .ref ypa, .int rA, .ref yb, .ref ybd, .ref ybc, .ref yr, .int rF, .int rP, .ref ywd, .int rS, .int rN, .int rO, .int rW, .int rL, .int rD, .ref yd, .int rI, .int rX, .int rY, .int rZ, .int rU, .ref yro, .ref yc, .ref ybe, .ref yco, .long rC, .long rV]))]) ∧ (¬ (nI G) ≤ g_ → Post (some (.int 1)) [(h0, .inr (8, [.ref yt, .int rT, .int rH, .int (nI G), .ref yw, .int (nI K), .ref yp, .ref yg, .int (nI M), .ref yu, .int (nI N), .ref ysl, .ref yin, .ref yse, .ref ysp, .ref ypa, .int rA, .ref yb, .ref ybd, .ref ybc, .ref yr, .int rF, .int rP, .ref ywd, .int rS, .int rN, .int rO, .int rW, .int rL, .int rD, .ref yd, .int rI, .int rX, .int rY, .int rZ, .int rU, .ref yro, .ref yc, .ref ybe, .ref yco, .long rC, .long rV]))]))))))))) : pz_At B 0 0 0 [(0, .ref h0), (1, .int g_), (2, .int w)] [] [(h0, .inr (8, [.ref yt, .int rT, .int rH, .int (nI G), .ref yw, .int (nI K), .ref yp, .ref yg, .int (nI M), .ref yu, .int (nI N), .ref ysl, .ref yin, .ref yse, .ref ysp, .ref ypa, .int rA, .ref yb, .ref ybd, .ref ybc, .ref yr, .int rF, .int rP, .ref ywd, .int rS, .int rN, .int rO, .int rW, .int rL, .int rD, .ref yd, .int rI, .int rX, .int rY, .int rZ, .int rU, .ref yro, .ref yc, .ref ybe, .ref yco, .long rC, .long rV]))] := by
  refine pz_iload_n 2 F rfl dX9_isWeight_0 rfl ?_
  refine pz_if_lt (tgt := 26) F dX9_isWeight_1 (by decide) (fun q_1 => ?_) (fun q_1 => ?_)
  · replace vc := vc.1 q_1
    refine pz_iconst (v := 0) F dX9_isWeight_26 rfl ?_
    exact pz_ireturn (w1 := [(h0, .inr (8, [.ref yt, .int rT, .int rH, .int (nI G), .ref yw, .int (nI K), .ref yp, .ref yg, .int (nI M), .ref yu, .int (nI N), .ref ysl, .ref yin, .ref yse, .ref ysp, .ref ypa, .int rA, .ref yb, .ref ybd, .ref ybc, .ref yr, .int rF, .int rP, .ref ywd, .int rS, .int rN, .int rO, .int rW, .int rL, .int rD, .ref yd, .int rI, .int rX, .int rY, .int rZ, .int rU, .ref yro, .ref yc, .ref ybe, .ref yco, .long rC, .long rV]))]) F Rt (by decide) (by decide) dX9_isWeight_27 [0] rfl rfl rfl vc
  · replace vc := vc.2 q_1
    refine pz_iload_n 2 F rfl dX9_isWeight_4 rfl ?_
    refine pz_bipush (v := 16) F dX9_isWeight_5 rfl ?_
    refine pz_icmp_gt (tgt := 26) F dX9_isWeight_7 (by decide) (fun q_2 => ?_) (fun q_2 => ?_)
    · replace vc := vc.1 q_2
      refine pz_iconst (v := 0) F dX9_isWeight_26 rfl ?_
      exact pz_ireturn (w1 := [(h0, .inr (8, [.ref yt, .int rT, .int rH, .int (nI G), .ref yw, .int (nI K), .ref yp, .ref yg, .int (nI M), .ref yu, .int (nI N), .ref ysl, .ref yin, .ref yse, .ref ysp, .ref ypa, .int rA, .ref yb, .ref ybd, .ref ybc, .ref yr, .int rF, .int rP, .ref ywd, .int rS, .int rN, .int rO, .int rW, .int rL, .int rD, .ref yd, .int rI, .int rX, .int rY, .int rZ, .int rU, .ref yro, .ref yc, .ref ybe, .ref yco, .long rC, .long rV]))]) F Rt (by decide) (by decide) dX9_isWeight_27 [0] rfl rfl rfl vc
    · replace vc := vc.2 q_2
      refine pz_iload_n 2 F rfl dX9_isWeight_10 rfl ?_
      refine pz_if_eq (tgt := 22) F dX9_isWeight_11 (by decide) (fun q_3 => ?_) (fun q_3 => ?_)
      · replace vc := vc.1 q_3
        refine pz_iconst (v := 1) F dX9_isWeight_22 rfl ?_
        refine pz_goto (tgt := 27) F dX9_isWeight_23 (by decide) ?_
        exact pz_ireturn (w1 := [(h0, .inr (8, [.ref yt, .int rT, .int rH, .int (nI G), .ref yw, .int (nI K), .ref yp, .ref yg, .int (nI M), .ref yu, .int (nI N), .ref ysl, .ref yin, .ref yse, .ref ysp, .ref ypa, .int rA, .ref yb, .ref ybd, .ref ybc, .ref yr, .int rF, .int rP, .ref ywd, .int rS, .int rN, .int rO, .int rW, .int rL, .int rD, .ref yd, .int rI, .int rX, .int rY, .int rZ, .int rU, .ref yro, .ref yc, .ref ybe, .ref yco, .long rC, .long rV]))]) F Rt (by decide) (by decide) dX9_isWeight_27 [0] rfl rfl rfl vc
      · replace vc := vc.2 q_3
        refine pz_iload_n 1 F rfl dX9_isWeight_14 rfl ?_
        refine pz_aload_n 0 F rfl dX9_isWeight_15 rfl ?_
        refine pz_get (ci := 8) (C := RX9) (T := TX9) (N := 42) (v := .int (nI G)) 0 F rfl rfl pz_inX9 3 (by decide) pw_811 rfl dX9_isWeight_16 ?_
        refine pz_icmp_ge (tgt := 26) F dX9_isWeight_19 (by decide) (fun q_4 => ?_) (fun q_4 => ?_)
        · replace vc := vc.1 q_4
          refine pz_iconst (v := 0) F dX9_isWeight_26 rfl ?_
          exact pz_ireturn (w1 := [(h0, .inr (8, [.ref yt, .int rT, .int rH, .int (nI G), .ref yw, .int (nI K), .ref yp, .ref yg, .int (nI M), .ref yu, .int (nI N), .ref ysl, .ref yin, .ref yse, .ref ysp, .ref ypa, .int rA, .ref yb, .ref ybd, .ref ybc, .ref yr, .int rF, .int rP, .ref ywd, .int rS, .int rN, .int rO, .int rW, .int rL, .int rD, .ref yd, .int rI, .int rX, .int rY, .int rZ, .int rU, .ref yro, .ref yc, .ref ybe, .ref yco, .long rC, .long rV]))]) F Rt (by decide) (by decide) dX9_isWeight_27 [0] rfl rfl rfl vc
        · replace vc := vc.2 q_4
          refine pz_iconst (v := 1) F dX9_isWeight_22 rfl ?_
          refine pz_goto (tgt := 27) F dX9_isWeight_23 (by decide) ?_
          exact pz_ireturn (w1 := [(h0, .inr (8, [.ref yt, .int rT, .int rH, .int (nI G), .ref yw, .int (nI K), .ref yp, .ref yg, .int (nI M), .ref yu, .int (nI N), .ref ysl, .ref yin, .ref yse, .ref ysp, .ref ypa, .int rA, .ref yb, .ref ybd, .ref ybc, .ref yr, .int rF, .int rP, .ref ywd, .int rS, .int rN, .int rO, .int rW, .int rL, .int rD, .ref yd, .int rI, .int rX, .int rY, .int rZ, .int rU, .ref yro, .ref yc, .ref ybe, .ref yco, .long rC, .long rV]))]) F Rt (by decide) (by decide) dX9_isWeight_27 [0] rfl rfl rfl vc
set_option maxHeartbeats 4000000 in
set_option maxRecDepth 100000 in
theorem ctX9_isWeight (l : Launch) (g : pz_G) (g_ : Int32) (w : Int32) (h0 : Nat) (yt : Nat) (rT : Int32) (rH : Int32) (yw : Nat) (yp : Nat) (yg : Nat) (yu : Nat) (ysl : Nat) (yin : Nat) (yse : Nat) (ysp : Nat) (ypa : Nat) (rA : Int32) (yb : Nat) (ybd : Nat) (ybc : Nat) (yr : Nat) (rF : Int32) (rP : Int32) (ywd : Nat) (rS : Int32) (rN : Int32) (rO : Int32) (rW : Int32) (rL : Int32) (rD : Int32) (yd : Nat) (rI : Int32) (rX : Int32) (rY : Int32) (rZ : Int32) (rU : Int32) (yro : Nat) (yc : Nat) (ybe : Nat) (yco : Nat) (rC : Int64) (rV : Int64) (G : Nat) (K : Nat) (M : Nat) (N : Nat) : pz_Ct l g yX9_isWeight cX9_isWeight 3 (some .boolean) rmX9_isWeight [.ref h0, .int g_, .int w] [(h0, .inr (8, [.ref yt, .int rT, .int rH, .int (nI G), .ref yw, .int (nI K), .ref yp, .ref yg, .int (nI M), .ref yu, .int (nI N), .ref ysl, .ref yin, .ref yse, .ref ysp, .ref ypa, .int rA, .ref yb, .ref ybd, .ref ybc, .ref yr, .int rF, .int rP, .ref ywd, .int rS, .int rN, .int rO, .int rW, .int rL, .int rD, .ref yd, .int rI, .int rX, .int rY, .int rZ, .int rU, .ref yro, .ref yc, .ref ybe, .ref yco, .long rC, .long rV]))] (pz_pi (fun (r : Int32) (u : Unit) => r = we_r (nI G) g_ w) (fun (u : Unit) => [(h0, .inr (8, [.ref yt, .int rT, .int rH, .int (nI G), .ref yw, .int (nI K), .ref yp, .ref yg, .int (nI M), .ref yu, .int (nI N), .ref ysl, .ref yin, .ref yse, .ref ysp, .ref ypa, .int rA, .ref yb, .ref ybd, .ref ybc, .ref yr, .int rF, .int rP, .ref ywd, .int rS, .int rN, .int rO, .int rW, .int rL, .int rD, .ref yd, .int rI, .int rX, .int rY, .int rZ, .int rU, .ref yro, .ref yc, .ref ybe, .ref yco, .long rC, .long rV]))])) := by
  refine pz_ofAt (by decide +kernel) (Nat.le_of_ble_eq_true rfl) (fun B F Rt hme => ?_)
  refine sgX9_isWeight_0 F Rt g_ w h0 yt rT rH yw yp yg yu ysl yin yse ysp ypa rA yb ybd ybc yr rF rP ywd rS rN rO rW rL rD yd rI rX rY rZ rU yro yc ybe yco rC rV G K M N ?_
  clear F Rt hme
  repeat' (first | apply And.intro | intro _)
  all_goals (try subst_vars)
  all_goals (first | exact ⟨_, (), rfl, rfl, rfl⟩ | exact ⟨_, (), rfl, rfl, by simp only [*, we_r, reduceIte, and_self, and_true, true_and, not_false_eq_true]⟩)
abbrev rmX9_isWhole : Room := { frames := 1, cells := 0, slots := 0, locals := 21 }
set_option maxHeartbeats 4000000 in
set_option maxRecDepth 100000 in
theorem sgX9_isWhole_0 {B : pz_B} {g : pz_G} {wc : va_W} {Post : Option Value → va_W → Prop} (F : pz_F B cX9_isWhole 2 (some .boolean) yX9_isWhole.cls g rmX9_isWhole) (Rt : pz_Rt B g wc Post rmX9_isWhole) (x : Int32) (h0 : Nat) (yt : Nat) (rT : Int32) (rH : Int32) (yw : Nat) (yp : Nat) (yg : Nat) (yu : Nat) (ysl : Nat) (yin : Nat) (yse : Nat) (ysp : Nat) (ypa : Nat) (rA : Int32) (yb : Nat) (ybd : Nat) (ybc : Nat) (yr : Nat) (rF : Int32) (rP : Int32) (ywd : Nat) (rS : Int32) (rN : Int32) (rO : Int32) (rW : Int32) (rL : Int32) (rD : Int32) (yd : Nat) (rI : Int32) (rX : Int32) (rY : Int32) (rZ : Int32) (rU : Int32) (yro : Nat) (yc : Nat) (ybe : Nat) (yco : Nat) (rC : Int64) (rV : Int64) (qk : Nat → Int32) (G : Nat) (K : Nat) (M : Nat) (N : Nat)  (vc : ∀ r_1 : Int32, ∀ _ : (r_1 = if x < 0 then 0 else if (nI N) ≤ x then 0 else 1), ((r_1 = 0 → Post (some (.int 0)) [(h0, .inr (8, [.ref yt, .int rT, .int rH, .int (nI G), .ref yw, .int (nI K), .ref yp, .ref yg, .int (nI M), .ref yu, .int (nI N), .ref ysl, .ref yin, .ref yse, .ref ysp, .ref ypa, .int rA, .ref yb, .ref ybd, .ref ybc, .ref yr, .int rF, .int rP, .ref ywd, .int rS, .int rN, .int rO, .int rW, .int rL, .int rD, .ref yd, .int rI, .int rX, .int rY, .int rZ, .int rU, .ref yro, .ref yc, .ref ybe, .ref yco, .long rC, .long rV])), (ysp, .inl (g.2.1 3, 10, .inl qk))]) ∧ (¬ r_1 = 0 → vp_in x 10 ∧ ((¬ (qk x.toNatClampNeg) = 0 → Post (some (.int 0)) [(h0, .inr (8, [.ref yt, .int rT, .int rH, .int (nI G), .ref yw, .int (nI K), .ref yp, .ref yg, .int (nI M), .ref yu, .int (nI N), .ref ysl, .ref yin, .ref yse, .ref ysp, .ref ypa, .int rA, .ref yb, .ref ybd, .ref ybc, .ref yr, .int rF, .int rP, .ref ywd, .int rS, .int rN, .int rO, .int rW, .int rL, .int rD, .ref yd, .int rI, .int rX, .int rY, .int rZ, .int rU, .ref yro, .ref yc, .ref ybe, .ref yco, .long rC, .long rV])), (ysp, .inl (g.2.1 3, 10, .inl qk))]) ∧ ((qk x.toNatClampNeg) = 0 → Post (some (.int 1)) [(h0, .inr (8, [.ref yt, .int rT, .int rH, .int (nI G), .ref yw, .int (nI K), .ref yp, .ref yg, .int (nI M), .ref yu, .int (nI N), .ref ysl, .ref yin, .ref yse, .ref ysp, .ref ypa, .int rA, .ref yb, .ref ybd, .ref ybc, .ref yr, .int rF, .int rP, .ref ywd, .int rS, .int rN, .int rO, .int rW, .int rL, .int rD, .ref yd, .int rI, .int rX, .int rY, .int rZ, .int rU, .ref yro, .ref yc, .ref ybe, .ref yco, .long rC, .long rV])), (ysp, .inl (g.2.1 3, 10, .inl qk))]))))) : pz_At B 0 0 0 [(0, .ref h0), (1, .int x)] [] [(h0, .inr (8, [.ref yt, .int rT, .int rH, .int (nI G), .ref yw, .int (nI K), .ref yp, .ref yg, .int (nI M), .ref yu, .int (nI N), .ref ysl, .ref yin, .ref yse, .ref ysp, .ref ypa, .int rA, .ref yb, .ref ybd, .ref ybc, .ref yr, .int rF, .int rP, .ref ywd, .int rS, .int rN, .int rO, .int rW, .int rL, .int rD, .ref yd, .int rI, .int rX, .int rY, .int rZ, .int rU, .ref yro, .ref yc, .ref ybe, .ref yco, .long rC, .long rV])), (ysp, .inl (g.2.1 3, 10, .inl qk))] := by
  refine pz_aload_n 0 F rfl dX9_isWhole_0 rfl ?_
  refine pz_iload_n 1 F rfl dX9_isWhole_1 rfl ?_
  refine pz_callV (nA := 1) (ci := 8) (C := RX9) (T := TX9) (N := 42) (As := [.int x]) (rest := []) (wr := [(ysp, .inl (g.2.1 3, 10, .inl qk))]) F (ctX9_isBoulder _ g x h0 yt rT rH yw yp yg yu ysl yin yse ysp ypa rA yb ybd ybc yr rF rP ywd rS rN rO rW rL rD yd rI rX rY rZ rU yro yc ybe yco rC rV G K M N) 0 rfl rfl pw_1016 pw_1018 pv_37 pw_8 pw_1019 (by decide +kernel) (by decide) (by decide) rfl rfl (Nat.le_of_ble_eq_true rfl) [0] [1] rfl rfl rfl rfl (by decide) dX9_isWhole_2 (fun r0 w0 hp0 => ?_)
  obtain ⟨r_1, _, rfl, rfl, hq_2⟩ := hp0
  replace vc := vc r_1  hq_2
  refine pz_eq (st' := [.int r_1]) (ws' := [(ysp, .inl (g.2.1 3, 10, .inl qk)), (h0, .inr (8, [.ref yt, .int rT, .int rH, .int (nI G), .ref yw, .int (nI K), .ref yp, .ref yg, .int (nI M), .ref yu, .int (nI N), .ref ysl, .ref yin, .ref yse, .ref ysp, .ref ypa, .int rA, .ref yb, .ref ybd, .ref ybc, .ref yr, .int rF, .int rP, .ref ywd, .int rS, .int rN, .int rO, .int rW, .int rL, .int rD, .ref yd, .int rI, .int rX, .int rY, .int rZ, .int rU, .ref yro, .ref yc, .ref ybe, .ref yco, .long rC, .long rV]))]) rfl rfl ?_
  refine pz_if_eq (tgt := 21) F dX9_isWhole_5 (by decide) (fun q_3 => ?_) (fun q_3 => ?_)
  · replace vc := vc.1 q_3
    refine pz_iconst (v := 0) F dX9_isWhole_21 rfl ?_
    exact pz_ireturn (w1 := [(h0, .inr (8, [.ref yt, .int rT, .int rH, .int (nI G), .ref yw, .int (nI K), .ref yp, .ref yg, .int (nI M), .ref yu, .int (nI N), .ref ysl, .ref yin, .ref yse, .ref ysp, .ref ypa, .int rA, .ref yb, .ref ybd, .ref ybc, .ref yr, .int rF, .int rP, .ref ywd, .int rS, .int rN, .int rO, .int rW, .int rL, .int rD, .ref yd, .int rI, .int rX, .int rY, .int rZ, .int rU, .ref yro, .ref yc, .ref ybe, .ref yco, .long rC, .long rV])), (ysp, .inl (g.2.1 3, 10, .inl qk))]) F Rt (by decide) (by decide) dX9_isWhole_22 [1, 0] rfl rfl rfl vc
  · replace vc := vc.2 q_3
    refine pz_aload_n 0 F rfl dX9_isWhole_8 rfl ?_
    refine pz_get (ci := 8) (C := RX9) (T := TX9) (N := 42) (v := .ref ysp) 1 F rfl rfl pz_inX9 14 (by decide) pw_822 rfl dX9_isWhole_9 ?_
    refine pz_iload_n 1 F rfl dX9_isWhole_12 rfl ?_
    obtain ⟨h_4, vc⟩ := vc
    refine pz_zaload 0 F rfl h_4 dX9_isWhole_13 ?_
    refine pz_if_ne (tgt := 21) F dX9_isWhole_14 (by decide) (fun q_5 => ?_) (fun q_5 => ?_)
    · replace vc := vc.1 q_5
      refine pz_iconst (v := 0) F dX9_isWhole_21 rfl ?_
      exact pz_ireturn (w1 := [(h0, .inr (8, [.ref yt, .int rT, .int rH, .int (nI G), .ref yw, .int (nI K), .ref yp, .ref yg, .int (nI M), .ref yu, .int (nI N), .ref ysl, .ref yin, .ref yse, .ref ysp, .ref ypa, .int rA, .ref yb, .ref ybd, .ref ybc, .ref yr, .int rF, .int rP, .ref ywd, .int rS, .int rN, .int rO, .int rW, .int rL, .int rD, .ref yd, .int rI, .int rX, .int rY, .int rZ, .int rU, .ref yro, .ref yc, .ref ybe, .ref yco, .long rC, .long rV])), (ysp, .inl (g.2.1 3, 10, .inl qk))]) F Rt (by decide) (by decide) dX9_isWhole_22 [1, 0] rfl rfl rfl vc
    · replace vc := vc.2 q_5
      refine pz_iconst (v := 1) F dX9_isWhole_17 rfl ?_
      refine pz_goto (tgt := 22) F dX9_isWhole_18 (by decide) ?_
      exact pz_ireturn (w1 := [(h0, .inr (8, [.ref yt, .int rT, .int rH, .int (nI G), .ref yw, .int (nI K), .ref yp, .ref yg, .int (nI M), .ref yu, .int (nI N), .ref ysl, .ref yin, .ref yse, .ref ysp, .ref ypa, .int rA, .ref yb, .ref ybd, .ref ybc, .ref yr, .int rF, .int rP, .ref ywd, .int rS, .int rN, .int rO, .int rW, .int rL, .int rD, .ref yd, .int rI, .int rX, .int rY, .int rZ, .int rU, .ref yro, .ref yc, .ref ybe, .ref yco, .long rC, .long rV])), (ysp, .inl (g.2.1 3, 10, .inl qk))]) F Rt (by decide) (by decide) dX9_isWhole_22 [1, 0] rfl rfl rfl vc
set_option maxHeartbeats 4000000 in
set_option maxRecDepth 100000 in
theorem ctX9_isWhole (l : Launch) (g : pz_G) (x : Int32) (h0 : Nat) (yt : Nat) (rT : Int32) (rH : Int32) (yw : Nat) (yp : Nat) (yg : Nat) (yu : Nat) (ysl : Nat) (yin : Nat) (yse : Nat) (ysp : Nat) (ypa : Nat) (rA : Int32) (yb : Nat) (ybd : Nat) (ybc : Nat) (yr : Nat) (rF : Int32) (rP : Int32) (ywd : Nat) (rS : Int32) (rN : Int32) (rO : Int32) (rW : Int32) (rL : Int32) (rD : Int32) (yd : Nat) (rI : Int32) (rX : Int32) (rY : Int32) (rZ : Int32) (rU : Int32) (yro : Nat) (yc : Nat) (ybe : Nat) (yco : Nat) (rC : Int64) (rV : Int64) (qk : Nat → Int32) (G : Nat) (K : Nat) (M : Nat) (N : Nat) (hpre : N ≤ 10) : pz_Ct l g yX9_isWhole cX9_isWhole 2 (some .boolean) rmX9_isWhole [.ref h0, .int x] [(h0, .inr (8, [.ref yt, .int rT, .int rH, .int (nI G), .ref yw, .int (nI K), .ref yp, .ref yg, .int (nI M), .ref yu, .int (nI N), .ref ysl, .ref yin, .ref yse, .ref ysp, .ref ypa, .int rA, .ref yb, .ref ybd, .ref ybc, .ref yr, .int rF, .int rP, .ref ywd, .int rS, .int rN, .int rO, .int rW, .int rL, .int rD, .ref yd, .int rI, .int rX, .int rY, .int rZ, .int rU, .ref yro, .ref yc, .ref ybe, .ref yco, .long rC, .long rV])), (ysp, .inl (g.2.1 3, 10, .inl qk))] (pz_pi (fun (r : Int32) (u : Unit) => (wh_ok x N qk ∧ r = 1) ∨ (¬ wh_ok x N qk ∧ r = 0)) (fun (u : Unit) => [(h0, .inr (8, [.ref yt, .int rT, .int rH, .int (nI G), .ref yw, .int (nI K), .ref yp, .ref yg, .int (nI M), .ref yu, .int (nI N), .ref ysl, .ref yin, .ref yse, .ref ysp, .ref ypa, .int rA, .ref yb, .ref ybd, .ref ybc, .ref yr, .int rF, .int rP, .ref ywd, .int rS, .int rN, .int rO, .int rW, .int rL, .int rD, .ref yd, .int rI, .int rX, .int rY, .int rZ, .int rU, .ref yro, .ref yc, .ref ybe, .ref yco, .long rC, .long rV])), (ysp, .inl (g.2.1 3, 10, .inl qk))])) := by
  refine pz_ofAt (by decide +kernel) (Nat.le_of_ble_eq_true rfl) (fun B F Rt hme => ?_)
  refine sgX9_isWhole_0 F Rt x h0 yt rT rH yw yp yg yu ysl yin yse ysp ypa rA yb ybd ybc yr rF rP ywd rS rN rO rW rL rD yd rI rX rY rZ rU yro yc ybe yco rC rV qk G K M N ?_
  clear F Rt hme
  intro r hr
  rcases hs_of hr with ⟨i1, rfl⟩ | ⟨i1, rfl⟩
  · exact ⟨fun q => absurd q (by decide), fun _ => ⟨hs_vp hpre (by decide) i1, fun q => ⟨_, (), rfl, rfl, Or.inr ⟨fun h => q h.2, rfl⟩⟩, fun q => ⟨_, (), rfl, rfl, Or.inl ⟨⟨i1, q⟩, rfl⟩⟩⟩⟩
  · exact ⟨fun q => ⟨_, (), rfl, rfl, Or.inr ⟨fun h => i1 h.1, rfl⟩⟩, fun q => absurd rfl q⟩
abbrev rmX9_purse : Room := { frames := 1, cells := 0, slots := 0, locals := 21 }
set_option maxHeartbeats 4000000 in
set_option maxRecDepth 100000 in
theorem sgX9_purse_0 {B : pz_B} {g : pz_G} {wc : va_W} {Post : Option Value → va_W → Prop} (F : pz_F B cX9_purse 2 (some .int) yX9_purse.cls g rmX9_purse) (Rt : pz_Rt B g wc Post rmX9_purse) (m : Int32) (h0 : Nat) (yt : Nat) (rT : Int32) (rH : Int32) (yw : Nat) (yp : Nat) (yg : Nat) (yu : Nat) (ysl : Nat) (yin : Nat) (yse : Nat) (ysp : Nat) (ypa : Nat) (rA : Int32) (yb : Nat) (ybd : Nat) (ybc : Nat) (yr : Nat) (rF : Int32) (rP : Int32) (ywd : Nat) (rS : Int32) (rN : Int32) (rO : Int32) (rW : Int32) (rL : Int32) (rD : Int32) (yd : Nat) (rI : Int32) (rX : Int32) (rY : Int32) (rZ : Int32) (rU : Int32) (yro : Nat) (yc : Nat) (ybe : Nat) (yco : Nat) (rC : Int64) (rV : Int64) (qu : Nat → Int32) (G : Nat) (K : Nat) (M : Nat) (N : Nat)  (vc : ∀ r_1 : Int32, ∀ _ : (r_1 = if m < 0 then 0 else if (nI M) ≤ m then 0 else 1), ((r_1 = 0 → Post (some (.int (-1))) [(h0, .inr (8, [.ref yt, .int rT, .int 0, .int (nI G), .ref yw, .int (nI K), .ref yp, .ref yg, .int (nI M), .ref yu, .int (nI N), .ref ysl, .ref yin, .ref yse, .ref ysp, .ref ypa, .int rA, .ref yb, .ref ybd, .ref ybc, .ref yr, .int rF, .int rP, .ref ywd, .int rS, .int rN, .int rO, .int rW, .int rL, .int rD, .ref yd, .int rI, .int rX, .int rY, .int rZ, .int rU, .ref yro, .ref yc, .ref ybe, .ref yco, .long rC, .long rV])), (yu, .inl (g.2.1 1, 8, .inl qu))]) ∧ (¬ r_1 = 0 → vp_in m 8 ∧ ∀ x_5 : Int32, x_5 = (qu m.toNatClampNeg) → Post (some (.int x_5)) [(h0, .inr (8, [.ref yt, .int rT, .int 0, .int (nI G), .ref yw, .int (nI K), .ref yp, .ref yg, .int (nI M), .ref yu, .int (nI N), .ref ysl, .ref yin, .ref yse, .ref ysp, .ref ypa, .int rA, .ref yb, .ref ybd, .ref ybc, .ref yr, .int rF, .int rP, .ref ywd, .int rS, .int rN, .int rO, .int rW, .int rL, .int rD, .ref yd, .int rI, .int rX, .int rY, .int rZ, .int rU, .ref yro, .ref yc, .ref ybe, .ref yco, .long rC, .long rV])), (yu, .inl (g.2.1 1, 8, .inl qu))]))) : pz_At B 0 0 0 [(0, .ref h0), (1, .int m)] [] [(h0, .inr (8, [.ref yt, .int rT, .int rH, .int (nI G), .ref yw, .int (nI K), .ref yp, .ref yg, .int (nI M), .ref yu, .int (nI N), .ref ysl, .ref yin, .ref yse, .ref ysp, .ref ypa, .int rA, .ref yb, .ref ybd, .ref ybc, .ref yr, .int rF, .int rP, .ref ywd, .int rS, .int rN, .int rO, .int rW, .int rL, .int rD, .ref yd, .int rI, .int rX, .int rY, .int rZ, .int rU, .ref yro, .ref yc, .ref ybe, .ref yco, .long rC, .long rV])), (yu, .inl (g.2.1 1, 8, .inl qu))] := by
  refine pz_aload_n 0 F rfl dX9_purse_0 rfl ?_
  refine pz_iconst (v := 0) F dX9_purse_1 rfl ?_
  refine pz_put (ws' := [(h0, .inr (8, [.ref yt, .int rT, .int 0, .int (nI G), .ref yw, .int (nI K), .ref yp, .ref yg, .int (nI M), .ref yu, .int (nI N), .ref ysl, .ref yin, .ref yse, .ref ysp, .ref ypa, .int rA, .ref yb, .ref ybd, .ref ybc, .ref yr, .int rF, .int rP, .ref ywd, .int rS, .int rN, .int rO, .int rW, .int rL, .int rD, .ref yd, .int rI, .int rX, .int rY, .int rZ, .int rU, .ref yro, .ref yc, .ref ybe, .ref yco, .long rC, .long rV])), (yu, .inl (g.2.1 1, 8, .inl qu))]) (ci := 8) (C := RX9) (T := TX9) (N := 42) (v := .int 0) (ty := .int) 0 F rfl rfl pz_inX9 2 (by decide) pw_810 tyX9_ok nmX9 rfl rfl rfl rfl (Nat.le_of_ble_eq_true rfl) dX9_purse_2 rfl ?_
  refine pz_aload_n 0 F rfl dX9_purse_5 rfl ?_
  refine pz_iload_n 1 F rfl dX9_purse_6 rfl ?_
  refine pz_callV (nA := 1) (ci := 8) (C := RX9) (T := TX9) (N := 42) (As := [.int m]) (rest := []) (wr := [(yu, .inl (g.2.1 1, 8, .inl qu))]) F (ctX9_isMan _ g m h0 yt rT 0 yw yp yg yu ysl yin yse ysp ypa rA yb ybd ybc yr rF rP ywd rS rN rO rW rL rD yd rI rX rY rZ rU yro yc ybe yco rC rV G K M N) 0 rfl rfl pw_1004 pw_1006 pv_35 pw_8 pw_1007 (by decide +kernel) (by decide) (by decide) rfl rfl (Nat.le_of_ble_eq_true rfl) [0] [1] rfl rfl rfl rfl (by decide) dX9_purse_7 (fun r0 w0 hp0 => ?_)
  obtain ⟨r_1, _, rfl, rfl, hq_2⟩ := hp0
  replace vc := vc r_1  hq_2
  refine pz_eq (st' := [.int r_1]) (ws' := [(yu, .inl (g.2.1 1, 8, .inl qu)), (h0, .inr (8, [.ref yt, .int rT, .int 0, .int (nI G), .ref yw, .int (nI K), .ref yp, .ref yg, .int (nI M), .ref yu, .int (nI N), .ref ysl, .ref yin, .ref yse, .ref ysp, .ref ypa, .int rA, .ref yb, .ref ybd, .ref ybc, .ref yr, .int rF, .int rP, .ref ywd, .int rS, .int rN, .int rO, .int rW, .int rL, .int rD, .ref yd, .int rI, .int rX, .int rY, .int rZ, .int rU, .ref yro, .ref yc, .ref ybe, .ref yco, .long rC, .long rV]))]) rfl rfl ?_
  refine pz_if_eq (tgt := 22) F dX9_purse_10 (by decide) (fun q_3 => ?_) (fun q_3 => ?_)
  · replace vc := vc.1 q_3
    refine pz_iconst (v := (-1)) F dX9_purse_22 rfl ?_
    exact pz_ireturn (w1 := [(h0, .inr (8, [.ref yt, .int rT, .int 0, .int (nI G), .ref yw, .int (nI K), .ref yp, .ref yg, .int (nI M), .ref yu, .int (nI N), .ref ysl, .ref yin, .ref yse, .ref ysp, .ref ypa, .int rA, .ref yb, .ref ybd, .ref ybc, .ref yr, .int rF, .int rP, .ref ywd, .int rS, .int rN, .int rO, .int rW, .int rL, .int rD, .ref yd, .int rI, .int rX, .int rY, .int rZ, .int rU, .ref yro, .ref yc, .ref ybe, .ref yco, .long rC, .long rV])), (yu, .inl (g.2.1 1, 8, .inl qu))]) F Rt (by decide) (by decide) dX9_purse_23 [1, 0] rfl rfl rfl vc
  · replace vc := vc.2 q_3
    refine pz_aload_n 0 F rfl dX9_purse_13 rfl ?_
    refine pz_get (ci := 8) (C := RX9) (T := TX9) (N := 42) (v := .ref yu) 1 F rfl rfl pz_inX9 9 (by decide) pw_817 rfl dX9_purse_14 ?_
    refine pz_iload_n 1 F rfl dX9_purse_17 rfl ?_
    obtain ⟨h_4, vc⟩ := vc
    refine pz_iaload 0 F rfl h_4 dX9_purse_18 ?_
    refine pz_goto (tgt := 23) F dX9_purse_19 (by decide) ?_
    refine pz_topi (fun x_5 ex_5 => ?_)
    replace vc := vc x_5 ex_5
    exact pz_ireturn (w1 := [(h0, .inr (8, [.ref yt, .int rT, .int 0, .int (nI G), .ref yw, .int (nI K), .ref yp, .ref yg, .int (nI M), .ref yu, .int (nI N), .ref ysl, .ref yin, .ref yse, .ref ysp, .ref ypa, .int rA, .ref yb, .ref ybd, .ref ybc, .ref yr, .int rF, .int rP, .ref ywd, .int rS, .int rN, .int rO, .int rW, .int rL, .int rD, .ref yd, .int rI, .int rX, .int rY, .int rZ, .int rU, .ref yro, .ref yc, .ref ybe, .ref yco, .long rC, .long rV])), (yu, .inl (g.2.1 1, 8, .inl qu))]) F Rt (by decide) (by decide) dX9_purse_23 [1, 0] rfl rfl rfl vc
set_option maxHeartbeats 4000000 in
set_option maxRecDepth 100000 in
theorem ctX9_purse (l : Launch) (g : pz_G) (m : Int32) (h0 : Nat) (yt : Nat) (rT : Int32) (rH : Int32) (yw : Nat) (yp : Nat) (yg : Nat) (yu : Nat) (ysl : Nat) (yin : Nat) (yse : Nat) (ysp : Nat) (ypa : Nat) (rA : Int32) (yb : Nat) (ybd : Nat) (ybc : Nat) (yr : Nat) (rF : Int32) (rP : Int32) (ywd : Nat) (rS : Int32) (rN : Int32) (rO : Int32) (rW : Int32) (rL : Int32) (rD : Int32) (yd : Nat) (rI : Int32) (rX : Int32) (rY : Int32) (rZ : Int32) (rU : Int32) (yro : Nat) (yc : Nat) (ybe : Nat) (yco : Nat) (rC : Int64) (rV : Int64) (qu : Nat → Int32) (G : Nat) (K : Nat) (M : Nat) (N : Nat) (hpre : M ≤ 8) : pz_Ct l g yX9_purse cX9_purse 2 (some .int) rmX9_purse [.ref h0, .int m] [(h0, .inr (8, [.ref yt, .int rT, .int rH, .int (nI G), .ref yw, .int (nI K), .ref yp, .ref yg, .int (nI M), .ref yu, .int (nI N), .ref ysl, .ref yin, .ref yse, .ref ysp, .ref ypa, .int rA, .ref yb, .ref ybd, .ref ybc, .ref yr, .int rF, .int rP, .ref ywd, .int rS, .int rN, .int rO, .int rW, .int rL, .int rD, .ref yd, .int rI, .int rX, .int rY, .int rZ, .int rU, .ref yro, .ref yc, .ref ybe, .ref yco, .long rC, .long rV])), (yu, .inl (g.2.1 1, 8, .inl qu))] (pz_pi (fun (r : Int32) (u : Unit) => r = if m < 0 then -1 else if (nI M) ≤ m then -1 else qu m.toNatClampNeg) (fun (u : Unit) => [(h0, .inr (8, [.ref yt, .int rT, .int 0, .int (nI G), .ref yw, .int (nI K), .ref yp, .ref yg, .int (nI M), .ref yu, .int (nI N), .ref ysl, .ref yin, .ref yse, .ref ysp, .ref ypa, .int rA, .ref yb, .ref ybd, .ref ybc, .ref yr, .int rF, .int rP, .ref ywd, .int rS, .int rN, .int rO, .int rW, .int rL, .int rD, .ref yd, .int rI, .int rX, .int rY, .int rZ, .int rU, .ref yro, .ref yc, .ref ybe, .ref yco, .long rC, .long rV])), (yu, .inl (g.2.1 1, 8, .inl qu))])) := by
  refine pz_ofAt (by decide +kernel) (Nat.le_of_ble_eq_true rfl) (fun B F Rt hme => ?_)
  refine sgX9_purse_0 F Rt m h0 yt rT rH yw yp yg yu ysl yin yse ysp ypa rA yb ybd ybc yr rF rP ywd rS rN rO rW rL rD yd rI rX rY rZ rU yro yc ybe yco rC rV qu G K M N ?_
  clear F Rt hme
  intro r hr
  by_cases q1 : m < 0
  · rw [if_pos q1] at hr
    exact ⟨fun _ => ⟨_, (), rfl, rfl, by rw [if_pos q1]⟩, fun q => absurd hr q⟩
  · rw [if_neg q1] at hr
    by_cases q2 : nI M ≤ m
    · rw [if_pos q2] at hr
      exact ⟨fun _ => ⟨_, (), rfl, rfl, by rw [if_neg q1, if_pos q2]⟩, fun q => absurd hr q⟩
    · rw [if_neg q2] at hr
      refine ⟨fun q => absurd (hr.symm.trans q) (by decide), fun _ => ⟨pu_inM hpre (by decide) q1 q2, ?_⟩⟩
      rintro x rfl
      exact ⟨_, (), rfl, rfl, by rw [if_neg q1, if_neg q2]⟩
abbrev rmX9_parts : Room := { frames := 1, cells := 0, slots := 0, locals := 21 }
set_option maxHeartbeats 4000000 in
set_option maxRecDepth 100000 in
theorem sgX9_parts_0 {B : pz_B} {g : pz_G} {wc : va_W} {Post : Option Value → va_W → Prop} (F : pz_F B cX9_parts 3 (some .int) yX9_parts.cls g rmX9_parts) (Rt : pz_Rt B g wc Post rmX9_parts) (x : Int32) (m : Int32) (h0 : Nat) (yt : Nat) (rT : Int32) (rH : Int32) (yw : Nat) (yp : Nat) (yg : Nat) (yu : Nat) (ysl : Nat) (yin : Nat) (yse : Nat) (ysp : Nat) (ypa : Nat) (rA : Int32) (yb : Nat) (ybd : Nat) (ybc : Nat) (yr : Nat) (rF : Int32) (rP : Int32) (ywd : Nat) (rS : Int32) (rN : Int32) (rO : Int32) (rW : Int32) (rL : Int32) (rD : Int32) (yd : Nat) (rI : Int32) (rX : Int32) (rY : Int32) (rZ : Int32) (rU : Int32) (yro : Nat) (yc : Nat) (ybe : Nat) (yco : Nat) (rC : Int64) (rV : Int64) (qa : Nat → Int32) (G : Nat) (K : Nat) (M : Nat) (N : Nat)  (vc : ∀ r_1 : Int32, ∀ _ : (r_1 = if x < 0 then 0 else if (nI N) ≤ x then 0 else 1), ((r_1 = 0 → Post (some (.int (-1))) [(h0, .inr (8, [.ref yt, .int rT, .int 0, .int (nI G), .ref yw, .int (nI K), .ref yp, .ref yg, .int (nI M), .ref yu, .int (nI N), .ref ysl, .ref yin, .ref yse, .ref ysp, .ref ypa, .int rA, .ref yb, .ref ybd, .ref ybc, .ref yr, .int rF, .int rP, .ref ywd, .int rS, .int rN, .int rO, .int rW, .int rL, .int rD, .ref yd, .int rI, .int rX, .int rY, .int rZ, .int rU, .ref yro, .ref yc, .ref ybe, .ref yco, .long rC, .long rV])), (ypa, .inl (g.2.1 1, 80, .inl qa))]) ∧ (¬ r_1 = 0 → ∀ r_4 : Int32, ∀ _ : (r_4 = if m < 0 then 0 else if (nI M) ≤ m then 0 else 1), ((r_4 = 0 → Post (some (.int (-1))) [(h0, .inr (8, [.ref yt, .int rT, .int 0, .int (nI G), .ref yw, .int (nI K), .ref yp, .ref yg, .int (nI M), .ref yu, .int (nI N), .ref ysl, .ref yin, .ref yse, .ref ysp, .ref ypa, .int rA, .ref yb, .ref ybd, .ref ybc, .ref yr, .int rF, .int rP, .ref ywd, .int rS, .int rN, .int rO, .int rW, .int rL, .int rD, .ref yd, .int rI, .int rX, .int rY, .int rZ, .int rU, .ref yro, .ref yc, .ref ybe, .ref yco, .long rC, .long rV])), (ypa, .inl (g.2.1 1, 80, .inl qa))]) ∧ (¬ r_4 = 0 → vp_in ((8 * x) + m) 80 ∧ ∀ x_8 : Int32, x_8 = (qa ((8 * x) + m).toNatClampNeg) → Post (some (.int x_8)) [(h0, .inr (8, [.ref yt, .int rT, .int 0, .int (nI G), .ref yw, .int (nI K), .ref yp, .ref yg, .int (nI M), .ref yu, .int (nI N), .ref ysl, .ref yin, .ref yse, .ref ysp, .ref ypa, .int rA, .ref yb, .ref ybd, .ref ybc, .ref yr, .int rF, .int rP, .ref ywd, .int rS, .int rN, .int rO, .int rW, .int rL, .int rD, .ref yd, .int rI, .int rX, .int rY, .int rZ, .int rU, .ref yro, .ref yc, .ref ybe, .ref yco, .long rC, .long rV])), (ypa, .inl (g.2.1 1, 80, .inl qa))]))))) : pz_At B 0 0 0 [(0, .ref h0), (1, .int x), (2, .int m)] [] [(h0, .inr (8, [.ref yt, .int rT, .int rH, .int (nI G), .ref yw, .int (nI K), .ref yp, .ref yg, .int (nI M), .ref yu, .int (nI N), .ref ysl, .ref yin, .ref yse, .ref ysp, .ref ypa, .int rA, .ref yb, .ref ybd, .ref ybc, .ref yr, .int rF, .int rP, .ref ywd, .int rS, .int rN, .int rO, .int rW, .int rL, .int rD, .ref yd, .int rI, .int rX, .int rY, .int rZ, .int rU, .ref yro, .ref yc, .ref ybe, .ref yco, .long rC, .long rV])), (ypa, .inl (g.2.1 1, 80, .inl qa))] := by
  refine pz_aload_n 0 F rfl dX9_parts_0 rfl ?_
  refine pz_iconst (v := 0) F dX9_parts_1 rfl ?_
  refine pz_put (ws' := [(h0, .inr (8, [.ref yt, .int rT, .int 0, .int (nI G), .ref yw, .int (nI K), .ref yp, .ref yg, .int (nI M), .ref yu, .int (nI N), .ref ysl, .ref yin, .ref yse, .ref ysp, .ref ypa, .int rA, .ref yb, .ref ybd, .ref ybc, .ref yr, .int rF, .int rP, .ref ywd, .int rS, .int rN, .int rO, .int rW, .int rL, .int rD, .ref yd, .int rI, .int rX, .int rY, .int rZ, .int rU, .ref yro, .ref yc, .ref ybe, .ref yco, .long rC, .long rV])), (ypa, .inl (g.2.1 1, 80, .inl qa))]) (ci := 8) (C := RX9) (T := TX9) (N := 42) (v := .int 0) (ty := .int) 0 F rfl rfl pz_inX9 2 (by decide) pw_810 tyX9_ok nmX9 rfl rfl rfl rfl (Nat.le_of_ble_eq_true rfl) dX9_parts_2 rfl ?_
  refine pz_aload_n 0 F rfl dX9_parts_5 rfl ?_
  refine pz_iload_n 1 F rfl dX9_parts_6 rfl ?_
  refine pz_callV (nA := 1) (ci := 8) (C := RX9) (T := TX9) (N := 42) (As := [.int x]) (rest := []) (wr := [(ypa, .inl (g.2.1 1, 80, .inl qa))]) F (ctX9_isBoulder _ g x h0 yt rT 0 yw yp yg yu ysl yin yse ysp ypa rA yb ybd ybc yr rF rP ywd rS rN rO rW rL rD yd rI rX rY rZ rU yro yc ybe yco rC rV G K M N) 0 rfl rfl pw_1016 pw_1018 pv_37 pw_8 pw_1019 (by decide +kernel) (by decide) (by decide) rfl rfl (Nat.le_of_ble_eq_true rfl) [0] [1] rfl rfl rfl rfl (by decide) dX9_parts_7 (fun r0 w0 hp0 => ?_)
  obtain ⟨r_1, _, rfl, rfl, hq_2⟩ := hp0
  replace vc := vc r_1  hq_2
  refine pz_eq (st' := [.int r_1]) (ws' := [(ypa, .inl (g.2.1 1, 80, .inl qa)), (h0, .inr (8, [.ref yt, .int rT, .int 0, .int (nI G), .ref yw, .int (nI K), .ref yp, .ref yg, .int (nI M), .ref yu, .int (nI N), .ref ysl, .ref yin, .ref yse, .ref ysp, .ref ypa, .int rA, .ref yb, .ref ybd, .ref ybc, .ref yr, .int rF, .int rP, .ref ywd, .int rS, .int rN, .int rO, .int rW, .int rL, .int rD, .ref yd, .int rI, .int rX, .int rY, .int rZ, .int rU, .ref yro, .ref yc, .ref ybe, .ref yco, .long rC, .long rV]))]) rfl rfl ?_
  refine pz_if_eq (tgt := 35) F dX9_parts_10 (by decide) (fun q_3 => ?_) (fun q_3 => ?_)
  · replace vc := vc.1 q_3
    refine pz_iconst (v := (-1)) F dX9_parts_35 rfl ?_
    exact pz_ireturn (w1 := [(h0, .inr (8, [.ref yt, .int rT, .int 0, .int (nI G), .ref yw, .int (nI K), .ref yp, .ref yg, .int (nI M), .ref yu, .int (nI N), .ref ysl, .ref yin, .ref yse, .ref ysp, .ref ypa, .int rA, .ref yb, .ref ybd, .ref ybc, .ref yr, .int rF, .int rP, .ref ywd, .int rS, .int rN, .int rO, .int rW, .int rL, .int rD, .ref yd, .int rI, .int rX, .int rY, .int rZ, .int rU, .ref yro, .ref yc, .ref ybe, .ref yco, .long rC, .long rV])), (ypa, .inl (g.2.1 1, 80, .inl qa))]) F Rt (by decide) (by decide) dX9_parts_36 [1, 0] rfl rfl rfl vc
  · replace vc := vc.2 q_3
    refine pz_aload_n 0 F rfl dX9_parts_13 rfl ?_
    refine pz_iload_n 2 F rfl dX9_parts_14 rfl ?_
    refine pz_callV (nA := 1) (ci := 8) (C := RX9) (T := TX9) (N := 42) (As := [.int m]) (rest := []) (wr := [(ypa, .inl (g.2.1 1, 80, .inl qa))]) F (ctX9_isMan _ g m h0 yt rT 0 yw yp yg yu ysl yin yse ysp ypa rA yb ybd ybc yr rF rP ywd rS rN rO rW rL rD yd rI rX rY rZ rU yro yc ybe yco rC rV G K M N) 1 rfl rfl pw_1004 pw_1006 pv_35 pw_8 pw_1007 (by decide +kernel) (by decide) (by decide) rfl rfl (Nat.le_of_ble_eq_true rfl) [1] [0] rfl rfl rfl rfl (by decide) dX9_parts_15 (fun r0 w0 hp0 => ?_)
    obtain ⟨r_4, _, rfl, rfl, hq_5⟩ := hp0
    replace vc := vc r_4  hq_5
    refine pz_eq (st' := [.int r_4]) (ws' := [(ypa, .inl (g.2.1 1, 80, .inl qa)), (h0, .inr (8, [.ref yt, .int rT, .int 0, .int (nI G), .ref yw, .int (nI K), .ref yp, .ref yg, .int (nI M), .ref yu, .int (nI N), .ref ysl, .ref yin, .ref yse, .ref ysp, .ref ypa, .int rA, .ref yb, .ref ybd, .ref ybc, .ref yr, .int rF, .int rP, .ref ywd, .int rS, .int rN, .int rO, .int rW, .int rL, .int rD, .ref yd, .int rI, .int rX, .int rY, .int rZ, .int rU, .ref yro, .ref yc, .ref ybe, .ref yco, .long rC, .long rV]))]) rfl rfl ?_
    refine pz_if_eq (tgt := 35) F dX9_parts_18 (by decide) (fun q_6 => ?_) (fun q_6 => ?_)
    · replace vc := vc.1 q_6
      refine pz_iconst (v := (-1)) F dX9_parts_35 rfl ?_
      exact pz_ireturn (w1 := [(h0, .inr (8, [.ref yt, .int rT, .int 0, .int (nI G), .ref yw, .int (nI K), .ref yp, .ref yg, .int (nI M), .ref yu, .int (nI N), .ref ysl, .ref yin, .ref yse, .ref ysp, .ref ypa, .int rA, .ref yb, .ref ybd, .ref ybc, .ref yr, .int rF, .int rP, .ref ywd, .int rS, .int rN, .int rO, .int rW, .int rL, .int rD, .ref yd, .int rI, .int rX, .int rY, .int rZ, .int rU, .ref yro, .ref yc, .ref ybe, .ref yco, .long rC, .long rV])), (ypa, .inl (g.2.1 1, 80, .inl qa))]) F Rt (by decide) (by decide) dX9_parts_36 [1, 0] rfl rfl rfl vc
    · replace vc := vc.2 q_6
      refine pz_aload_n 0 F rfl dX9_parts_21 rfl ?_
      refine pz_get (ci := 8) (C := RX9) (T := TX9) (N := 42) (v := .ref ypa) 1 F rfl rfl pz_inX9 15 (by decide) pw_823 rfl dX9_parts_22 ?_
      refine pz_bipush (v := 8) F dX9_parts_25 rfl ?_
      refine pz_iload_n 1 F rfl dX9_parts_27 rfl ?_
      refine pz_imul F dX9_parts_28 ?_
      refine pz_iload_n 2 F rfl dX9_parts_29 rfl ?_
      refine pz_iadd F dX9_parts_30 ?_
      obtain ⟨h_7, vc⟩ := vc
      refine pz_iaload 0 F rfl h_7 dX9_parts_31 ?_
      refine pz_goto (tgt := 36) F dX9_parts_32 (by decide) ?_
      refine pz_topi (fun x_8 ex_8 => ?_)
      replace vc := vc x_8 ex_8
      exact pz_ireturn (w1 := [(h0, .inr (8, [.ref yt, .int rT, .int 0, .int (nI G), .ref yw, .int (nI K), .ref yp, .ref yg, .int (nI M), .ref yu, .int (nI N), .ref ysl, .ref yin, .ref yse, .ref ysp, .ref ypa, .int rA, .ref yb, .ref ybd, .ref ybc, .ref yr, .int rF, .int rP, .ref ywd, .int rS, .int rN, .int rO, .int rW, .int rL, .int rD, .ref yd, .int rI, .int rX, .int rY, .int rZ, .int rU, .ref yro, .ref yc, .ref ybe, .ref yco, .long rC, .long rV])), (ypa, .inl (g.2.1 1, 80, .inl qa))]) F Rt (by decide) (by decide) dX9_parts_36 [1, 0] rfl rfl rfl vc
set_option maxHeartbeats 4000000 in
set_option maxRecDepth 100000 in
theorem ctX9_parts (l : Launch) (g : pz_G) (x : Int32) (m : Int32) (h0 : Nat) (yt : Nat) (rT : Int32) (rH : Int32) (yw : Nat) (yp : Nat) (yg : Nat) (yu : Nat) (ysl : Nat) (yin : Nat) (yse : Nat) (ysp : Nat) (ypa : Nat) (rA : Int32) (yb : Nat) (ybd : Nat) (ybc : Nat) (yr : Nat) (rF : Int32) (rP : Int32) (ywd : Nat) (rS : Int32) (rN : Int32) (rO : Int32) (rW : Int32) (rL : Int32) (rD : Int32) (yd : Nat) (rI : Int32) (rX : Int32) (rY : Int32) (rZ : Int32) (rU : Int32) (yro : Nat) (yc : Nat) (ybe : Nat) (yco : Nat) (rC : Int64) (rV : Int64) (qa : Nat → Int32) (G : Nat) (K : Nat) (M : Nat) (N : Nat) (hpre : M ≤ 8 ∧ N ≤ 10) : pz_Ct l g yX9_parts cX9_parts 3 (some .int) rmX9_parts [.ref h0, .int x, .int m] [(h0, .inr (8, [.ref yt, .int rT, .int rH, .int (nI G), .ref yw, .int (nI K), .ref yp, .ref yg, .int (nI M), .ref yu, .int (nI N), .ref ysl, .ref yin, .ref yse, .ref ysp, .ref ypa, .int rA, .ref yb, .ref ybd, .ref ybc, .ref yr, .int rF, .int rP, .ref ywd, .int rS, .int rN, .int rO, .int rW, .int rL, .int rD, .ref yd, .int rI, .int rX, .int rY, .int rZ, .int rU, .ref yro, .ref yc, .ref ybe, .ref yco, .long rC, .long rV])), (ypa, .inl (g.2.1 1, 80, .inl qa))] (pz_pi (fun (r : Int32) (u : Unit) => (hs_in x N ∧ hs_in m M ∧ r = qa (8 * x.toNatClampNeg + m.toNatClampNeg)) ∨ (¬ (hs_in x N ∧ hs_in m M) ∧ r = -1)) (fun (u : Unit) => [(h0, .inr (8, [.ref yt, .int rT, .int 0, .int (nI G), .ref yw, .int (nI K), .ref yp, .ref yg, .int (nI M), .ref yu, .int (nI N), .ref ysl, .ref yin, .ref yse, .ref ysp, .ref ypa, .int rA, .ref yb, .ref ybd, .ref ybc, .ref yr, .int rF, .int rP, .ref ywd, .int rS, .int rN, .int rO, .int rW, .int rL, .int rD, .ref yd, .int rI, .int rX, .int rY, .int rZ, .int rU, .ref yro, .ref yc, .ref ybe, .ref yco, .long rC, .long rV])), (ypa, .inl (g.2.1 1, 80, .inl qa))])) := by
  refine pz_ofAt (by decide +kernel) (Nat.le_of_ble_eq_true rfl) (fun B F Rt hme => ?_)
  obtain ⟨hM, hN⟩ := hpre
  refine sgX9_parts_0 F Rt x m h0 yt rT rH yw yp yg yu ysl yin yse ysp ypa rA yb ybd ybc yr rF rP ywd rS rN rO rW rL rD yd rI rX rY rZ rU yro yc ybe yco rC rV qa G K M N ?_
  clear F Rt hme
  intro r1 h1
  rcases hs_of h1 with ⟨i1, rfl⟩ | ⟨i1, rfl⟩
  · refine ⟨fun q => absurd q (by decide), fun _ r2 h2 => ?_⟩
    rcases hs_of h2 with ⟨i2, rfl⟩ | ⟨i2, rfl⟩
    · obtain ⟨v, hv, ev⟩ := hs_nI (by omega) i1
      obtain ⟨u, hu, eu⟩ := hs_nI (by omega) i2
      refine ⟨fun q => absurd q (by decide), fun _ => ?_⟩
      rw [ev, eu, pu_8]
      refine ⟨vp_in_nI (by omega) (by omega), ?_⟩
      rintro x rfl
      refine ⟨_, (), rfl, rfl, Or.inl ⟨ev ▸ i1, eu ▸ i2, ?_⟩⟩
      rw [nI_clamp (by omega), nI_clamp (by omega), nI_clamp (by omega)]
    · exact ⟨fun q => ⟨_, (), rfl, rfl, Or.inr ⟨fun h => i2 h.2, rfl⟩⟩, fun q => absurd rfl q⟩
  · exact ⟨fun q => ⟨_, (), rfl, rfl, Or.inr ⟨fun h => i1 h.1, rfl⟩⟩, fun q => absurd rfl q⟩
abbrev rmX9_gradeAt : Room := { frames := 0, cells := 0, slots := 0, locals := 0 }
set_option maxHeartbeats 4000000 in
set_option maxRecDepth 100000 in
theorem sgX9_gradeAt_0 {B : pz_B} {g : pz_G} {wc : va_W} {Post : Option Value → va_W → Prop} (F : pz_F B cX9_gradeAt 3 (some .int) yX9_gradeAt.cls g rmX9_gradeAt) (Rt : pz_Rt B g wc Post rmX9_gradeAt) (s : Int32) (h0 : Nat) (yt : Nat) (rT : Int32) (rH : Int32) (yw : Nat) (yp : Nat) (yg : Nat) (yu : Nat) (ysl : Nat) (yin : Nat) (yse : Nat) (ysp : Nat) (ypa : Nat) (rA : Int32) (yb : Nat) (ybd : Nat) (ybc : Nat) (yr : Nat) (rF : Int32) (rP : Int32) (ywd : Nat) (rS : Int32) (rN : Int32) (rO : Int32) (rW : Int32) (rL : Int32) (rD : Int32) (yd : Nat) (rI : Int32) (rX : Int32) (rY : Int32) (rZ : Int32) (rU : Int32) (yro : Nat) (yc : Nat) (ybe : Nat) (yco : Nat) (rC : Int64) (rV : Int64) (qi : Nat → Int32) (G : Nat) (K : Nat) (M : Nat) (N : Nat) (b : Nat)  (vc : vp_in (nI b) 10 ∧ ∀ x_2 : Int32, x_2 = (((qi (nI b).toNatClampNeg) >>> ((2 * s) &&& 31)) &&& 3) → Post (some (.int x_2)) [(h0, .inr (8, [.ref yt, .int rT, .int rH, .int (nI G), .ref yw, .int (nI K), .ref yp, .ref yg, .int (nI M), .ref yu, .int (nI N), .ref ysl, .ref yin, .ref yse, .ref ysp, .ref ypa, .int rA, .ref yb, .ref ybd, .ref ybc, .ref yr, .int rF, .int rP, .ref ywd, .int rS, .int rN, .int rO, .int rW, .int rL, .int rD, .ref yd, .int rI, .int rX, .int rY, .int rZ, .int rU, .ref yro, .ref yc, .ref ybe, .ref yco, .long rC, .long rV])), (yin, .inl (g.2.1 1, 10, .inl qi))]) : pz_At B 0 0 0 [(0, .ref h0), (1, .int (nI b)), (2, .int s)] [] [(h0, .inr (8, [.ref yt, .int rT, .int rH, .int (nI G), .ref yw, .int (nI K), .ref yp, .ref yg, .int (nI M), .ref yu, .int (nI N), .ref ysl, .ref yin, .ref yse, .ref ysp, .ref ypa, .int rA, .ref yb, .ref ybd, .ref ybc, .ref yr, .int rF, .int rP, .ref ywd, .int rS, .int rN, .int rO, .int rW, .int rL, .int rD, .ref yd, .int rI, .int rX, .int rY, .int rZ, .int rU, .ref yro, .ref yc, .ref ybe, .ref yco, .long rC, .long rV])), (yin, .inl (g.2.1 1, 10, .inl qi))] := by
  refine pz_aload_n 0 F rfl dX9_gradeAt_0 rfl ?_
  refine pz_get (ci := 8) (C := RX9) (T := TX9) (N := 42) (v := .ref yin) 0 F rfl rfl pz_inX9 12 (by decide) pw_820 rfl dX9_gradeAt_1 ?_
  refine pz_iload_n 1 F rfl dX9_gradeAt_4 rfl ?_
  obtain ⟨h_1, vc⟩ := vc
  refine pz_iaload 1 F rfl h_1 dX9_gradeAt_5 ?_
  refine pz_iconst (v := 2) F dX9_gradeAt_6 rfl ?_
  refine pz_iload_n 2 F rfl dX9_gradeAt_7 rfl ?_
  refine pz_imul F dX9_gradeAt_8 ?_
  refine pz_ishr F dX9_gradeAt_9 ?_
  refine pz_iconst (v := 3) F dX9_gradeAt_10 rfl ?_
  refine pz_iand F dX9_gradeAt_11 ?_
  refine pz_topi (fun x_2 ex_2 => ?_)
  replace vc := vc x_2 ex_2
  exact pz_ireturn (w1 := [(h0, .inr (8, [.ref yt, .int rT, .int rH, .int (nI G), .ref yw, .int (nI K), .ref yp, .ref yg, .int (nI M), .ref yu, .int (nI N), .ref ysl, .ref yin, .ref yse, .ref ysp, .ref ypa, .int rA, .ref yb, .ref ybd, .ref ybc, .ref yr, .int rF, .int rP, .ref ywd, .int rS, .int rN, .int rO, .int rW, .int rL, .int rD, .ref yd, .int rI, .int rX, .int rY, .int rZ, .int rU, .ref yro, .ref yc, .ref ybe, .ref yco, .long rC, .long rV])), (yin, .inl (g.2.1 1, 10, .inl qi))]) F Rt (by decide) (by decide) dX9_gradeAt_12 [0, 1] rfl rfl rfl vc
set_option maxHeartbeats 4000000 in
set_option maxRecDepth 100000 in
theorem ctX9_gradeAt (l : Launch) (g : pz_G) (s : Int32) (h0 : Nat) (yt : Nat) (rT : Int32) (rH : Int32) (yw : Nat) (yp : Nat) (yg : Nat) (yu : Nat) (ysl : Nat) (yin : Nat) (yse : Nat) (ysp : Nat) (ypa : Nat) (rA : Int32) (yb : Nat) (ybd : Nat) (ybc : Nat) (yr : Nat) (rF : Int32) (rP : Int32) (ywd : Nat) (rS : Int32) (rN : Int32) (rO : Int32) (rW : Int32) (rL : Int32) (rD : Int32) (yd : Nat) (rI : Int32) (rX : Int32) (rY : Int32) (rZ : Int32) (rU : Int32) (yro : Nat) (yc : Nat) (ybe : Nat) (yco : Nat) (rC : Int64) (rV : Int64) (qi : Nat → Int32) (G : Nat) (K : Nat) (M : Nat) (N : Nat) (b : Nat) (hpre : b < 10) : pz_Ct l g yX9_gradeAt cX9_gradeAt 3 (some .int) rmX9_gradeAt [.ref h0, .int (nI b), .int s] [(h0, .inr (8, [.ref yt, .int rT, .int rH, .int (nI G), .ref yw, .int (nI K), .ref yp, .ref yg, .int (nI M), .ref yu, .int (nI N), .ref ysl, .ref yin, .ref yse, .ref ysp, .ref ypa, .int rA, .ref yb, .ref ybd, .ref ybc, .ref yr, .int rF, .int rP, .ref ywd, .int rS, .int rN, .int rO, .int rW, .int rL, .int rD, .ref yd, .int rI, .int rX, .int rY, .int rZ, .int rU, .ref yro, .ref yc, .ref ybe, .ref yco, .long rC, .long rV])), (yin, .inl (g.2.1 1, 10, .inl qi))] (pz_pi (fun (r : Int32) (u : Unit) => r = pu_gi (qi b) s) (fun (u : Unit) => [(h0, .inr (8, [.ref yt, .int rT, .int rH, .int (nI G), .ref yw, .int (nI K), .ref yp, .ref yg, .int (nI M), .ref yu, .int (nI N), .ref ysl, .ref yin, .ref yse, .ref ysp, .ref ypa, .int rA, .ref yb, .ref ybd, .ref ybc, .ref yr, .int rF, .int rP, .ref ywd, .int rS, .int rN, .int rO, .int rW, .int rL, .int rD, .ref yd, .int rI, .int rX, .int rY, .int rZ, .int rU, .ref yro, .ref yc, .ref ybe, .ref yco, .long rC, .long rV])), (yin, .inl (g.2.1 1, 10, .inl qi))])) := by
  refine pz_ofAt (by decide +kernel) (Nat.le_of_ble_eq_true rfl) (fun B F Rt hme => ?_)
  refine sgX9_gradeAt_0 F Rt s h0 yt rT rH yw yp yg yu ysl yin yse ysp ypa rA yb ybd ybc yr rF rP ywd rS rN rO rW rL rD yd rI rX rY rZ rU yro yc ybe yco rC rV qi G K M N b ?_
  clear F Rt hme
  refine ⟨vp_in_nI hpre (by omega), ?_⟩
  rw [nI_clamp (by omega)]
  rintro x rfl
  exact ⟨_, (), rfl, rfl, rfl⟩
abbrev rmX9_offerOf : Room := { frames := 0, cells := 0, slots := 0, locals := 0 }
set_option maxHeartbeats 4000000 in
set_option maxRecDepth 100000 in
theorem sgX9_offerOf_0 {B : pz_B} {g : pz_G} {wc : va_W} {Post : Option Value → va_W → Prop} (F : pz_F B cX9_offerOf 2 (some .int) yX9_offerOf.cls g rmX9_offerOf) (Rt : pz_Rt B g wc Post rmX9_offerOf) (z : Int32) (h0 : Nat) (yt : Nat) (rT : Int32) (rH : Int32) (yw : Nat) (yp : Nat) (yg : Nat) (yu : Nat) (ysl : Nat) (yin : Nat) (yse : Nat) (ysp : Nat) (ypa : Nat) (rA : Int32) (yb : Nat) (ybd : Nat) (ybc : Nat) (yr : Nat) (rF : Int32) (rP : Int32) (ywd : Nat) (rS : Int32) (rN : Int32) (rO : Int32) (rW : Int32) (rL : Int32) (rD : Int32) (yd : Nat) (rI : Int32) (rX : Int32) (rY : Int32) (rZ : Int32) (rU : Int32) (yro : Nat) (yc : Nat) (ybe : Nat) (yco : Nat) (rC : Int64) (rV : Int64) (qr : Nat → Int32) (G : Nat) (K : Nat) (M : Nat) (N : Nat)  (vc : (((0 : Int32) ≤ z → vp_in (8 + z) 24 ∧ ∀ x_3 : Int32, x_3 = (qr (8 + z).toNatClampNeg) → Post (some (.int x_3)) [(h0, .inr (8, [.ref yt, .int rT, .int rH, .int (nI G), .ref yw, .int (nI K), .ref yp, .ref yg, .int (nI M), .ref yu, .int (nI N), .ref ysl, .ref yin, .ref yse, .ref ysp, .ref ypa, .int rA, .ref yb, .ref ybd, .ref ybc, .ref yr, .int rF, .int rP, .ref ywd, .int rS, .int rN, .int rO, .int rW, .int rL, .int rD, .ref yd, .int rI, .int rX, .int rY, .int rZ, .int rU, .ref yro, .ref yc, .ref ybe, .ref yco, .long rC, .long rV])), (yr, .inl (g.2.1 1, 24, .inl qr))]) ∧ (¬ (0 : Int32) ≤ z → vp_in 7 24 ∧ ∀ x_5 : Int32, x_5 = (qr (7 : Int32).toNatClampNeg) → Post (some (.int x_5)) [(h0, .inr (8, [.ref yt, .int rT, .int rH, .int (nI G), .ref yw, .int (nI K), .ref yp, .ref yg, .int (nI M), .ref yu, .int (nI N), .ref ysl, .ref yin, .ref yse, .ref ysp, .ref ypa, .int rA, .ref yb, .ref ybd, .ref ybc, .ref yr, .int rF, .int rP, .ref ywd, .int rS, .int rN, .int rO, .int rW, .int rL, .int rD, .ref yd, .int rI, .int rX, .int rY, .int rZ, .int rU, .ref yro, .ref yc, .ref ybe, .ref yco, .long rC, .long rV])), (yr, .inl (g.2.1 1, 24, .inl qr))]))) : pz_At B 0 0 0 [(0, .ref h0), (1, .int z)] [] [(h0, .inr (8, [.ref yt, .int rT, .int rH, .int (nI G), .ref yw, .int (nI K), .ref yp, .ref yg, .int (nI M), .ref yu, .int (nI N), .ref ysl, .ref yin, .ref yse, .ref ysp, .ref ypa, .int rA, .ref yb, .ref ybd, .ref ybc, .ref yr, .int rF, .int rP, .ref ywd, .int rS, .int rN, .int rO, .int rW, .int rL, .int rD, .ref yd, .int rI, .int rX, .int rY, .int rZ, .int rU, .ref yro, .ref yc, .ref ybe, .ref yco, .long rC, .long rV])), (yr, .inl (g.2.1 1, 24, .inl qr))] := by
  refine pz_iload_n 1 F rfl dX9_offerOf_0 rfl ?_
  refine pz_if_ge (tgt := 14) F dX9_offerOf_1 (by decide) (fun q_1 => ?_) (fun q_1 => ?_)
  · replace vc := vc.1 q_1
    refine pz_aload_n 0 F rfl dX9_offerOf_14 rfl ?_
    refine pz_get (ci := 8) (C := RX9) (T := TX9) (N := 42) (v := .ref yr) 0 F rfl rfl pz_inX9 20 (by decide) pw_828 rfl dX9_offerOf_15 ?_
    refine pz_bipush (v := 8) F dX9_offerOf_18 rfl ?_
    refine pz_iload_n 1 F rfl dX9_offerOf_20 rfl ?_
    refine pz_iadd F dX9_offerOf_21 ?_
    obtain ⟨h_2, vc⟩ := vc
    refine pz_iaload 1 F rfl h_2 dX9_offerOf_22 ?_
    refine pz_topi (fun x_3 ex_3 => ?_)
    replace vc := vc x_3 ex_3
    exact pz_ireturn (w1 := [(h0, .inr (8, [.ref yt, .int rT, .int rH, .int (nI G), .ref yw, .int (nI K), .ref yp, .ref yg, .int (nI M), .ref yu, .int (nI N), .ref ysl, .ref yin, .ref yse, .ref ysp, .ref ypa, .int rA, .ref yb, .ref ybd, .ref ybc, .ref yr, .int rF, .int rP, .ref ywd, .int rS, .int rN, .int rO, .int rW, .int rL, .int rD, .ref yd, .int rI, .int rX, .int rY, .int rZ, .int rU, .ref yro, .ref yc, .ref ybe, .ref yco, .long rC, .long rV])), (yr, .inl (g.2.1 1, 24, .inl qr))]) F Rt (by decide) (by decide) dX9_offerOf_23 [0, 1] rfl rfl rfl vc
  · replace vc := vc.2 q_1
    refine pz_aload_n 0 F rfl dX9_offerOf_4 rfl ?_
    refine pz_get (ci := 8) (C := RX9) (T := TX9) (N := 42) (v := .ref yr) 0 F rfl rfl pz_inX9 20 (by decide) pw_828 rfl dX9_offerOf_5 ?_
    refine pz_bipush (v := 7) F dX9_offerOf_8 rfl ?_
    obtain ⟨h_4, vc⟩ := vc
    refine pz_iaload 1 F rfl h_4 dX9_offerOf_10 ?_
    refine pz_goto (tgt := 23) F dX9_offerOf_11 (by decide) ?_
    refine pz_topi (fun x_5 ex_5 => ?_)
    replace vc := vc x_5 ex_5
    exact pz_ireturn (w1 := [(h0, .inr (8, [.ref yt, .int rT, .int rH, .int (nI G), .ref yw, .int (nI K), .ref yp, .ref yg, .int (nI M), .ref yu, .int (nI N), .ref ysl, .ref yin, .ref yse, .ref ysp, .ref ypa, .int rA, .ref yb, .ref ybd, .ref ybc, .ref yr, .int rF, .int rP, .ref ywd, .int rS, .int rN, .int rO, .int rW, .int rL, .int rD, .ref yd, .int rI, .int rX, .int rY, .int rZ, .int rU, .ref yro, .ref yc, .ref ybe, .ref yco, .long rC, .long rV])), (yr, .inl (g.2.1 1, 24, .inl qr))]) F Rt (by decide) (by decide) dX9_offerOf_23 [0, 1] rfl rfl rfl vc
set_option maxHeartbeats 4000000 in
set_option maxRecDepth 100000 in
theorem ctX9_offerOf (l : Launch) (g : pz_G) (z : Int32) (h0 : Nat) (yt : Nat) (rT : Int32) (rH : Int32) (yw : Nat) (yp : Nat) (yg : Nat) (yu : Nat) (ysl : Nat) (yin : Nat) (yse : Nat) (ysp : Nat) (ypa : Nat) (rA : Int32) (yb : Nat) (ybd : Nat) (ybc : Nat) (yr : Nat) (rF : Int32) (rP : Int32) (ywd : Nat) (rS : Int32) (rN : Int32) (rO : Int32) (rW : Int32) (rL : Int32) (rD : Int32) (yd : Nat) (rI : Int32) (rX : Int32) (rY : Int32) (rZ : Int32) (rU : Int32) (yro : Nat) (yc : Nat) (ybe : Nat) (yco : Nat) (rC : Int64) (rV : Int64) (qr : Nat → Int32) (G : Nat) (K : Nat) (M : Nat) (N : Nat) (hpre : z < 4) : pz_Ct l g yX9_offerOf cX9_offerOf 2 (some .int) rmX9_offerOf [.ref h0, .int z] [(h0, .inr (8, [.ref yt, .int rT, .int rH, .int (nI G), .ref yw, .int (nI K), .ref yp, .ref yg, .int (nI M), .ref yu, .int (nI N), .ref ysl, .ref yin, .ref yse, .ref ysp, .ref ypa, .int rA, .ref yb, .ref ybd, .ref ybc, .ref yr, .int rF, .int rP, .ref ywd, .int rS, .int rN, .int rO, .int rW, .int rL, .int rD, .ref yd, .int rI, .int rX, .int rY, .int rZ, .int rU, .ref yro, .ref yc, .ref ybe, .ref yco, .long rC, .long rV])), (yr, .inl (g.2.1 1, 24, .inl qr))] (pz_pi (fun (r : Int32) (u : Unit) => r = of_b qr z) (fun (u : Unit) => [(h0, .inr (8, [.ref yt, .int rT, .int rH, .int (nI G), .ref yw, .int (nI K), .ref yp, .ref yg, .int (nI M), .ref yu, .int (nI N), .ref ysl, .ref yin, .ref yse, .ref ysp, .ref ypa, .int rA, .ref yb, .ref ybd, .ref ybc, .ref yr, .int rF, .int rP, .ref ywd, .int rS, .int rN, .int rO, .int rW, .int rL, .int rD, .ref yd, .int rI, .int rX, .int rY, .int rZ, .int rU, .ref yro, .ref yc, .ref ybe, .ref yco, .long rC, .long rV])), (yr, .inl (g.2.1 1, 24, .inl qr))])) := by
  refine pz_ofAt (by decide +kernel) (Nat.le_of_ble_eq_true rfl) (fun B F Rt hme => ?_)
  refine sgX9_offerOf_0 F Rt z h0 yt rT rH yw yp yg yu ysl yin yse ysp ypa rA yb ybd ybc yr rF rP ywd rS rN rO rW rL rD yd rI rX rY rZ rU yro yc ybe yco rC rV qr G K M N ?_
  clear F Rt hme
  refine ⟨fun q => ?_, fun q => ⟨vp_in_nI (n := 7) (N := 24) (by omega) (by omega), ?_⟩⟩
  · have q' := Int32.not_lt.mpr q
    obtain ⟨v, hv, ev⟩ := hs_nI (M := 4) (by omega) ⟨q', hpre⟩
    have e8 : (8 : Int32) + nI v = nI (8 + v) := nI_add 8 v
    rw [ev, e8]
    refine ⟨vp_in_nI (by omega) (by omega), ?_⟩
    rintro x rfl
    refine ⟨_, (), rfl, rfl, ?_⟩
    unfold of_b
    rw [← ev, if_neg q', ev, nI_clamp (by omega), nI_clamp (by omega)]
  · rintro x rfl
    exact ⟨_, (), rfl, rfl, by unfold of_b; rw [if_pos (Int32.not_le.mp q)]; rfl⟩
abbrev rmX9_lastOf : Room := { frames := 1, cells := 0, slots := 0, locals := 22 }
set_option maxHeartbeats 4000000 in
set_option maxRecDepth 100000 in
theorem sgX9_lastOf_0 {B : pz_B} {g : pz_G} {wc : va_W} {Post : Option Value → va_W → Prop} (F : pz_F B cX9_lastOf 2 (some .int) yX9_lastOf.cls g rmX9_lastOf) (Rt : pz_Rt B g wc Post rmX9_lastOf) (h0 : Nat) (yt : Nat) (rT : Int32) (rH : Int32) (yw : Nat) (yp : Nat) (yg : Nat) (yu : Nat) (ysl : Nat) (yin : Nat) (yse : Nat) (ysp : Nat) (ypa : Nat) (rA : Int32) (yb : Nat) (ybd : Nat) (ybc : Nat) (yr : Nat) (rF : Int32) (rP : Int32) (ywd : Nat) (rS : Int32) (rN : Int32) (rO : Int32) (rW : Int32) (rL : Int32) (rD : Int32) (yd : Nat) (rI : Int32) (rX : Int32) (rY : Int32) (rZ : Int32) (rU : Int32) (yro : Nat) (yc : Nat) (ybe : Nat) (yco : Nat) (rC : Int64) (rV : Int64) (qe : Nat → Int32) (qi : Nat → Int32) (G : Nat) (K : Nat) (M : Nat) (N : Nat) (b : Nat)  (vc : vp_in (nI b) 10 ∧ ((¬ (qe (nI b).toNatClampNeg) = 0 → vp_in (nI b) 10 ∧ (b < 10) ∧ ∀ r_5 : Int32, ∀ _ : (r_5 = pu_gi (qi b) ((qe (nI b).toNatClampNeg) - 1)), Post (some (.int r_5)) [(h0, .inr (8, [.ref yt, .int rT, .int rH, .int (nI G), .ref yw, .int (nI K), .ref yp, .ref yg, .int (nI M), .ref yu, .int (nI N), .ref ysl, .ref yin, .ref yse, .ref ysp, .ref ypa, .int rA, .ref yb, .ref ybd, .ref ybc, .ref yr, .int rF, .int rP, .ref ywd, .int rS, .int rN, .int rO, .int rW, .int rL, .int rD, .ref yd, .int rI, .int rX, .int rY, .int rZ, .int rU, .ref yro, .ref yc, .ref ybe, .ref yco, .long rC, .long rV])), (yse, .inl (g.2.1 1, 10, .inl qe)), (yin, .inl (g.2.1 1, 10, .inl qi))]) ∧ ((qe (nI b).toNatClampNeg) = 0 → Post (some (.int (-1))) [(h0, .inr (8, [.ref yt, .int rT, .int rH, .int (nI G), .ref yw, .int (nI K), .ref yp, .ref yg, .int (nI M), .ref yu, .int (nI N), .ref ysl, .ref yin, .ref yse, .ref ysp, .ref ypa, .int rA, .ref yb, .ref ybd, .ref ybc, .ref yr, .int rF, .int rP, .ref ywd, .int rS, .int rN, .int rO, .int rW, .int rL, .int rD, .ref yd, .int rI, .int rX, .int rY, .int rZ, .int rU, .ref yro, .ref yc, .ref ybe, .ref yco, .long rC, .long rV])), (yse, .inl (g.2.1 1, 10, .inl qe)), (yin, .inl (g.2.1 1, 10, .inl qi))]))) : pz_At B 0 0 0 [(0, .ref h0), (1, .int (nI b))] [] [(h0, .inr (8, [.ref yt, .int rT, .int rH, .int (nI G), .ref yw, .int (nI K), .ref yp, .ref yg, .int (nI M), .ref yu, .int (nI N), .ref ysl, .ref yin, .ref yse, .ref ysp, .ref ypa, .int rA, .ref yb, .ref ybd, .ref ybc, .ref yr, .int rF, .int rP, .ref ywd, .int rS, .int rN, .int rO, .int rW, .int rL, .int rD, .ref yd, .int rI, .int rX, .int rY, .int rZ, .int rU, .ref yro, .ref yc, .ref ybe, .ref yco, .long rC, .long rV])), (yse, .inl (g.2.1 1, 10, .inl qe)), (yin, .inl (g.2.1 1, 10, .inl qi))] := by
  refine pz_aload_n 0 F rfl dX9_lastOf_0 rfl ?_
  refine pz_get (ci := 8) (C := RX9) (T := TX9) (N := 42) (v := .ref yse) 0 F rfl rfl pz_inX9 13 (by decide) pw_821 rfl dX9_lastOf_1 ?_
  refine pz_iload_n 1 F rfl dX9_lastOf_4 rfl ?_
  obtain ⟨h_1, vc⟩ := vc
  refine pz_iaload 1 F rfl h_1 dX9_lastOf_5 ?_
  refine pz_if_ne (tgt := 13) F dX9_lastOf_6 (by decide) (fun q_2 => ?_) (fun q_2 => ?_)
  · replace vc := vc.1 q_2
    refine pz_aload_n 0 F rfl dX9_lastOf_13 rfl ?_
    refine pz_iload_n 1 F rfl dX9_lastOf_14 rfl ?_
    refine pz_aload_n 0 F rfl dX9_lastOf_15 rfl ?_
    refine pz_get (ci := 8) (C := RX9) (T := TX9) (N := 42) (v := .ref yse) 0 F rfl rfl pz_inX9 13 (by decide) pw_821 rfl dX9_lastOf_16 ?_
    refine pz_iload_n 1 F rfl dX9_lastOf_19 rfl ?_
    obtain ⟨h_3, vc⟩ := vc
    refine pz_iaload 1 F rfl h_3 dX9_lastOf_20 ?_
    refine pz_iconst (v := 1) F dX9_lastOf_21 rfl ?_
    refine pz_isub F dX9_lastOf_22 ?_
    obtain ⟨h_4, vc⟩ := vc
    refine pz_callV (nA := 2) (ci := 8) (C := RX9) (T := TX9) (N := 42) (As := [.int (nI b), .int ((qe (nI b).toNatClampNeg) - 1)]) (rest := []) (wr := [(yse, .inl (g.2.1 1, 10, .inl qe))]) F (ctX9_gradeAt _ g ((qe (nI b).toNatClampNeg) - 1) h0 yt rT rH yw yp yg yu ysl yin yse ysp ypa rA yb ybd ybc yr rF rP ywd rS rN rO rW rL rD yd rI rX rY rZ rU yro yc ybe yco rC rV qi G K M N b h_4) 0 rfl rfl pw_1060 pw_1062 pv_43 pw_8 pw_1063 (by decide +kernel) (by decide) (by decide) rfl rfl (Nat.le_of_ble_eq_true rfl) [0, 2] [1] rfl rfl rfl rfl (by decide) dX9_lastOf_23 (fun r0 w0 hp0 => ?_)
    obtain ⟨r_5, _, rfl, rfl, hq_6⟩ := hp0
    replace vc := vc r_5  hq_6
    refine pz_eq (st' := [.int r_5]) (ws' := [(yse, .inl (g.2.1 1, 10, .inl qe)), (h0, .inr (8, [.ref yt, .int rT, .int rH, .int (nI G), .ref yw, .int (nI K), .ref yp, .ref yg, .int (nI M), .ref yu, .int (nI N), .ref ysl, .ref yin, .ref yse, .ref ysp, .ref ypa, .int rA, .ref yb, .ref ybd, .ref ybc, .ref yr, .int rF, .int rP, .ref ywd, .int rS, .int rN, .int rO, .int rW, .int rL, .int rD, .ref yd, .int rI, .int rX, .int rY, .int rZ, .int rU, .ref yro, .ref yc, .ref ybe, .ref yco, .long rC, .long rV])), (yin, .inl (g.2.1 1, 10, .inl qi))]) rfl rfl ?_
    exact pz_ireturn (w1 := [(h0, .inr (8, [.ref yt, .int rT, .int rH, .int (nI G), .ref yw, .int (nI K), .ref yp, .ref yg, .int (nI M), .ref yu, .int (nI N), .ref ysl, .ref yin, .ref yse, .ref ysp, .ref ypa, .int rA, .ref yb, .ref ybd, .ref ybc, .ref yr, .int rF, .int rP, .ref ywd, .int rS, .int rN, .int rO, .int rW, .int rL, .int rD, .ref yd, .int rI, .int rX, .int rY, .int rZ, .int rU, .ref yro, .ref yc, .ref ybe, .ref yco, .long rC, .long rV])), (yse, .inl (g.2.1 1, 10, .inl qe)), (yin, .inl (g.2.1 1, 10, .inl qi))]) F Rt (by decide) (by decide) dX9_lastOf_26 [1, 0, 2] rfl rfl rfl vc
  · replace vc := vc.2 q_2
    refine pz_iconst (v := (-1)) F dX9_lastOf_9 rfl ?_
    refine pz_goto (tgt := 26) F dX9_lastOf_10 (by decide) ?_
    exact pz_ireturn (w1 := [(h0, .inr (8, [.ref yt, .int rT, .int rH, .int (nI G), .ref yw, .int (nI K), .ref yp, .ref yg, .int (nI M), .ref yu, .int (nI N), .ref ysl, .ref yin, .ref yse, .ref ysp, .ref ypa, .int rA, .ref yb, .ref ybd, .ref ybc, .ref yr, .int rF, .int rP, .ref ywd, .int rS, .int rN, .int rO, .int rW, .int rL, .int rD, .ref yd, .int rI, .int rX, .int rY, .int rZ, .int rU, .ref yro, .ref yc, .ref ybe, .ref yco, .long rC, .long rV])), (yse, .inl (g.2.1 1, 10, .inl qe)), (yin, .inl (g.2.1 1, 10, .inl qi))]) F Rt (by decide) (by decide) dX9_lastOf_26 [0, 1, 2] rfl rfl rfl vc
set_option maxHeartbeats 4000000 in
set_option maxRecDepth 100000 in
theorem ctX9_lastOf (l : Launch) (g : pz_G) (h0 : Nat) (yt : Nat) (rT : Int32) (rH : Int32) (yw : Nat) (yp : Nat) (yg : Nat) (yu : Nat) (ysl : Nat) (yin : Nat) (yse : Nat) (ysp : Nat) (ypa : Nat) (rA : Int32) (yb : Nat) (ybd : Nat) (ybc : Nat) (yr : Nat) (rF : Int32) (rP : Int32) (ywd : Nat) (rS : Int32) (rN : Int32) (rO : Int32) (rW : Int32) (rL : Int32) (rD : Int32) (yd : Nat) (rI : Int32) (rX : Int32) (rY : Int32) (rZ : Int32) (rU : Int32) (yro : Nat) (yc : Nat) (ybe : Nat) (yco : Nat) (rC : Int64) (rV : Int64) (qe : Nat → Int32) (qi : Nat → Int32) (G : Nat) (K : Nat) (M : Nat) (N : Nat) (b : Nat) (hpre : b < 10) : pz_Ct l g yX9_lastOf cX9_lastOf 2 (some .int) rmX9_lastOf [.ref h0, .int (nI b)] [(h0, .inr (8, [.ref yt, .int rT, .int rH, .int (nI G), .ref yw, .int (nI K), .ref yp, .ref yg, .int (nI M), .ref yu, .int (nI N), .ref ysl, .ref yin, .ref yse, .ref ysp, .ref ypa, .int rA, .ref yb, .ref ybd, .ref ybc, .ref yr, .int rF, .int rP, .ref ywd, .int rS, .int rN, .int rO, .int rW, .int rL, .int rD, .ref yd, .int rI, .int rX, .int rY, .int rZ, .int rU, .ref yro, .ref yc, .ref ybe, .ref yco, .long rC, .long rV])), (yse, .inl (g.2.1 1, 10, .inl qe)), (yin, .inl (g.2.1 1, 10, .inl qi))] (pz_pi (fun (r : Int32) (u : Unit) => r = la_s (qi b) (qe b)) (fun (u : Unit) => [(h0, .inr (8, [.ref yt, .int rT, .int rH, .int (nI G), .ref yw, .int (nI K), .ref yp, .ref yg, .int (nI M), .ref yu, .int (nI N), .ref ysl, .ref yin, .ref yse, .ref ysp, .ref ypa, .int rA, .ref yb, .ref ybd, .ref ybc, .ref yr, .int rF, .int rP, .ref ywd, .int rS, .int rN, .int rO, .int rW, .int rL, .int rD, .ref yd, .int rI, .int rX, .int rY, .int rZ, .int rU, .ref yro, .ref yc, .ref ybe, .ref yco, .long rC, .long rV])), (yse, .inl (g.2.1 1, 10, .inl qe)), (yin, .inl (g.2.1 1, 10, .inl qi))])) := by
  refine pz_ofAt (by decide +kernel) (Nat.le_of_ble_eq_true rfl) (fun B F Rt hme => ?_)
  refine sgX9_lastOf_0 F Rt h0 yt rT rH yw yp yg yu ysl yin yse ysp ypa rA yb ybd ybc yr rF rP ywd rS rN rO rW rL rD yd rI rX rY rZ rU yro yc ybe yco rC rV qe qi G K M N b ?_
  clear F Rt hme
  rw [nI_clamp (by omega)]
  refine ⟨vp_in_nI hpre (by omega), fun q => ⟨vp_in_nI hpre (by omega), hpre, fun r hr => ?_⟩, fun q => ⟨_, (), rfl, rfl, by unfold la_s; rw [if_pos q]⟩⟩
  exact ⟨_, (), rfl, rfl, by unfold la_s; rw [if_neg q, hr]⟩
abbrev rmX9_grade : Room := { frames := 0, cells := 0, slots := 0, locals := 0 }
set_option maxHeartbeats 4000000 in
set_option maxRecDepth 100000 in
theorem sgX9_grade_0 {B : pz_B} {g : pz_G} {wc : va_W} {Post : Option Value → va_W → Prop} (F : pz_F B cX9_grade 2 (some .int) yX9_grade.cls g rmX9_grade) (Rt : pz_Rt B g wc Post rmX9_grade) (c : Int32) (h0 : Nat) (yt : Nat) (rT : Int32) (rH : Int32) (yw : Nat) (yp : Nat) (yg : Nat) (yu : Nat) (ysl : Nat) (yin : Nat) (yse : Nat) (ysp : Nat) (ypa : Nat) (rA : Int32) (yb : Nat) (ybd : Nat) (ybc : Nat) (yr : Nat) (rF : Int32) (rP : Int32) (ywd : Nat) (rS : Int32) (rN : Int32) (rO : Int32) (rW : Int32) (rL : Int32) (rD : Int32) (yd : Nat) (rI : Int32) (rX : Int32) (rY : Int32) (rZ : Int32) (rU : Int32) (yro : Nat) (yc : Nat) (ybe : Nat) (yco : Nat) (rC : Int64) (rV : Int64) (qw : Nat → Int32) (G : Nat) (K : Nat) (M : Nat) (N : Nat)  (vc : ((c < 0 → Post (some (.int (-1))) [(h0, .inr (8, [.ref yt, .int rT, .int 0, .int (nI G), .ref yw, .int (nI K), .ref yp, .ref yg, .int (nI M), .ref yu, .int (nI N), .ref ysl, .ref yin, .ref yse, .ref ysp, .ref ypa, .int rA, .ref yb, .ref ybd, .ref ybc, .ref yr, .int rF, .int rP, .ref ywd, .int rS, .int rN, .int rO, .int rW, .int rL, .int rD, .ref yd, .int rI, .int rX, .int rY, .int rZ, .int rU, .ref yro, .ref yc, .ref ybe, .ref yco, .long rC, .long rV])), (yw, .inl (g.2.1 1, 4, .inl qw))]) ∧ (¬ c < 0 → (((999 : Int32) < c → Post (some (.int (-1))) [(h0, .inr (8, [.ref yt, .int rT, .int 0, .int (nI G), .ref yw, .int (nI K), .ref yp, .ref yg, .int (nI M), .ref yu, .int (nI N), .ref ysl, .ref yin, .ref yse, .ref ysp, .ref ypa, .int rA, .ref yb, .ref ybd, .ref ybc, .ref yr, .int rF, .int rP, .ref ywd, .int rS, .int rN, .int rO, .int rW, .int rL, .int rD, .ref yd, .int rI, .int rX, .int rY, .int rZ, .int rU, .ref yro, .ref yc, .ref ybe, .ref yco, .long rC, .long rV])), (yw, .inl (g.2.1 1, 4, .inl qw))]) ∧ (¬ (999 : Int32) < c → ((¬ (nI G) = 4 → vp_in (nI G) 4 ∧ ∀ f_5 : Nat → Int32, f_5 = upd qw (nI G).toNatClampNeg c → ∀ x_6 : Int32, x_6 = ((nI G) + 1) → ∀ x_7 : Int32, x_7 = (x_6 - 1) → Post (some (.int x_7)) [(h0, .inr (8, [.ref yt, .int rT, .int 0, .int x_6, .ref yw, .int (nI K), .ref yp, .ref yg, .int (nI M), .ref yu, .int (nI N), .ref ysl, .ref yin, .ref yse, .ref ysp, .ref ypa, .int rA, .ref yb, .ref ybd, .ref ybc, .ref yr, .int rF, .int rP, .ref ywd, .int rS, .int rN, .int rO, .int rW, .int rL, .int rD, .ref yd, .int rI, .int rX, .int rY, .int rZ, .int rU, .ref yro, .ref yc, .ref ybe, .ref yco, .long rC, .long rV])), (yw, .inl (g.2.1 1, 4, .inl f_5))]) ∧ ((nI G) = 4 → Post (some (.int (-1))) [(h0, .inr (8, [.ref yt, .int rT, .int 0, .int (nI G), .ref yw, .int (nI K), .ref yp, .ref yg, .int (nI M), .ref yu, .int (nI N), .ref ysl, .ref yin, .ref yse, .ref ysp, .ref ypa, .int rA, .ref yb, .ref ybd, .ref ybc, .ref yr, .int rF, .int rP, .ref ywd, .int rS, .int rN, .int rO, .int rW, .int rL, .int rD, .ref yd, .int rI, .int rX, .int rY, .int rZ, .int rU, .ref yro, .ref yc, .ref ybe, .ref yco, .long rC, .long rV])), (yw, .inl (g.2.1 1, 4, .inl qw))]))))))) : pz_At B 0 0 0 [(0, .ref h0), (1, .int c)] [] [(h0, .inr (8, [.ref yt, .int rT, .int rH, .int (nI G), .ref yw, .int (nI K), .ref yp, .ref yg, .int (nI M), .ref yu, .int (nI N), .ref ysl, .ref yin, .ref yse, .ref ysp, .ref ypa, .int rA, .ref yb, .ref ybd, .ref ybc, .ref yr, .int rF, .int rP, .ref ywd, .int rS, .int rN, .int rO, .int rW, .int rL, .int rD, .ref yd, .int rI, .int rX, .int rY, .int rZ, .int rU, .ref yro, .ref yc, .ref ybe, .ref yco, .long rC, .long rV])), (yw, .inl (g.2.1 1, 4, .inl qw))] := by
  refine pz_aload_n 0 F rfl dX9_grade_0 rfl ?_
  refine pz_iconst (v := 0) F dX9_grade_1 rfl ?_
  refine pz_put (ws' := [(h0, .inr (8, [.ref yt, .int rT, .int 0, .int (nI G), .ref yw, .int (nI K), .ref yp, .ref yg, .int (nI M), .ref yu, .int (nI N), .ref ysl, .ref yin, .ref yse, .ref ysp, .ref ypa, .int rA, .ref yb, .ref ybd, .ref ybc, .ref yr, .int rF, .int rP, .ref ywd, .int rS, .int rN, .int rO, .int rW, .int rL, .int rD, .ref yd, .int rI, .int rX, .int rY, .int rZ, .int rU, .ref yro, .ref yc, .ref ybe, .ref yco, .long rC, .long rV])), (yw, .inl (g.2.1 1, 4, .inl qw))]) (ci := 8) (C := RX9) (T := TX9) (N := 42) (v := .int 0) (ty := .int) 0 F rfl rfl pz_inX9 2 (by decide) pw_810 tyX9_ok nmX9 rfl rfl rfl rfl (Nat.le_of_ble_eq_true rfl) dX9_grade_2 rfl ?_
  refine pz_iload_n 1 F rfl dX9_grade_5 rfl ?_
  refine pz_if_lt (tgt := 24) F dX9_grade_6 (by decide) (fun q_1 => ?_) (fun q_1 => ?_)
  · replace vc := vc.1 q_1
    refine pz_iconst (v := (-1)) F dX9_grade_24 rfl ?_
    exact pz_ireturn (w1 := [(h0, .inr (8, [.ref yt, .int rT, .int 0, .int (nI G), .ref yw, .int (nI K), .ref yp, .ref yg, .int (nI M), .ref yu, .int (nI N), .ref ysl, .ref yin, .ref yse, .ref ysp, .ref ypa, .int rA, .ref yb, .ref ybd, .ref ybc, .ref yr, .int rF, .int rP, .ref ywd, .int rS, .int rN, .int rO, .int rW, .int rL, .int rD, .ref yd, .int rI, .int rX, .int rY, .int rZ, .int rU, .ref yro, .ref yc, .ref ybe, .ref yco, .long rC, .long rV])), (yw, .inl (g.2.1 1, 4, .inl qw))]) F Rt (by decide) (by decide) dX9_grade_25 [0, 1] rfl rfl rfl vc
  · replace vc := vc.2 q_1
    refine pz_iload_n 1 F rfl dX9_grade_9 rfl ?_
    refine pz_sipush (v := 999) F dX9_grade_10 rfl ?_
    refine pz_icmp_gt (tgt := 24) F dX9_grade_13 (by decide) (fun q_2 => ?_) (fun q_2 => ?_)
    · replace vc := vc.1 q_2
      refine pz_iconst (v := (-1)) F dX9_grade_24 rfl ?_
      exact pz_ireturn (w1 := [(h0, .inr (8, [.ref yt, .int rT, .int 0, .int (nI G), .ref yw, .int (nI K), .ref yp, .ref yg, .int (nI M), .ref yu, .int (nI N), .ref ysl, .ref yin, .ref yse, .ref ysp, .ref ypa, .int rA, .ref yb, .ref ybd, .ref ybc, .ref yr, .int rF, .int rP, .ref ywd, .int rS, .int rN, .int rO, .int rW, .int rL, .int rD, .ref yd, .int rI, .int rX, .int rY, .int rZ, .int rU, .ref yro, .ref yc, .ref ybe, .ref yco, .long rC, .long rV])), (yw, .inl (g.2.1 1, 4, .inl qw))]) F Rt (by decide) (by decide) dX9_grade_25 [0, 1] rfl rfl rfl vc
    · replace vc := vc.2 q_2
      refine pz_aload_n 0 F rfl dX9_grade_16 rfl ?_
      refine pz_get (ci := 8) (C := RX9) (T := TX9) (N := 42) (v := .int (nI G)) 0 F rfl rfl pz_inX9 3 (by decide) pw_811 rfl dX9_grade_17 ?_
      refine pz_iconst (v := 4) F dX9_grade_20 rfl ?_
      refine pz_icmp_ne (tgt := 26) F dX9_grade_21 (by decide) (fun q_3 => ?_) (fun q_3 => ?_)
      · replace vc := vc.1 q_3
        refine pz_aload_n 0 F rfl dX9_grade_26 rfl ?_
        refine pz_get (ci := 8) (C := RX9) (T := TX9) (N := 42) (v := .ref yw) 0 F rfl rfl pz_inX9 4 (by decide) pw_812 rfl dX9_grade_27 ?_
        refine pz_aload_n 0 F rfl dX9_grade_30 rfl ?_
        refine pz_get (ci := 8) (C := RX9) (T := TX9) (N := 42) (v := .int (nI G)) 0 F rfl rfl pz_inX9 3 (by decide) pw_811 rfl dX9_grade_31 ?_
        refine pz_iload_n 1 F rfl dX9_grade_34 rfl ?_
        obtain ⟨h_4, vc⟩ := vc
        obtain ⟨f_5, ef_5⟩ : ∃ z : Nat → Int32, z = upd qw (nI G).toNatClampNeg c := ⟨_, rfl⟩
        replace vc := vc f_5 ef_5
        refine pz_iastore (ws' := [(h0, .inr (8, [.ref yt, .int rT, .int 0, .int (nI G), .ref yw, .int (nI K), .ref yp, .ref yg, .int (nI M), .ref yu, .int (nI N), .ref ysl, .ref yin, .ref yse, .ref ysp, .ref ypa, .int rA, .ref yb, .ref ybd, .ref ybc, .ref yr, .int rF, .int rP, .ref ywd, .int rS, .int rN, .int rO, .int rW, .int rL, .int rD, .ref yd, .int rI, .int rX, .int rY, .int rZ, .int rU, .ref yro, .ref yc, .ref ybe, .ref yco, .long rC, .long rV])), (yw, .inl (g.2.1 1, 4, .inl f_5))]) F 1 rfl h_4 dX9_grade_35 (by rw [ef_5]; rfl) ?_
        refine pz_aload_n 0 F rfl dX9_grade_36 rfl ?_
        refine pz_dup F dX9_grade_37 rfl ?_
        refine pz_get (ci := 8) (C := RX9) (T := TX9) (N := 42) (v := .int (nI G)) 0 F rfl rfl pz_inX9 3 (by decide) pw_811 rfl dX9_grade_38 ?_
        refine pz_iconst (v := 1) F dX9_grade_41 rfl ?_
        refine pz_iadd F dX9_grade_42 ?_
        refine pz_topi (fun x_6 ex_6 => ?_)
        replace vc := vc x_6 ex_6
        refine pz_put (ws' := [(h0, .inr (8, [.ref yt, .int rT, .int 0, .int x_6, .ref yw, .int (nI K), .ref yp, .ref yg, .int (nI M), .ref yu, .int (nI N), .ref ysl, .ref yin, .ref yse, .ref ysp, .ref ypa, .int rA, .ref yb, .ref ybd, .ref ybc, .ref yr, .int rF, .int rP, .ref ywd, .int rS, .int rN, .int rO, .int rW, .int rL, .int rD, .ref yd, .int rI, .int rX, .int rY, .int rZ, .int rU, .ref yro, .ref yc, .ref ybe, .ref yco, .long rC, .long rV])), (yw, .inl (g.2.1 1, 4, .inl f_5))]) (ci := 8) (C := RX9) (T := TX9) (N := 42) (v := .int x_6) (ty := .int) 0 F rfl rfl pz_inX9 3 (by decide) pw_811 tyX9_ok nmX9 rfl rfl rfl rfl (Nat.le_of_ble_eq_true rfl) dX9_grade_43 rfl ?_
        refine pz_aload_n 0 F rfl dX9_grade_46 rfl ?_
        refine pz_get (ci := 8) (C := RX9) (T := TX9) (N := 42) (v := .int x_6) 0 F rfl rfl pz_inX9 3 (by decide) pw_811 rfl dX9_grade_47 ?_
        refine pz_iconst (v := 1) F dX9_grade_50 rfl ?_
        refine pz_isub F dX9_grade_51 ?_
        refine pz_topi (fun x_7 ex_7 => ?_)
        replace vc := vc x_7 ex_7
        exact pz_ireturn (w1 := [(h0, .inr (8, [.ref yt, .int rT, .int 0, .int x_6, .ref yw, .int (nI K), .ref yp, .ref yg, .int (nI M), .ref yu, .int (nI N), .ref ysl, .ref yin, .ref yse, .ref ysp, .ref ypa, .int rA, .ref yb, .ref ybd, .ref ybc, .ref yr, .int rF, .int rP, .ref ywd, .int rS, .int rN, .int rO, .int rW, .int rL, .int rD, .ref yd, .int rI, .int rX, .int rY, .int rZ, .int rU, .ref yro, .ref yc, .ref ybe, .ref yco, .long rC, .long rV])), (yw, .inl (g.2.1 1, 4, .inl f_5))]) F Rt (by decide) (by decide) dX9_grade_52 [0, 1] rfl rfl rfl vc
      · replace vc := vc.2 q_3
        refine pz_iconst (v := (-1)) F dX9_grade_24 rfl ?_
        exact pz_ireturn (w1 := [(h0, .inr (8, [.ref yt, .int rT, .int 0, .int (nI G), .ref yw, .int (nI K), .ref yp, .ref yg, .int (nI M), .ref yu, .int (nI N), .ref ysl, .ref yin, .ref yse, .ref ysp, .ref ypa, .int rA, .ref yb, .ref ybd, .ref ybc, .ref yr, .int rF, .int rP, .ref ywd, .int rS, .int rN, .int rO, .int rW, .int rL, .int rD, .ref yd, .int rI, .int rX, .int rY, .int rZ, .int rU, .ref yro, .ref yc, .ref ybe, .ref yco, .long rC, .long rV])), (yw, .inl (g.2.1 1, 4, .inl qw))]) F Rt (by decide) (by decide) dX9_grade_25 [0, 1] rfl rfl rfl vc
set_option maxHeartbeats 4000000 in
set_option maxRecDepth 100000 in
theorem ctX9_grade (l : Launch) (g : pz_G) (c : Int32) (h0 : Nat) (yt : Nat) (rT : Int32) (rH : Int32) (yw : Nat) (yp : Nat) (yg : Nat) (yu : Nat) (ysl : Nat) (yin : Nat) (yse : Nat) (ysp : Nat) (ypa : Nat) (rA : Int32) (yb : Nat) (ybd : Nat) (ybc : Nat) (yr : Nat) (rF : Int32) (rP : Int32) (ywd : Nat) (rS : Int32) (rN : Int32) (rO : Int32) (rW : Int32) (rL : Int32) (rD : Int32) (yd : Nat) (rI : Int32) (rX : Int32) (rY : Int32) (rZ : Int32) (rU : Int32) (yro : Nat) (yc : Nat) (ybe : Nat) (yco : Nat) (rC : Int64) (rV : Int64) (qw : Nat → Int32) (G : Nat) (K : Nat) (M : Nat) (N : Nat) (hpre : G ≤ 4) : pz_Ct l g yX9_grade cX9_grade 2 (some .int) rmX9_grade [.ref h0, .int c] [(h0, .inr (8, [.ref yt, .int rT, .int rH, .int (nI G), .ref yw, .int (nI K), .ref yp, .ref yg, .int (nI M), .ref yu, .int (nI N), .ref ysl, .ref yin, .ref yse, .ref ysp, .ref ypa, .int rA, .ref yb, .ref ybd, .ref ybc, .ref yr, .int rF, .int rP, .ref ywd, .int rS, .int rN, .int rO, .int rW, .int rL, .int rD, .ref yd, .int rI, .int rX, .int rY, .int rZ, .int rU, .ref yro, .ref yc, .ref ybe, .ref yco, .long rC, .long rV])), (yw, .inl (g.2.1 1, 4, .inl qw))] (pz_pi (fun (r : Int32) (u : Int32 × (Nat → Int32)) => ((¬ c < 0 ∧ ¬ (999 : Int32) < c ∧ G < 4) ∧ r = nI G ∧ u.1 = nI (G + 1) ∧ u.2 = upd qw G c) ∨ (¬ (¬ c < 0 ∧ ¬ (999 : Int32) < c ∧ G < 4) ∧ r = -1 ∧ u.1 = nI G ∧ u.2 = qw)) (fun (u : Int32 × (Nat → Int32)) => [(h0, .inr (8, [.ref yt, .int rT, .int 0, .int u.1, .ref yw, .int (nI K), .ref yp, .ref yg, .int (nI M), .ref yu, .int (nI N), .ref ysl, .ref yin, .ref yse, .ref ysp, .ref ypa, .int rA, .ref yb, .ref ybd, .ref ybc, .ref yr, .int rF, .int rP, .ref ywd, .int rS, .int rN, .int rO, .int rW, .int rL, .int rD, .ref yd, .int rI, .int rX, .int rY, .int rZ, .int rU, .ref yro, .ref yc, .ref ybe, .ref yco, .long rC, .long rV])), (yw, .inl (g.2.1 1, 4, .inl u.2))])) := by
  refine pz_ofAt (by decide +kernel) (Nat.le_of_ble_eq_true rfl) (fun B F Rt hme => ?_)
  refine sgX9_grade_0 F Rt c h0 yt rT rH yw yp yg yu ysl yin yse ysp ypa rA yb ybd ybc yr rF rP ywd rS rN rO rW rL rD yd rI rX rY rZ rU yro yc ybe yco rC rV qw G K M N ?_
  clear F Rt hme
  refine ⟨fun q => ⟨_, (_, _), rfl, rfl, Or.inr ⟨fun h => h.1 q, rfl, rfl, rfl⟩⟩, fun q => ⟨fun q2 => ⟨_, (_, _), rfl, rfl, Or.inr ⟨fun h => h.2.1 q2, rfl, rfl, rfl⟩⟩, fun q2 => ⟨fun q3 => ?_, fun q3 => ⟨_, (_, _), rfl, rfl, Or.inr ⟨fun h => ?_, rfl, rfl, rfl⟩⟩⟩⟩⟩
  · have h4 : G < 4 := by
      rcases Nat.lt_or_ge G 4 with h | h
      · exact h
      · exact absurd (show nI G = 4 from congrArg nI (show G = 4 by omega)) q3
    refine ⟨vp_in_nI h4 (by omega), ?_⟩
    rintro f rfl x1 rfl x2 rfl
    rw [nI_clamp (by omega)]
    exact ⟨_, (_, _), rfl, rfl, Or.inl ⟨⟨q, q2, h4⟩, by rw [nI_1, nI_pred], nI_1 G, rfl⟩⟩
  · have h5 : G = 4 := (nI_eq (b := 4) (by omega) (by omega)).mp q3
    omega
abbrev rmX9_man : Room := { frames := 0, cells := 0, slots := 0, locals := 0 }
set_option maxHeartbeats 4000000 in
set_option maxRecDepth 100000 in
theorem sgX9_man_0 {B : pz_B} {g : pz_G} {wc : va_W} {Post : Option Value → va_W → Prop} (F : pz_F B cX9_man 2 (some .int) yX9_man.cls g rmX9_man) (Rt : pz_Rt B g wc Post rmX9_man) (c : Int32) (h0 : Nat) (yt : Nat) (rT : Int32) (rH : Int32) (yw : Nat) (yp : Nat) (yg : Nat) (yu : Nat) (ysl : Nat) (yin : Nat) (yse : Nat) (ysp : Nat) (ypa : Nat) (rA : Int32) (yb : Nat) (ybd : Nat) (ybc : Nat) (yr : Nat) (rF : Int32) (rP : Int32) (ywd : Nat) (rS : Int32) (rN : Int32) (rO : Int32) (rW : Int32) (rL : Int32) (rD : Int32) (yd : Nat) (rI : Int32) (rX : Int32) (rY : Int32) (rZ : Int32) (rU : Int32) (yro : Nat) (yc : Nat) (ybe : Nat) (yco : Nat) (rC : Int64) (rV : Int64) (qu : Nat → Int32) (G : Nat) (K : Nat) (M : Nat) (N : Nat)  (vc : ((c < 0 → Post (some (.int (-1))) [(h0, .inr (8, [.ref yt, .int rT, .int 0, .int (nI G), .ref yw, .int (nI K), .ref yp, .ref yg, .int (nI M), .ref yu, .int (nI N), .ref ysl, .ref yin, .ref yse, .ref ysp, .ref ypa, .int rA, .ref yb, .ref ybd, .ref ybc, .ref yr, .int rF, .int rP, .ref ywd, .int rS, .int rN, .int rO, .int rW, .int rL, .int rD, .ref yd, .int rI, .int rX, .int rY, .int rZ, .int rU, .ref yro, .ref yc, .ref ybe, .ref yco, .long rC, .long rV])), (yu, .inl (g.2.1 1, 8, .inl qu))]) ∧ (¬ c < 0 → (((999999 : Int32) < c → Post (some (.int (-1))) [(h0, .inr (8, [.ref yt, .int rT, .int 0, .int (nI G), .ref yw, .int (nI K), .ref yp, .ref yg, .int (nI M), .ref yu, .int (nI N), .ref ysl, .ref yin, .ref yse, .ref ysp, .ref ypa, .int rA, .ref yb, .ref ybd, .ref ybc, .ref yr, .int rF, .int rP, .ref ywd, .int rS, .int rN, .int rO, .int rW, .int rL, .int rD, .ref yd, .int rI, .int rX, .int rY, .int rZ, .int rU, .ref yro, .ref yc, .ref ybe, .ref yco, .long rC, .long rV])), (yu, .inl (g.2.1 1, 8, .inl qu))]) ∧ (¬ (999999 : Int32) < c → ((¬ (nI M) = 8 → vp_in (nI M) 8 ∧ ∀ f_5 : Nat → Int32, f_5 = upd qu (nI M).toNatClampNeg c → ∀ x_6 : Int32, x_6 = ((nI M) + 1) → ∀ x_7 : Int32, x_7 = (x_6 - 1) → Post (some (.int x_7)) [(h0, .inr (8, [.ref yt, .int rT, .int 0, .int (nI G), .ref yw, .int (nI K), .ref yp, .ref yg, .int x_6, .ref yu, .int (nI N), .ref ysl, .ref yin, .ref yse, .ref ysp, .ref ypa, .int rA, .ref yb, .ref ybd, .ref ybc, .ref yr, .int rF, .int rP, .ref ywd, .int rS, .int rN, .int rO, .int rW, .int rL, .int rD, .ref yd, .int rI, .int rX, .int rY, .int rZ, .int rU, .ref yro, .ref yc, .ref ybe, .ref yco, .long rC, .long rV])), (yu, .inl (g.2.1 1, 8, .inl f_5))]) ∧ ((nI M) = 8 → Post (some (.int (-1))) [(h0, .inr (8, [.ref yt, .int rT, .int 0, .int (nI G), .ref yw, .int (nI K), .ref yp, .ref yg, .int (nI M), .ref yu, .int (nI N), .ref ysl, .ref yin, .ref yse, .ref ysp, .ref ypa, .int rA, .ref yb, .ref ybd, .ref ybc, .ref yr, .int rF, .int rP, .ref ywd, .int rS, .int rN, .int rO, .int rW, .int rL, .int rD, .ref yd, .int rI, .int rX, .int rY, .int rZ, .int rU, .ref yro, .ref yc, .ref ybe, .ref yco, .long rC, .long rV])), (yu, .inl (g.2.1 1, 8, .inl qu))]))))))) : pz_At B 0 0 0 [(0, .ref h0), (1, .int c)] [] [(h0, .inr (8, [.ref yt, .int rT, .int rH, .int (nI G), .ref yw, .int (nI K), .ref yp, .ref yg, .int (nI M), .ref yu, .int (nI N), .ref ysl, .ref yin, .ref yse, .ref ysp, .ref ypa, .int rA, .ref yb, .ref ybd, .ref ybc, .ref yr, .int rF, .int rP, .ref ywd, .int rS, .int rN, .int rO, .int rW, .int rL, .int rD, .ref yd, .int rI, .int rX, .int rY, .int rZ, .int rU, .ref yro, .ref yc, .ref ybe, .ref yco, .long rC, .long rV])), (yu, .inl (g.2.1 1, 8, .inl qu))] := by
  refine pz_aload_n 0 F rfl dX9_man_0 rfl ?_
  refine pz_iconst (v := 0) F dX9_man_1 rfl ?_
  refine pz_put (ws' := [(h0, .inr (8, [.ref yt, .int rT, .int 0, .int (nI G), .ref yw, .int (nI K), .ref yp, .ref yg, .int (nI M), .ref yu, .int (nI N), .ref ysl, .ref yin, .ref yse, .ref ysp, .ref ypa, .int rA, .ref yb, .ref ybd, .ref ybc, .ref yr, .int rF, .int rP, .ref ywd, .int rS, .int rN, .int rO, .int rW, .int rL, .int rD, .ref yd, .int rI, .int rX, .int rY, .int rZ, .int rU, .ref yro, .ref yc, .ref ybe, .ref yco, .long rC, .long rV])), (yu, .inl (g.2.1 1, 8, .inl qu))]) (ci := 8) (C := RX9) (T := TX9) (N := 42) (v := .int 0) (ty := .int) 0 F rfl rfl pz_inX9 2 (by decide) pw_810 tyX9_ok nmX9 rfl rfl rfl rfl (Nat.le_of_ble_eq_true rfl) dX9_man_2 rfl ?_
  refine pz_iload_n 1 F rfl dX9_man_5 rfl ?_
  refine pz_if_lt (tgt := 24) F dX9_man_6 (by decide) (fun q_1 => ?_) (fun q_1 => ?_)
  · replace vc := vc.1 q_1
    refine pz_iconst (v := (-1)) F dX9_man_24 rfl ?_
    exact pz_ireturn (w1 := [(h0, .inr (8, [.ref yt, .int rT, .int 0, .int (nI G), .ref yw, .int (nI K), .ref yp, .ref yg, .int (nI M), .ref yu, .int (nI N), .ref ysl, .ref yin, .ref yse, .ref ysp, .ref ypa, .int rA, .ref yb, .ref ybd, .ref ybc, .ref yr, .int rF, .int rP, .ref ywd, .int rS, .int rN, .int rO, .int rW, .int rL, .int rD, .ref yd, .int rI, .int rX, .int rY, .int rZ, .int rU, .ref yro, .ref yc, .ref ybe, .ref yco, .long rC, .long rV])), (yu, .inl (g.2.1 1, 8, .inl qu))]) F Rt (by decide) (by decide) dX9_man_25 [0, 1] rfl rfl rfl vc
  · replace vc := vc.2 q_1
    refine pz_iload_n 1 F rfl dX9_man_9 rfl ?_
    refine pz_ldc (v := 999999) F pw_963 dX9_man_10 ?_
    refine pz_icmp_gt (tgt := 24) F dX9_man_12 (by decide) (fun q_2 => ?_) (fun q_2 => ?_)
    · replace vc := vc.1 q_2
      refine pz_iconst (v := (-1)) F dX9_man_24 rfl ?_
      exact pz_ireturn (w1 := [(h0, .inr (8, [.ref yt, .int rT, .int 0, .int (nI G), .ref yw, .int (nI K), .ref yp, .ref yg, .int (nI M), .ref yu, .int (nI N), .ref ysl, .ref yin, .ref yse, .ref ysp, .ref ypa, .int rA, .ref yb, .ref ybd, .ref ybc, .ref yr, .int rF, .int rP, .ref ywd, .int rS, .int rN, .int rO, .int rW, .int rL, .int rD, .ref yd, .int rI, .int rX, .int rY, .int rZ, .int rU, .ref yro, .ref yc, .ref ybe, .ref yco, .long rC, .long rV])), (yu, .inl (g.2.1 1, 8, .inl qu))]) F Rt (by decide) (by decide) dX9_man_25 [0, 1] rfl rfl rfl vc
    · replace vc := vc.2 q_2
      refine pz_aload_n 0 F rfl dX9_man_15 rfl ?_
      refine pz_get (ci := 8) (C := RX9) (T := TX9) (N := 42) (v := .int (nI M)) 0 F rfl rfl pz_inX9 8 (by decide) pw_816 rfl dX9_man_16 ?_
      refine pz_bipush (v := 8) F dX9_man_19 rfl ?_
      refine pz_icmp_ne (tgt := 26) F dX9_man_21 (by decide) (fun q_3 => ?_) (fun q_3 => ?_)
      · replace vc := vc.1 q_3
        refine pz_aload_n 0 F rfl dX9_man_26 rfl ?_
        refine pz_get (ci := 8) (C := RX9) (T := TX9) (N := 42) (v := .ref yu) 0 F rfl rfl pz_inX9 9 (by decide) pw_817 rfl dX9_man_27 ?_
        refine pz_aload_n 0 F rfl dX9_man_30 rfl ?_
        refine pz_get (ci := 8) (C := RX9) (T := TX9) (N := 42) (v := .int (nI M)) 0 F rfl rfl pz_inX9 8 (by decide) pw_816 rfl dX9_man_31 ?_
        refine pz_iload_n 1 F rfl dX9_man_34 rfl ?_
        obtain ⟨h_4, vc⟩ := vc
        obtain ⟨f_5, ef_5⟩ : ∃ z : Nat → Int32, z = upd qu (nI M).toNatClampNeg c := ⟨_, rfl⟩
        replace vc := vc f_5 ef_5
        refine pz_iastore (ws' := [(h0, .inr (8, [.ref yt, .int rT, .int 0, .int (nI G), .ref yw, .int (nI K), .ref yp, .ref yg, .int (nI M), .ref yu, .int (nI N), .ref ysl, .ref yin, .ref yse, .ref ysp, .ref ypa, .int rA, .ref yb, .ref ybd, .ref ybc, .ref yr, .int rF, .int rP, .ref ywd, .int rS, .int rN, .int rO, .int rW, .int rL, .int rD, .ref yd, .int rI, .int rX, .int rY, .int rZ, .int rU, .ref yro, .ref yc, .ref ybe, .ref yco, .long rC, .long rV])), (yu, .inl (g.2.1 1, 8, .inl f_5))]) F 1 rfl h_4 dX9_man_35 (by rw [ef_5]; rfl) ?_
        refine pz_aload_n 0 F rfl dX9_man_36 rfl ?_
        refine pz_dup F dX9_man_37 rfl ?_
        refine pz_get (ci := 8) (C := RX9) (T := TX9) (N := 42) (v := .int (nI M)) 0 F rfl rfl pz_inX9 8 (by decide) pw_816 rfl dX9_man_38 ?_
        refine pz_iconst (v := 1) F dX9_man_41 rfl ?_
        refine pz_iadd F dX9_man_42 ?_
        refine pz_topi (fun x_6 ex_6 => ?_)
        replace vc := vc x_6 ex_6
        refine pz_put (ws' := [(h0, .inr (8, [.ref yt, .int rT, .int 0, .int (nI G), .ref yw, .int (nI K), .ref yp, .ref yg, .int x_6, .ref yu, .int (nI N), .ref ysl, .ref yin, .ref yse, .ref ysp, .ref ypa, .int rA, .ref yb, .ref ybd, .ref ybc, .ref yr, .int rF, .int rP, .ref ywd, .int rS, .int rN, .int rO, .int rW, .int rL, .int rD, .ref yd, .int rI, .int rX, .int rY, .int rZ, .int rU, .ref yro, .ref yc, .ref ybe, .ref yco, .long rC, .long rV])), (yu, .inl (g.2.1 1, 8, .inl f_5))]) (ci := 8) (C := RX9) (T := TX9) (N := 42) (v := .int x_6) (ty := .int) 0 F rfl rfl pz_inX9 8 (by decide) pw_816 tyX9_ok nmX9 rfl rfl rfl rfl (Nat.le_of_ble_eq_true rfl) dX9_man_43 rfl ?_
        refine pz_aload_n 0 F rfl dX9_man_46 rfl ?_
        refine pz_get (ci := 8) (C := RX9) (T := TX9) (N := 42) (v := .int x_6) 0 F rfl rfl pz_inX9 8 (by decide) pw_816 rfl dX9_man_47 ?_
        refine pz_iconst (v := 1) F dX9_man_50 rfl ?_
        refine pz_isub F dX9_man_51 ?_
        refine pz_topi (fun x_7 ex_7 => ?_)
        replace vc := vc x_7 ex_7
        exact pz_ireturn (w1 := [(h0, .inr (8, [.ref yt, .int rT, .int 0, .int (nI G), .ref yw, .int (nI K), .ref yp, .ref yg, .int x_6, .ref yu, .int (nI N), .ref ysl, .ref yin, .ref yse, .ref ysp, .ref ypa, .int rA, .ref yb, .ref ybd, .ref ybc, .ref yr, .int rF, .int rP, .ref ywd, .int rS, .int rN, .int rO, .int rW, .int rL, .int rD, .ref yd, .int rI, .int rX, .int rY, .int rZ, .int rU, .ref yro, .ref yc, .ref ybe, .ref yco, .long rC, .long rV])), (yu, .inl (g.2.1 1, 8, .inl f_5))]) F Rt (by decide) (by decide) dX9_man_52 [0, 1] rfl rfl rfl vc
      · replace vc := vc.2 q_3
        refine pz_iconst (v := (-1)) F dX9_man_24 rfl ?_
        exact pz_ireturn (w1 := [(h0, .inr (8, [.ref yt, .int rT, .int 0, .int (nI G), .ref yw, .int (nI K), .ref yp, .ref yg, .int (nI M), .ref yu, .int (nI N), .ref ysl, .ref yin, .ref yse, .ref ysp, .ref ypa, .int rA, .ref yb, .ref ybd, .ref ybc, .ref yr, .int rF, .int rP, .ref ywd, .int rS, .int rN, .int rO, .int rW, .int rL, .int rD, .ref yd, .int rI, .int rX, .int rY, .int rZ, .int rU, .ref yro, .ref yc, .ref ybe, .ref yco, .long rC, .long rV])), (yu, .inl (g.2.1 1, 8, .inl qu))]) F Rt (by decide) (by decide) dX9_man_25 [0, 1] rfl rfl rfl vc
set_option maxHeartbeats 4000000 in
set_option maxRecDepth 100000 in
theorem ctX9_man (l : Launch) (g : pz_G) (c : Int32) (h0 : Nat) (yt : Nat) (rT : Int32) (rH : Int32) (yw : Nat) (yp : Nat) (yg : Nat) (yu : Nat) (ysl : Nat) (yin : Nat) (yse : Nat) (ysp : Nat) (ypa : Nat) (rA : Int32) (yb : Nat) (ybd : Nat) (ybc : Nat) (yr : Nat) (rF : Int32) (rP : Int32) (ywd : Nat) (rS : Int32) (rN : Int32) (rO : Int32) (rW : Int32) (rL : Int32) (rD : Int32) (yd : Nat) (rI : Int32) (rX : Int32) (rY : Int32) (rZ : Int32) (rU : Int32) (yro : Nat) (yc : Nat) (ybe : Nat) (yco : Nat) (rC : Int64) (rV : Int64) (qu : Nat → Int32) (G : Nat) (K : Nat) (M : Nat) (N : Nat) (hpre : M ≤ 8) : pz_Ct l g yX9_man cX9_man 2 (some .int) rmX9_man [.ref h0, .int c] [(h0, .inr (8, [.ref yt, .int rT, .int rH, .int (nI G), .ref yw, .int (nI K), .ref yp, .ref yg, .int (nI M), .ref yu, .int (nI N), .ref ysl, .ref yin, .ref yse, .ref ysp, .ref ypa, .int rA, .ref yb, .ref ybd, .ref ybc, .ref yr, .int rF, .int rP, .ref ywd, .int rS, .int rN, .int rO, .int rW, .int rL, .int rD, .ref yd, .int rI, .int rX, .int rY, .int rZ, .int rU, .ref yro, .ref yc, .ref ybe, .ref yco, .long rC, .long rV])), (yu, .inl (g.2.1 1, 8, .inl qu))] (pz_pi (fun (r : Int32) (u : Int32 × (Nat → Int32)) => ((¬ c < 0 ∧ ¬ (999999 : Int32) < c ∧ M < 8) ∧ r = nI M ∧ u.1 = nI (M + 1) ∧ u.2 = upd qu M c) ∨ (¬ (¬ c < 0 ∧ ¬ (999999 : Int32) < c ∧ M < 8) ∧ r = -1 ∧ u.1 = nI M ∧ u.2 = qu)) (fun (u : Int32 × (Nat → Int32)) => [(h0, .inr (8, [.ref yt, .int rT, .int 0, .int (nI G), .ref yw, .int (nI K), .ref yp, .ref yg, .int u.1, .ref yu, .int (nI N), .ref ysl, .ref yin, .ref yse, .ref ysp, .ref ypa, .int rA, .ref yb, .ref ybd, .ref ybc, .ref yr, .int rF, .int rP, .ref ywd, .int rS, .int rN, .int rO, .int rW, .int rL, .int rD, .ref yd, .int rI, .int rX, .int rY, .int rZ, .int rU, .ref yro, .ref yc, .ref ybe, .ref yco, .long rC, .long rV])), (yu, .inl (g.2.1 1, 8, .inl u.2))])) := by
  refine pz_ofAt (by decide +kernel) (Nat.le_of_ble_eq_true rfl) (fun B F Rt hme => ?_)
  refine sgX9_man_0 F Rt c h0 yt rT rH yw yp yg yu ysl yin yse ysp ypa rA yb ybd ybc yr rF rP ywd rS rN rO rW rL rD yd rI rX rY rZ rU yro yc ybe yco rC rV qu G K M N ?_
  clear F Rt hme
  refine ⟨fun q => ⟨_, (_, _), rfl, rfl, Or.inr ⟨fun h => h.1 q, rfl, rfl, rfl⟩⟩, fun q => ⟨fun q2 => ⟨_, (_, _), rfl, rfl, Or.inr ⟨fun h => h.2.1 q2, rfl, rfl, rfl⟩⟩, fun q2 => ⟨fun q3 => ?_, fun q3 => ⟨_, (_, _), rfl, rfl, Or.inr ⟨fun h => ?_, rfl, rfl, rfl⟩⟩⟩⟩⟩
  · have h4 : M < 8 := by
      rcases Nat.lt_or_ge M 8 with h | h
      · exact h
      · exact absurd (show nI M = 8 from congrArg nI (show M = 8 by omega)) q3
    refine ⟨vp_in_nI h4 (by omega), ?_⟩
    rintro f rfl x1 rfl x2 rfl
    rw [nI_clamp (by omega)]
    exact ⟨_, (_, _), rfl, rfl, Or.inl ⟨⟨q, q2, h4⟩, by rw [nI_1, nI_pred], nI_1 M, rfl⟩⟩
  · have h5 : M = 8 := (nI_eq (b := 8) (by omega) (by omega)).mp q3
    omega
abbrev rmX9_kind : Room := { frames := 1, cells := 0, slots := 0, locals := 22 }
set_option maxHeartbeats 4000000 in
set_option maxRecDepth 100000 in
theorem sgX9_kind_0 {B : pz_B} {g : pz_G} {wc : va_W} {Post : Option Value → va_W → Prop} (F : pz_F B cX9_kind 6 (some .int) yX9_kind.cls g rmX9_kind) (Rt : pz_Rt B g wc Post rmX9_kind) (p : Int32) (w0 : Int32) (w1 : Int32) (w2 : Int32) (w3 : Int32) (h0 : Nat) (yt : Nat) (rT : Int32) (rH : Int32) (yw : Nat) (yp : Nat) (yg : Nat) (yu : Nat) (ysl : Nat) (yin : Nat) (yse : Nat) (ysp : Nat) (ypa : Nat) (rA : Int32) (yb : Nat) (ybd : Nat) (ybc : Nat) (yr : Nat) (rF : Int32) (rP : Int32) (ywd : Nat) (rS : Int32) (rN : Int32) (rO : Int32) (rW : Int32) (rL : Int32) (rD : Int32) (yd : Nat) (rI : Int32) (rX : Int32) (rY : Int32) (rZ : Int32) (rU : Int32) (yro : Nat) (yc : Nat) (ybe : Nat) (yco : Nat) (rC : Int64) (rV : Int64) (qp : Nat → Int32) (qg : Nat → Int32) (G : Nat) (K : Nat) (M : Nat) (N : Nat)  (vc : (((nI K) = 3 → Post (some (.int (-1))) [(h0, .inr (8, [.ref yt, .int rT, .int 0, .int (nI G), .ref yw, .int (nI K), .ref yp, .ref yg, .int (nI M), .ref yu, .int (nI N), .ref ysl, .ref yin, .ref yse, .ref ysp, .ref ypa, .int rA, .ref yb, .ref ybd, .ref ybc, .ref yr, .int rF, .int rP, .ref ywd, .int rS, .int rN, .int rO, .int rW, .int rL, .int rD, .ref yd, .int rI, .int rX, .int rY, .int rZ, .int rU, .ref yro, .ref yc, .ref ybe, .ref yco, .long rC, .long rV])), (yp, .inl (g.2.1 1, 3, .inl qp)), (yg, .inl (g.2.1 1, 12, .inl qg))]) ∧ (¬ (nI K) = 3 → ((p < 1 → Post (some (.int (-1))) [(h0, .inr (8, [.ref yt, .int rT, .int 0, .int (nI G), .ref yw, .int (nI K), .ref yp, .ref yg, .int (nI M), .ref yu, .int (nI N), .ref ysl, .ref yin, .ref yse, .ref ysp, .ref ypa, .int rA, .ref yb, .ref ybd, .ref ybc, .ref yr, .int rF, .int rP, .ref ywd, .int rS, .int rN, .int rO, .int rW, .int rL, .int rD, .ref yd, .int rI, .int rX, .int rY, .int rZ, .int rU, .ref yro, .ref yc, .ref ybe, .ref yco, .long rC, .long rV])), (yp, .inl (g.2.1 1, 3, .inl qp)), (yg, .inl (g.2.1 1, 12, .inl qg))]) ∧ (¬ p < 1 → (((99 : Int32) < p → Post (some (.int (-1))) [(h0, .inr (8, [.ref yt, .int rT, .int 0, .int (nI G), .ref yw, .int (nI K), .ref yp, .ref yg, .int (nI M), .ref yu, .int (nI N), .ref ysl, .ref yin, .ref yse, .ref ysp, .ref ypa, .int rA, .ref yb, .ref ybd, .ref ybc, .ref yr, .int rF, .int rP, .ref ywd, .int rS, .int rN, .int rO, .int rW, .int rL, .int rD, .ref yd, .int rI, .int rX, .int rY, .int rZ, .int rU, .ref yro, .ref yc, .ref ybe, .ref yco, .long rC, .long rV])), (yp, .inl (g.2.1 1, 3, .inl qp)), (yg, .inl (g.2.1 1, 12, .inl qg))]) ∧ (¬ (99 : Int32) < p → ∀ r_4 : Int32, ∀ _ : (r_4 = we_r (nI G) 0 w0), ((r_4 = 0 → Post (some (.int (-1))) [(h0, .inr (8, [.ref yt, .int rT, .int 0, .int (nI G), .ref yw, .int (nI K), .ref yp, .ref yg, .int (nI M), .ref yu, .int (nI N), .ref ysl, .ref yin, .ref yse, .ref ysp, .ref ypa, .int rA, .ref yb, .ref ybd, .ref ybc, .ref yr, .int rF, .int rP, .ref ywd, .int rS, .int rN, .int rO, .int rW, .int rL, .int rD, .ref yd, .int rI, .int rX, .int rY, .int rZ, .int rU, .ref yro, .ref yc, .ref ybe, .ref yco, .long rC, .long rV])), (yp, .inl (g.2.1 1, 3, .inl qp)), (yg, .inl (g.2.1 1, 12, .inl qg))]) ∧ (¬ r_4 = 0 → ∀ r_7 : Int32, ∀ _ : (r_7 = we_r (nI G) 1 w1), ((r_7 = 0 → Post (some (.int (-1))) [(h0, .inr (8, [.ref yt, .int rT, .int 0, .int (nI G), .ref yw, .int (nI K), .ref yp, .ref yg, .int (nI M), .ref yu, .int (nI N), .ref ysl, .ref yin, .ref yse, .ref ysp, .ref ypa, .int rA, .ref yb, .ref ybd, .ref ybc, .ref yr, .int rF, .int rP, .ref ywd, .int rS, .int rN, .int rO, .int rW, .int rL, .int rD, .ref yd, .int rI, .int rX, .int rY, .int rZ, .int rU, .ref yro, .ref yc, .ref ybe, .ref yco, .long rC, .long rV])), (yp, .inl (g.2.1 1, 3, .inl qp)), (yg, .inl (g.2.1 1, 12, .inl qg))]) ∧ (¬ r_7 = 0 → ∀ r_10 : Int32, ∀ _ : (r_10 = we_r (nI G) 2 w2), ((r_10 = 0 → Post (some (.int (-1))) [(h0, .inr (8, [.ref yt, .int rT, .int 0, .int (nI G), .ref yw, .int (nI K), .ref yp, .ref yg, .int (nI M), .ref yu, .int (nI N), .ref ysl, .ref yin, .ref yse, .ref ysp, .ref ypa, .int rA, .ref yb, .ref ybd, .ref ybc, .ref yr, .int rF, .int rP, .ref ywd, .int rS, .int rN, .int rO, .int rW, .int rL, .int rD, .ref yd, .int rI, .int rX, .int rY, .int rZ, .int rU, .ref yro, .ref yc, .ref ybe, .ref yco, .long rC, .long rV])), (yp, .inl (g.2.1 1, 3, .inl qp)), (yg, .inl (g.2.1 1, 12, .inl qg))]) ∧ (¬ r_10 = 0 → ∀ r_13 : Int32, ∀ _ : (r_13 = we_r (nI G) 3 w3), ((r_13 = 0 → Post (some (.int (-1))) [(h0, .inr (8, [.ref yt, .int rT, .int 0, .int (nI G), .ref yw, .int (nI K), .ref yp, .ref yg, .int (nI M), .ref yu, .int (nI N), .ref ysl, .ref yin, .ref yse, .ref ysp, .ref ypa, .int rA, .ref yb, .ref ybd, .ref ybc, .ref yr, .int rF, .int rP, .ref ywd, .int rS, .int rN, .int rO, .int rW, .int rL, .int rD, .ref yd, .int rI, .int rX, .int rY, .int rZ, .int rU, .ref yro, .ref yc, .ref ybe, .ref yco, .long rC, .long rV])), (yp, .inl (g.2.1 1, 3, .inl qp)), (yg, .inl (g.2.1 1, 12, .inl qg))]) ∧ (¬ r_13 = 0 → (((((w0 + w1) + w2) + w3) = 16 → vp_in (nI K) 3 ∧ ∀ f_18 : Nat → Int32, f_18 = upd qp (nI K).toNatClampNeg p → vp_in (4 * (nI K)) 12 ∧ ∀ f_20 : Nat → Int32, f_20 = upd qg (4 * (nI K)).toNatClampNeg w0 → vp_in ((4 * (nI K)) + 1) 12 ∧ ∀ f_22 : Nat → Int32, f_22 = upd f_20 ((4 * (nI K)) + 1).toNatClampNeg w1 → vp_in ((4 * (nI K)) + 2) 12 ∧ ∀ f_24 : Nat → Int32, f_24 = upd f_22 ((4 * (nI K)) + 2).toNatClampNeg w2 → vp_in ((4 * (nI K)) + 3) 12 ∧ ∀ f_26 : Nat → Int32, f_26 = upd f_24 ((4 * (nI K)) + 3).toNatClampNeg w3 → ∀ x_27 : Int32, x_27 = ((nI K) + 1) → ∀ x_28 : Int32, x_28 = (x_27 - 1) → Post (some (.int x_28)) [(h0, .inr (8, [.ref yt, .int rT, .int 0, .int (nI G), .ref yw, .int x_27, .ref yp, .ref yg, .int (nI M), .ref yu, .int (nI N), .ref ysl, .ref yin, .ref yse, .ref ysp, .ref ypa, .int rA, .ref yb, .ref ybd, .ref ybc, .ref yr, .int rF, .int rP, .ref ywd, .int rS, .int rN, .int rO, .int rW, .int rL, .int rD, .ref yd, .int rI, .int rX, .int rY, .int rZ, .int rU, .ref yro, .ref yc, .ref ybe, .ref yco, .long rC, .long rV])), (yp, .inl (g.2.1 1, 3, .inl f_18)), (yg, .inl (g.2.1 1, 12, .inl f_26))]) ∧ (¬ (((w0 + w1) + w2) + w3) = 16 → Post (some (.int (-1))) [(h0, .inr (8, [.ref yt, .int rT, .int 0, .int (nI G), .ref yw, .int (nI K), .ref yp, .ref yg, .int (nI M), .ref yu, .int (nI N), .ref ysl, .ref yin, .ref yse, .ref ysp, .ref ypa, .int rA, .ref yb, .ref ybd, .ref ybc, .ref yr, .int rF, .int rP, .ref ywd, .int rS, .int rN, .int rO, .int rW, .int rL, .int rD, .ref yd, .int rI, .int rX, .int rY, .int rZ, .int rU, .ref yro, .ref yc, .ref ybe, .ref yco, .long rC, .long rV])), (yp, .inl (g.2.1 1, 3, .inl qp)), (yg, .inl (g.2.1 1, 12, .inl qg))]))))))))))))))))) : pz_At B 0 0 0 [(0, .ref h0), (1, .int p), (2, .int w0), (3, .int w1), (4, .int w2), (5, .int w3)] [] [(h0, .inr (8, [.ref yt, .int rT, .int rH, .int (nI G), .ref yw, .int (nI K), .ref yp, .ref yg, .int (nI M), .ref yu, .int (nI N), .ref ysl, .ref yin, .ref yse, .ref ysp, .ref ypa, .int rA, .ref yb, .ref ybd, .ref ybc, .ref yr, .int rF, .int rP, .ref ywd, .int rS, .int rN, .int rO, .int rW, .int rL, .int rD, .ref yd, .int rI, .int rX, .int rY, .int rZ, .int rU, .ref yro, .ref yc, .ref ybe, .ref yco, .long rC, .long rV])), (yp, .inl (g.2.1 1, 3, .inl qp)), (yg, .inl (g.2.1 1, 12, .inl qg))] := by
  refine pz_aload_n 0 F rfl dX9_kind_0 rfl ?_
  refine pz_iconst (v := 0) F dX9_kind_1 rfl ?_
  refine pz_put (ws' := [(h0, .inr (8, [.ref yt, .int rT, .int 0, .int (nI G), .ref yw, .int (nI K), .ref yp, .ref yg, .int (nI M), .ref yu, .int (nI N), .ref ysl, .ref yin, .ref yse, .ref ysp, .ref ypa, .int rA, .ref yb, .ref ybd, .ref ybc, .ref yr, .int rF, .int rP, .ref ywd, .int rS, .int rN, .int rO, .int rW, .int rL, .int rD, .ref yd, .int rI, .int rX, .int rY, .int rZ, .int rU, .ref yro, .ref yc, .ref ybe, .ref yco, .long rC, .long rV])), (yp, .inl (g.2.1 1, 3, .inl qp)), (yg, .inl (g.2.1 1, 12, .inl qg))]) (ci := 8) (C := RX9) (T := TX9) (N := 42) (v := .int 0) (ty := .int) 0 F rfl rfl pz_inX9 2 (by decide) pw_810 tyX9_ok nmX9 rfl rfl rfl rfl (Nat.le_of_ble_eq_true rfl) dX9_kind_2 rfl ?_
  refine pz_aload_n 0 F rfl dX9_kind_5 rfl ?_
  refine pz_get (ci := 8) (C := RX9) (T := TX9) (N := 42) (v := .int (nI K)) 0 F rfl rfl pz_inX9 5 (by decide) pw_813 rfl dX9_kind_6 ?_
  refine pz_iconst (v := 3) F dX9_kind_9 rfl ?_
  refine pz_icmp_eq (tgt := 76) F dX9_kind_10 (by decide) (fun q_1 => ?_) (fun q_1 => ?_)
  · replace vc := vc.1 q_1
    refine pz_iconst (v := (-1)) F dX9_kind_76 rfl ?_
    exact pz_ireturn (w1 := [(h0, .inr (8, [.ref yt, .int rT, .int 0, .int (nI G), .ref yw, .int (nI K), .ref yp, .ref yg, .int (nI M), .ref yu, .int (nI N), .ref ysl, .ref yin, .ref yse, .ref ysp, .ref ypa, .int rA, .ref yb, .ref ybd, .ref ybc, .ref yr, .int rF, .int rP, .ref ywd, .int rS, .int rN, .int rO, .int rW, .int rL, .int rD, .ref yd, .int rI, .int rX, .int rY, .int rZ, .int rU, .ref yro, .ref yc, .ref ybe, .ref yco, .long rC, .long rV])), (yp, .inl (g.2.1 1, 3, .inl qp)), (yg, .inl (g.2.1 1, 12, .inl qg))]) F Rt (by decide) (by decide) dX9_kind_77 [0, 1, 2] rfl rfl rfl vc
  · replace vc := vc.2 q_1
    refine pz_iload_n 1 F rfl dX9_kind_13 rfl ?_
    refine pz_iconst (v := 1) F dX9_kind_14 rfl ?_
    refine pz_icmp_lt (tgt := 76) F dX9_kind_15 (by decide) (fun q_2 => ?_) (fun q_2 => ?_)
    · replace vc := vc.1 q_2
      refine pz_iconst (v := (-1)) F dX9_kind_76 rfl ?_
      exact pz_ireturn (w1 := [(h0, .inr (8, [.ref yt, .int rT, .int 0, .int (nI G), .ref yw, .int (nI K), .ref yp, .ref yg, .int (nI M), .ref yu, .int (nI N), .ref ysl, .ref yin, .ref yse, .ref ysp, .ref ypa, .int rA, .ref yb, .ref ybd, .ref ybc, .ref yr, .int rF, .int rP, .ref ywd, .int rS, .int rN, .int rO, .int rW, .int rL, .int rD, .ref yd, .int rI, .int rX, .int rY, .int rZ, .int rU, .ref yro, .ref yc, .ref ybe, .ref yco, .long rC, .long rV])), (yp, .inl (g.2.1 1, 3, .inl qp)), (yg, .inl (g.2.1 1, 12, .inl qg))]) F Rt (by decide) (by decide) dX9_kind_77 [0, 1, 2] rfl rfl rfl vc
    · replace vc := vc.2 q_2
      refine pz_iload_n 1 F rfl dX9_kind_18 rfl ?_
      refine pz_bipush (v := 99) F dX9_kind_19 rfl ?_
      refine pz_icmp_gt (tgt := 76) F dX9_kind_21 (by decide) (fun q_3 => ?_) (fun q_3 => ?_)
      · replace vc := vc.1 q_3
        refine pz_iconst (v := (-1)) F dX9_kind_76 rfl ?_
        exact pz_ireturn (w1 := [(h0, .inr (8, [.ref yt, .int rT, .int 0, .int (nI G), .ref yw, .int (nI K), .ref yp, .ref yg, .int (nI M), .ref yu, .int (nI N), .ref ysl, .ref yin, .ref yse, .ref ysp, .ref ypa, .int rA, .ref yb, .ref ybd, .ref ybc, .ref yr, .int rF, .int rP, .ref ywd, .int rS, .int rN, .int rO, .int rW, .int rL, .int rD, .ref yd, .int rI, .int rX, .int rY, .int rZ, .int rU, .ref yro, .ref yc, .ref ybe, .ref yco, .long rC, .long rV])), (yp, .inl (g.2.1 1, 3, .inl qp)), (yg, .inl (g.2.1 1, 12, .inl qg))]) F Rt (by decide) (by decide) dX9_kind_77 [0, 1, 2] rfl rfl rfl vc
      · replace vc := vc.2 q_3
        refine pz_aload_n 0 F rfl dX9_kind_24 rfl ?_
        refine pz_iconst (v := 0) F dX9_kind_25 rfl ?_
        refine pz_iload_n 2 F rfl dX9_kind_26 rfl ?_
        refine pz_callV (nA := 2) (ci := 8) (C := RX9) (T := TX9) (N := 42) (As := [.int 0, .int w0]) (rest := []) (wr := [(yp, .inl (g.2.1 1, 3, .inl qp)), (yg, .inl (g.2.1 1, 12, .inl qg))]) F (ctX9_isWeight _ g 0 w0 h0 yt rT 0 yw yp yg yu ysl yin yse ysp ypa rA yb ybd ybc yr rF rP ywd rS rN rO rW rL rD yd rI rX rY rZ rU yro yc ybe yco rC rV G K M N) 0 rfl rfl pw_992 pw_994 pv_34 pw_8 pw_995 (by decide +kernel) (by decide) (by decide) rfl rfl (Nat.le_of_ble_eq_true rfl) [0] [1, 2] rfl rfl rfl rfl (by decide) dX9_kind_27 (fun r0 w0 hp0 => ?_)
        obtain ⟨r_4, _, rfl, rfl, hq_5⟩ := hp0
        replace vc := vc r_4  hq_5
        refine pz_eq (st' := [.int r_4]) (ws' := [(yp, .inl (g.2.1 1, 3, .inl qp)), (yg, .inl (g.2.1 1, 12, .inl qg)), (h0, .inr (8, [.ref yt, .int rT, .int 0, .int (nI G), .ref yw, .int (nI K), .ref yp, .ref yg, .int (nI M), .ref yu, .int (nI N), .ref ysl, .ref yin, .ref yse, .ref ysp, .ref ypa, .int rA, .ref yb, .ref ybd, .ref ybc, .ref yr, .int rF, .int rP, .ref ywd, .int rS, .int rN, .int rO, .int rW, .int rL, .int rD, .ref yd, .int rI, .int rX, .int rY, .int rZ, .int rU, .ref yro, .ref yc, .ref ybe, .ref yco, .long rC, .long rV]))]) rfl rfl ?_
        refine pz_if_eq (tgt := 76) F dX9_kind_30 (by decide) (fun q_6 => ?_) (fun q_6 => ?_)
        · replace vc := vc.1 q_6
          refine pz_iconst (v := (-1)) F dX9_kind_76 rfl ?_
          exact pz_ireturn (w1 := [(h0, .inr (8, [.ref yt, .int rT, .int 0, .int (nI G), .ref yw, .int (nI K), .ref yp, .ref yg, .int (nI M), .ref yu, .int (nI N), .ref ysl, .ref yin, .ref yse, .ref ysp, .ref ypa, .int rA, .ref yb, .ref ybd, .ref ybc, .ref yr, .int rF, .int rP, .ref ywd, .int rS, .int rN, .int rO, .int rW, .int rL, .int rD, .ref yd, .int rI, .int rX, .int rY, .int rZ, .int rU, .ref yro, .ref yc, .ref ybe, .ref yco, .long rC, .long rV])), (yp, .inl (g.2.1 1, 3, .inl qp)), (yg, .inl (g.2.1 1, 12, .inl qg))]) F Rt (by decide) (by decide) dX9_kind_77 [2, 0, 1] rfl rfl rfl vc
        · replace vc := vc.2 q_6
          refine pz_aload_n 0 F rfl dX9_kind_33 rfl ?_
          refine pz_iconst (v := 1) F dX9_kind_34 rfl ?_
          refine pz_iload_n 3 F rfl dX9_kind_35 rfl ?_
          refine pz_callV (nA := 2) (ci := 8) (C := RX9) (T := TX9) (N := 42) (As := [.int 1, .int w1]) (rest := []) (wr := [(yp, .inl (g.2.1 1, 3, .inl qp)), (yg, .inl (g.2.1 1, 12, .inl qg))]) F (ctX9_isWeight _ g 1 w1 h0 yt rT 0 yw yp yg yu ysl yin yse ysp ypa rA yb ybd ybc yr rF rP ywd rS rN rO rW rL rD yd rI rX rY rZ rU yro yc ybe yco rC rV G K M N) 2 rfl rfl pw_992 pw_994 pv_34 pw_8 pw_995 (by decide +kernel) (by decide) (by decide) rfl rfl (Nat.le_of_ble_eq_true rfl) [2] [0, 1] rfl rfl rfl rfl (by decide) dX9_kind_36 (fun r0 w0 hp0 => ?_)
          obtain ⟨r_7, _, rfl, rfl, hq_8⟩ := hp0
          replace vc := vc r_7  hq_8
          refine pz_eq (st' := [.int r_7]) (ws' := [(yp, .inl (g.2.1 1, 3, .inl qp)), (yg, .inl (g.2.1 1, 12, .inl qg)), (h0, .inr (8, [.ref yt, .int rT, .int 0, .int (nI G), .ref yw, .int (nI K), .ref yp, .ref yg, .int (nI M), .ref yu, .int (nI N), .ref ysl, .ref yin, .ref yse, .ref ysp, .ref ypa, .int rA, .ref yb, .ref ybd, .ref ybc, .ref yr, .int rF, .int rP, .ref ywd, .int rS, .int rN, .int rO, .int rW, .int rL, .int rD, .ref yd, .int rI, .int rX, .int rY, .int rZ, .int rU, .ref yro, .ref yc, .ref ybe, .ref yco, .long rC, .long rV]))]) rfl rfl ?_
          refine pz_if_eq (tgt := 76) F dX9_kind_39 (by decide) (fun q_9 => ?_) (fun q_9 => ?_)
          · replace vc := vc.1 q_9
            refine pz_iconst (v := (-1)) F dX9_kind_76 rfl ?_
            exact pz_ireturn (w1 := [(h0, .inr (8, [.ref yt, .int rT, .int 0, .int (nI G), .ref yw, .int (nI K), .ref yp, .ref yg, .int (nI M), .ref yu, .int (nI N), .ref ysl, .ref yin, .ref yse, .ref ysp, .ref ypa, .int rA, .ref yb, .ref ybd, .ref ybc, .ref yr, .int rF, .int rP, .ref ywd, .int rS, .int rN, .int rO, .int rW, .int rL, .int rD, .ref yd, .int rI, .int rX, .int rY, .int rZ, .int rU, .ref yro, .ref yc, .ref ybe, .ref yco, .long rC, .long rV])), (yp, .inl (g.2.1 1, 3, .inl qp)), (yg, .inl (g.2.1 1, 12, .inl qg))]) F Rt (by decide) (by decide) dX9_kind_77 [2, 0, 1] rfl rfl rfl vc
          · replace vc := vc.2 q_9
            refine pz_aload_n 0 F rfl dX9_kind_42 rfl ?_
            refine pz_iconst (v := 2) F dX9_kind_43 rfl ?_
            refine pz_iload 4 F rfl dX9_kind_44 ?_
            refine pz_callV (nA := 2) (ci := 8) (C := RX9) (T := TX9) (N := 42) (As := [.int 2, .int w2]) (rest := []) (wr := [(yp, .inl (g.2.1 1, 3, .inl qp)), (yg, .inl (g.2.1 1, 12, .inl qg))]) F (ctX9_isWeight _ g 2 w2 h0 yt rT 0 yw yp yg yu ysl yin yse ysp ypa rA yb ybd ybc yr rF rP ywd rS rN rO rW rL rD yd rI rX rY rZ rU yro yc ybe yco rC rV G K M N) 2 rfl rfl pw_992 pw_994 pv_34 pw_8 pw_995 (by decide +kernel) (by decide) (by decide) rfl rfl (Nat.le_of_ble_eq_true rfl) [2] [0, 1] rfl rfl rfl rfl (by decide) dX9_kind_46 (fun r0 w0 hp0 => ?_)
            obtain ⟨r_10, _, rfl, rfl, hq_11⟩ := hp0
            replace vc := vc r_10  hq_11
            refine pz_eq (st' := [.int r_10]) (ws' := [(yp, .inl (g.2.1 1, 3, .inl qp)), (yg, .inl (g.2.1 1, 12, .inl qg)), (h0, .inr (8, [.ref yt, .int rT, .int 0, .int (nI G), .ref yw, .int (nI K), .ref yp, .ref yg, .int (nI M), .ref yu, .int (nI N), .ref ysl, .ref yin, .ref yse, .ref ysp, .ref ypa, .int rA, .ref yb, .ref ybd, .ref ybc, .ref yr, .int rF, .int rP, .ref ywd, .int rS, .int rN, .int rO, .int rW, .int rL, .int rD, .ref yd, .int rI, .int rX, .int rY, .int rZ, .int rU, .ref yro, .ref yc, .ref ybe, .ref yco, .long rC, .long rV]))]) rfl rfl ?_
            refine pz_if_eq (tgt := 76) F dX9_kind_49 (by decide) (fun q_12 => ?_) (fun q_12 => ?_)
            · replace vc := vc.1 q_12
              refine pz_iconst (v := (-1)) F dX9_kind_76 rfl ?_
              exact pz_ireturn (w1 := [(h0, .inr (8, [.ref yt, .int rT, .int 0, .int (nI G), .ref yw, .int (nI K), .ref yp, .ref yg, .int (nI M), .ref yu, .int (nI N), .ref ysl, .ref yin, .ref yse, .ref ysp, .ref ypa, .int rA, .ref yb, .ref ybd, .ref ybc, .ref yr, .int rF, .int rP, .ref ywd, .int rS, .int rN, .int rO, .int rW, .int rL, .int rD, .ref yd, .int rI, .int rX, .int rY, .int rZ, .int rU, .ref yro, .ref yc, .ref ybe, .ref yco, .long rC, .long rV])), (yp, .inl (g.2.1 1, 3, .inl qp)), (yg, .inl (g.2.1 1, 12, .inl qg))]) F Rt (by decide) (by decide) dX9_kind_77 [2, 0, 1] rfl rfl rfl vc
            · replace vc := vc.2 q_12
              refine pz_aload_n 0 F rfl dX9_kind_52 rfl ?_
              refine pz_iconst (v := 3) F dX9_kind_53 rfl ?_
              refine pz_iload 5 F rfl dX9_kind_54 ?_
              refine pz_callV (nA := 2) (ci := 8) (C := RX9) (T := TX9) (N := 42) (As := [.int 3, .int w3]) (rest := []) (wr := [(yp, .inl (g.2.1 1, 3, .inl qp)), (yg, .inl (g.2.1 1, 12, .inl qg))]) F (ctX9_isWeight _ g 3 w3 h0 yt rT 0 yw yp yg yu ysl yin yse ysp ypa rA yb ybd ybc yr rF rP ywd rS rN rO rW rL rD yd rI rX rY rZ rU yro yc ybe yco rC rV G K M N) 2 rfl rfl pw_992 pw_994 pv_34 pw_8 pw_995 (by decide +kernel) (by decide) (by decide) rfl rfl (Nat.le_of_ble_eq_true rfl) [2] [0, 1] rfl rfl rfl rfl (by decide) dX9_kind_56 (fun r0 w0 hp0 => ?_)
              obtain ⟨r_13, _, rfl, rfl, hq_14⟩ := hp0
              replace vc := vc r_13  hq_14
              refine pz_eq (st' := [.int r_13]) (ws' := [(yp, .inl (g.2.1 1, 3, .inl qp)), (yg, .inl (g.2.1 1, 12, .inl qg)), (h0, .inr (8, [.ref yt, .int rT, .int 0, .int (nI G), .ref yw, .int (nI K), .ref yp, .ref yg, .int (nI M), .ref yu, .int (nI N), .ref ysl, .ref yin, .ref yse, .ref ysp, .ref ypa, .int rA, .ref yb, .ref ybd, .ref ybc, .ref yr, .int rF, .int rP, .ref ywd, .int rS, .int rN, .int rO, .int rW, .int rL, .int rD, .ref yd, .int rI, .int rX, .int rY, .int rZ, .int rU, .ref yro, .ref yc, .ref ybe, .ref yco, .long rC, .long rV]))]) rfl rfl ?_
              refine pz_if_eq (tgt := 76) F dX9_kind_59 (by decide) (fun q_15 => ?_) (fun q_15 => ?_)
              · replace vc := vc.1 q_15
                refine pz_iconst (v := (-1)) F dX9_kind_76 rfl ?_
                exact pz_ireturn (w1 := [(h0, .inr (8, [.ref yt, .int rT, .int 0, .int (nI G), .ref yw, .int (nI K), .ref yp, .ref yg, .int (nI M), .ref yu, .int (nI N), .ref ysl, .ref yin, .ref yse, .ref ysp, .ref ypa, .int rA, .ref yb, .ref ybd, .ref ybc, .ref yr, .int rF, .int rP, .ref ywd, .int rS, .int rN, .int rO, .int rW, .int rL, .int rD, .ref yd, .int rI, .int rX, .int rY, .int rZ, .int rU, .ref yro, .ref yc, .ref ybe, .ref yco, .long rC, .long rV])), (yp, .inl (g.2.1 1, 3, .inl qp)), (yg, .inl (g.2.1 1, 12, .inl qg))]) F Rt (by decide) (by decide) dX9_kind_77 [2, 0, 1] rfl rfl rfl vc
              · replace vc := vc.2 q_15
                refine pz_iload_n 2 F rfl dX9_kind_62 rfl ?_
                refine pz_iload_n 3 F rfl dX9_kind_63 rfl ?_
                refine pz_iadd F dX9_kind_64 ?_
                refine pz_iload 4 F rfl dX9_kind_65 ?_
                refine pz_iadd F dX9_kind_67 ?_
                refine pz_iload 5 F rfl dX9_kind_68 ?_
                refine pz_iadd F dX9_kind_70 ?_
                refine pz_bipush (v := 16) F dX9_kind_71 rfl ?_
                refine pz_icmp_eq (tgt := 78) F dX9_kind_73 (by decide) (fun q_16 => ?_) (fun q_16 => ?_)
                · replace vc := vc.1 q_16
                  refine pz_aload_n 0 F rfl dX9_kind_78 rfl ?_
                  refine pz_get (ci := 8) (C := RX9) (T := TX9) (N := 42) (v := .ref yp) 2 F rfl rfl pz_inX9 6 (by decide) pw_814 rfl dX9_kind_79 ?_
                  refine pz_aload_n 0 F rfl dX9_kind_82 rfl ?_
                  refine pz_get (ci := 8) (C := RX9) (T := TX9) (N := 42) (v := .int (nI K)) 2 F rfl rfl pz_inX9 5 (by decide) pw_813 rfl dX9_kind_83 ?_
                  refine pz_iload_n 1 F rfl dX9_kind_86 rfl ?_
                  obtain ⟨h_17, vc⟩ := vc
                  obtain ⟨f_18, ef_18⟩ : ∃ z : Nat → Int32, z = upd qp (nI K).toNatClampNeg p := ⟨_, rfl⟩
                  replace vc := vc f_18 ef_18
                  refine pz_iastore (ws' := [(yp, .inl (g.2.1 1, 3, .inl f_18)), (yg, .inl (g.2.1 1, 12, .inl qg)), (h0, .inr (8, [.ref yt, .int rT, .int 0, .int (nI G), .ref yw, .int (nI K), .ref yp, .ref yg, .int (nI M), .ref yu, .int (nI N), .ref ysl, .ref yin, .ref yse, .ref ysp, .ref ypa, .int rA, .ref yb, .ref ybd, .ref ybc, .ref yr, .int rF, .int rP, .ref ywd, .int rS, .int rN, .int rO, .int rW, .int rL, .int rD, .ref yd, .int rI, .int rX, .int rY, .int rZ, .int rU, .ref yro, .ref yc, .ref ybe, .ref yco, .long rC, .long rV]))]) F 0 rfl h_17 dX9_kind_87 (by rw [ef_18]; rfl) ?_
                  refine pz_aload_n 0 F rfl dX9_kind_88 rfl ?_
                  refine pz_get (ci := 8) (C := RX9) (T := TX9) (N := 42) (v := .ref yg) 2 F rfl rfl pz_inX9 7 (by decide) pw_815 rfl dX9_kind_89 ?_
                  refine pz_iconst (v := 4) F dX9_kind_92 rfl ?_
                  refine pz_aload_n 0 F rfl dX9_kind_93 rfl ?_
                  refine pz_get (ci := 8) (C := RX9) (T := TX9) (N := 42) (v := .int (nI K)) 2 F rfl rfl pz_inX9 5 (by decide) pw_813 rfl dX9_kind_94 ?_
                  refine pz_imul F dX9_kind_97 ?_
                  refine pz_iload_n 2 F rfl dX9_kind_98 rfl ?_
                  obtain ⟨h_19, vc⟩ := vc
                  obtain ⟨f_20, ef_20⟩ : ∃ z : Nat → Int32, z = upd qg (4 * (nI K)).toNatClampNeg w0 := ⟨_, rfl⟩
                  replace vc := vc f_20 ef_20
                  refine pz_iastore (ws' := [(yp, .inl (g.2.1 1, 3, .inl f_18)), (yg, .inl (g.2.1 1, 12, .inl f_20)), (h0, .inr (8, [.ref yt, .int rT, .int 0, .int (nI G), .ref yw, .int (nI K), .ref yp, .ref yg, .int (nI M), .ref yu, .int (nI N), .ref ysl, .ref yin, .ref yse, .ref ysp, .ref ypa, .int rA, .ref yb, .ref ybd, .ref ybc, .ref yr, .int rF, .int rP, .ref ywd, .int rS, .int rN, .int rO, .int rW, .int rL, .int rD, .ref yd, .int rI, .int rX, .int rY, .int rZ, .int rU, .ref yro, .ref yc, .ref ybe, .ref yco, .long rC, .long rV]))]) F 1 rfl h_19 dX9_kind_99 (by rw [ef_20]; rfl) ?_
                  refine pz_aload_n 0 F rfl dX9_kind_100 rfl ?_
                  refine pz_get (ci := 8) (C := RX9) (T := TX9) (N := 42) (v := .ref yg) 2 F rfl rfl pz_inX9 7 (by decide) pw_815 rfl dX9_kind_101 ?_
                  refine pz_iconst (v := 4) F dX9_kind_104 rfl ?_
                  refine pz_aload_n 0 F rfl dX9_kind_105 rfl ?_
                  refine pz_get (ci := 8) (C := RX9) (T := TX9) (N := 42) (v := .int (nI K)) 2 F rfl rfl pz_inX9 5 (by decide) pw_813 rfl dX9_kind_106 ?_
                  refine pz_imul F dX9_kind_109 ?_
                  refine pz_iconst (v := 1) F dX9_kind_110 rfl ?_
                  refine pz_iadd F dX9_kind_111 ?_
                  refine pz_iload_n 3 F rfl dX9_kind_112 rfl ?_
                  obtain ⟨h_21, vc⟩ := vc
                  obtain ⟨f_22, ef_22⟩ : ∃ z : Nat → Int32, z = upd f_20 ((4 * (nI K)) + 1).toNatClampNeg w1 := ⟨_, rfl⟩
                  replace vc := vc f_22 ef_22
                  refine pz_iastore (ws' := [(yp, .inl (g.2.1 1, 3, .inl f_18)), (yg, .inl (g.2.1 1, 12, .inl f_22)), (h0, .inr (8, [.ref yt, .int rT, .int 0, .int (nI G), .ref yw, .int (nI K), .ref yp, .ref yg, .int (nI M), .ref yu, .int (nI N), .ref ysl, .ref yin, .ref yse, .ref ysp, .ref ypa, .int rA, .ref yb, .ref ybd, .ref ybc, .ref yr, .int rF, .int rP, .ref ywd, .int rS, .int rN, .int rO, .int rW, .int rL, .int rD, .ref yd, .int rI, .int rX, .int rY, .int rZ, .int rU, .ref yro, .ref yc, .ref ybe, .ref yco, .long rC, .long rV]))]) F 1 rfl h_21 dX9_kind_113 (by rw [ef_22]; rfl) ?_
                  refine pz_aload_n 0 F rfl dX9_kind_114 rfl ?_
                  refine pz_get (ci := 8) (C := RX9) (T := TX9) (N := 42) (v := .ref yg) 2 F rfl rfl pz_inX9 7 (by decide) pw_815 rfl dX9_kind_115 ?_
                  refine pz_iconst (v := 4) F dX9_kind_118 rfl ?_
                  refine pz_aload_n 0 F rfl dX9_kind_119 rfl ?_
                  refine pz_get (ci := 8) (C := RX9) (T := TX9) (N := 42) (v := .int (nI K)) 2 F rfl rfl pz_inX9 5 (by decide) pw_813 rfl dX9_kind_120 ?_
                  refine pz_imul F dX9_kind_123 ?_
                  refine pz_iconst (v := 2) F dX9_kind_124 rfl ?_
                  refine pz_iadd F dX9_kind_125 ?_
                  refine pz_iload 4 F rfl dX9_kind_126 ?_
                  obtain ⟨h_23, vc⟩ := vc
                  obtain ⟨f_24, ef_24⟩ : ∃ z : Nat → Int32, z = upd f_22 ((4 * (nI K)) + 2).toNatClampNeg w2 := ⟨_, rfl⟩
                  replace vc := vc f_24 ef_24
                  refine pz_iastore (ws' := [(yp, .inl (g.2.1 1, 3, .inl f_18)), (yg, .inl (g.2.1 1, 12, .inl f_24)), (h0, .inr (8, [.ref yt, .int rT, .int 0, .int (nI G), .ref yw, .int (nI K), .ref yp, .ref yg, .int (nI M), .ref yu, .int (nI N), .ref ysl, .ref yin, .ref yse, .ref ysp, .ref ypa, .int rA, .ref yb, .ref ybd, .ref ybc, .ref yr, .int rF, .int rP, .ref ywd, .int rS, .int rN, .int rO, .int rW, .int rL, .int rD, .ref yd, .int rI, .int rX, .int rY, .int rZ, .int rU, .ref yro, .ref yc, .ref ybe, .ref yco, .long rC, .long rV]))]) F 1 rfl h_23 dX9_kind_128 (by rw [ef_24]; rfl) ?_
                  refine pz_aload_n 0 F rfl dX9_kind_129 rfl ?_
                  refine pz_get (ci := 8) (C := RX9) (T := TX9) (N := 42) (v := .ref yg) 2 F rfl rfl pz_inX9 7 (by decide) pw_815 rfl dX9_kind_130 ?_
                  refine pz_iconst (v := 4) F dX9_kind_133 rfl ?_
                  refine pz_aload_n 0 F rfl dX9_kind_134 rfl ?_
                  refine pz_get (ci := 8) (C := RX9) (T := TX9) (N := 42) (v := .int (nI K)) 2 F rfl rfl pz_inX9 5 (by decide) pw_813 rfl dX9_kind_135 ?_
                  refine pz_imul F dX9_kind_138 ?_
                  refine pz_iconst (v := 3) F dX9_kind_139 rfl ?_
                  refine pz_iadd F dX9_kind_140 ?_
                  refine pz_iload 5 F rfl dX9_kind_141 ?_
                  obtain ⟨h_25, vc⟩ := vc
                  obtain ⟨f_26, ef_26⟩ : ∃ z : Nat → Int32, z = upd f_24 ((4 * (nI K)) + 3).toNatClampNeg w3 := ⟨_, rfl⟩
                  replace vc := vc f_26 ef_26
                  refine pz_iastore (ws' := [(yp, .inl (g.2.1 1, 3, .inl f_18)), (yg, .inl (g.2.1 1, 12, .inl f_26)), (h0, .inr (8, [.ref yt, .int rT, .int 0, .int (nI G), .ref yw, .int (nI K), .ref yp, .ref yg, .int (nI M), .ref yu, .int (nI N), .ref ysl, .ref yin, .ref yse, .ref ysp, .ref ypa, .int rA, .ref yb, .ref ybd, .ref ybc, .ref yr, .int rF, .int rP, .ref ywd, .int rS, .int rN, .int rO, .int rW, .int rL, .int rD, .ref yd, .int rI, .int rX, .int rY, .int rZ, .int rU, .ref yro, .ref yc, .ref ybe, .ref yco, .long rC, .long rV]))]) F 1 rfl h_25 dX9_kind_143 (by rw [ef_26]; rfl) ?_
                  refine pz_aload_n 0 F rfl dX9_kind_144 rfl ?_
                  refine pz_dup F dX9_kind_145 rfl ?_
                  refine pz_get (ci := 8) (C := RX9) (T := TX9) (N := 42) (v := .int (nI K)) 2 F rfl rfl pz_inX9 5 (by decide) pw_813 rfl dX9_kind_146 ?_
                  refine pz_iconst (v := 1) F dX9_kind_149 rfl ?_
                  refine pz_iadd F dX9_kind_150 ?_
                  refine pz_topi (fun x_27 ex_27 => ?_)
                  replace vc := vc x_27 ex_27
                  refine pz_put (ws' := [(yp, .inl (g.2.1 1, 3, .inl f_18)), (yg, .inl (g.2.1 1, 12, .inl f_26)), (h0, .inr (8, [.ref yt, .int rT, .int 0, .int (nI G), .ref yw, .int x_27, .ref yp, .ref yg, .int (nI M), .ref yu, .int (nI N), .ref ysl, .ref yin, .ref yse, .ref ysp, .ref ypa, .int rA, .ref yb, .ref ybd, .ref ybc, .ref yr, .int rF, .int rP, .ref ywd, .int rS, .int rN, .int rO, .int rW, .int rL, .int rD, .ref yd, .int rI, .int rX, .int rY, .int rZ, .int rU, .ref yro, .ref yc, .ref ybe, .ref yco, .long rC, .long rV]))]) (ci := 8) (C := RX9) (T := TX9) (N := 42) (v := .int x_27) (ty := .int) 2 F rfl rfl pz_inX9 5 (by decide) pw_813 tyX9_ok nmX9 rfl rfl rfl rfl (Nat.le_of_ble_eq_true rfl) dX9_kind_151 rfl ?_
                  refine pz_aload_n 0 F rfl dX9_kind_154 rfl ?_
                  refine pz_get (ci := 8) (C := RX9) (T := TX9) (N := 42) (v := .int x_27) 2 F rfl rfl pz_inX9 5 (by decide) pw_813 rfl dX9_kind_155 ?_
                  refine pz_iconst (v := 1) F dX9_kind_158 rfl ?_
                  refine pz_isub F dX9_kind_159 ?_
                  refine pz_topi (fun x_28 ex_28 => ?_)
                  replace vc := vc x_28 ex_28
                  exact pz_ireturn (w1 := [(h0, .inr (8, [.ref yt, .int rT, .int 0, .int (nI G), .ref yw, .int x_27, .ref yp, .ref yg, .int (nI M), .ref yu, .int (nI N), .ref ysl, .ref yin, .ref yse, .ref ysp, .ref ypa, .int rA, .ref yb, .ref ybd, .ref ybc, .ref yr, .int rF, .int rP, .ref ywd, .int rS, .int rN, .int rO, .int rW, .int rL, .int rD, .ref yd, .int rI, .int rX, .int rY, .int rZ, .int rU, .ref yro, .ref yc, .ref ybe, .ref yco, .long rC, .long rV])), (yp, .inl (g.2.1 1, 3, .inl f_18)), (yg, .inl (g.2.1 1, 12, .inl f_26))]) F Rt (by decide) (by decide) dX9_kind_160 [2, 0, 1] rfl rfl rfl vc
                · replace vc := vc.2 q_16
                  refine pz_iconst (v := (-1)) F dX9_kind_76 rfl ?_
                  exact pz_ireturn (w1 := [(h0, .inr (8, [.ref yt, .int rT, .int 0, .int (nI G), .ref yw, .int (nI K), .ref yp, .ref yg, .int (nI M), .ref yu, .int (nI N), .ref ysl, .ref yin, .ref yse, .ref ysp, .ref ypa, .int rA, .ref yb, .ref ybd, .ref ybc, .ref yr, .int rF, .int rP, .ref ywd, .int rS, .int rN, .int rO, .int rW, .int rL, .int rD, .ref yd, .int rI, .int rX, .int rY, .int rZ, .int rU, .ref yro, .ref yc, .ref ybe, .ref yco, .long rC, .long rV])), (yp, .inl (g.2.1 1, 3, .inl qp)), (yg, .inl (g.2.1 1, 12, .inl qg))]) F Rt (by decide) (by decide) dX9_kind_77 [2, 0, 1] rfl rfl rfl vc
set_option maxHeartbeats 4000000 in
set_option maxRecDepth 100000 in
theorem ctX9_kind (l : Launch) (g : pz_G) (p : Int32) (w0 : Int32) (w1 : Int32) (w2 : Int32) (w3 : Int32) (h0 : Nat) (yt : Nat) (rT : Int32) (rH : Int32) (yw : Nat) (yp : Nat) (yg : Nat) (yu : Nat) (ysl : Nat) (yin : Nat) (yse : Nat) (ysp : Nat) (ypa : Nat) (rA : Int32) (yb : Nat) (ybd : Nat) (ybc : Nat) (yr : Nat) (rF : Int32) (rP : Int32) (ywd : Nat) (rS : Int32) (rN : Int32) (rO : Int32) (rW : Int32) (rL : Int32) (rD : Int32) (yd : Nat) (rI : Int32) (rX : Int32) (rY : Int32) (rZ : Int32) (rU : Int32) (yro : Nat) (yc : Nat) (ybe : Nat) (yco : Nat) (rC : Int64) (rV : Int64) (qp : Nat → Int32) (qg : Nat → Int32) (G : Nat) (K : Nat) (M : Nat) (N : Nat) (hpre : K ≤ 3) : pz_Ct l g yX9_kind cX9_kind 6 (some .int) rmX9_kind [.ref h0, .int p, .int w0, .int w1, .int w2, .int w3] [(h0, .inr (8, [.ref yt, .int rT, .int rH, .int (nI G), .ref yw, .int (nI K), .ref yp, .ref yg, .int (nI M), .ref yu, .int (nI N), .ref ysl, .ref yin, .ref yse, .ref ysp, .ref ypa, .int rA, .ref yb, .ref ybd, .ref ybc, .ref yr, .int rF, .int rP, .ref ywd, .int rS, .int rN, .int rO, .int rW, .int rL, .int rD, .ref yd, .int rI, .int rX, .int rY, .int rZ, .int rU, .ref yro, .ref yc, .ref ybe, .ref yco, .long rC, .long rV])), (yp, .inl (g.2.1 1, 3, .inl qp)), (yg, .inl (g.2.1 1, 12, .inl qg))] (pz_pi (fun (r : Int32) (u : Int32 × (Nat → Int32) × (Nat → Int32)) => ((K < 3 ∧ ¬ p < 1 ∧ ¬ (99 : Int32) < p ∧ we_r (nI G) 0 w0 = 1 ∧ we_r (nI G) 1 w1 = 1 ∧ we_r (nI G) 2 w2 = 1 ∧ we_r (nI G) 3 w3 = 1 ∧ w0 + w1 + w2 + w3 = 16) ∧ r = nI K ∧ u.1 = nI (K + 1) ∧ u.2.1 = upd qp K p ∧ u.2.2 = upd (upd (upd (upd qg (4 * K) w0) (4 * K + 1) w1) (4 * K + 2) w2) (4 * K + 3) w3) ∨ (¬ (K < 3 ∧ ¬ p < 1 ∧ ¬ (99 : Int32) < p ∧ we_r (nI G) 0 w0 = 1 ∧ we_r (nI G) 1 w1 = 1 ∧ we_r (nI G) 2 w2 = 1 ∧ we_r (nI G) 3 w3 = 1 ∧ w0 + w1 + w2 + w3 = 16) ∧ r = -1 ∧ u.1 = nI K ∧ u.2.1 = qp ∧ u.2.2 = qg)) (fun (u : Int32 × (Nat → Int32) × (Nat → Int32)) => [(h0, .inr (8, [.ref yt, .int rT, .int 0, .int (nI G), .ref yw, .int u.1, .ref yp, .ref yg, .int (nI M), .ref yu, .int (nI N), .ref ysl, .ref yin, .ref yse, .ref ysp, .ref ypa, .int rA, .ref yb, .ref ybd, .ref ybc, .ref yr, .int rF, .int rP, .ref ywd, .int rS, .int rN, .int rO, .int rW, .int rL, .int rD, .ref yd, .int rI, .int rX, .int rY, .int rZ, .int rU, .ref yro, .ref yc, .ref ybe, .ref yco, .long rC, .long rV])), (yp, .inl (g.2.1 1, 3, .inl u.2.1)), (yg, .inl (g.2.1 1, 12, .inl u.2.2))])) := by
  refine pz_ofAt (by decide +kernel) (Nat.le_of_ble_eq_true rfl) (fun B F Rt hme => ?_)
  have hno : ∀ {g w : Int32}, we_r (nI G) g w = 0 → ¬ we_r (nI G) g w = 1 := fun h e => absurd (h.symm.trans e) (by decide)
  have hyes : ∀ {g w : Int32}, ¬ we_r (nI G) g w = 0 → we_r (nI G) g w = 1 := fun {g w} h => by
    revert h
    unfold we_r
    split
    · exact fun h => absurd rfl h
    · split
      · exact fun h => absurd rfl h
      · split
        · exact fun _ => rfl
        · split
          · exact fun h => absurd rfl h
          · exact fun _ => rfl
  refine sgX9_kind_0 F Rt p w0 w1 w2 w3 h0 yt rT rH yw yp yg yu ysl yin yse ysp ypa rA yb ybd ybc yr rF rP ywd rS rN rO rW rL rD yd rI rX rY rZ rU yro yc ybe yco rC rV qp qg G K M N ?_
  clear F Rt hme
  refine ⟨fun q => ⟨_, (_, _, _), rfl, rfl, Or.inr ⟨fun h => ?_, rfl, rfl, rfl, rfl⟩⟩, fun q => ⟨fun q2 => ⟨_, (_, _, _), rfl, rfl, Or.inr ⟨fun h => h.2.1 q2, rfl, rfl, rfl, rfl⟩⟩, fun q2 => ⟨fun q3 => ⟨_, (_, _, _), rfl, rfl, Or.inr ⟨fun h => h.2.2.1 q3, rfl, rfl, rfl, rfl⟩⟩, fun q3 r0 h0' => ⟨fun q4 => ⟨_, (_, _, _), rfl, rfl, Or.inr ⟨fun h => hno (h0'.symm.trans q4) h.2.2.2.1, rfl, rfl, rfl, rfl⟩⟩, fun q4 r1 h1 => ⟨fun q5 => ⟨_, (_, _, _), rfl, rfl, Or.inr ⟨fun h => hno (h1.symm.trans q5) h.2.2.2.2.1, rfl, rfl, rfl, rfl⟩⟩, fun q5 r2 h2 => ⟨fun q6 => ⟨_, (_, _, _), rfl, rfl, Or.inr ⟨fun h => hno (h2.symm.trans q6) h.2.2.2.2.2.1, rfl, rfl, rfl, rfl⟩⟩, fun q6 r3 h3 => ⟨fun q7 => ⟨_, (_, _, _), rfl, rfl, Or.inr ⟨fun h => hno (h3.symm.trans q7) h.2.2.2.2.2.2.1, rfl, rfl, rfl, rfl⟩⟩, fun q7 => ⟨fun q8 => ?_, fun q8 => ⟨_, (_, _, _), rfl, rfl, Or.inr ⟨fun h => q8 h.2.2.2.2.2.2.2, rfl, rfl, rfl, rfl⟩⟩⟩⟩⟩⟩⟩⟩⟩⟩
  · have h5 : K = 3 := (nI_eq (b := 3) (by omega) (by omega)).mp q
    have := h.1
    omega
  · have hK3 : K < 3 := by
      rcases Nat.lt_or_ge K 3 with h | h
      · exact h
      · exact absurd (show nI K = 3 from congrArg nI (show K = 3 by omega)) q
    refine ⟨vp_in_nI hK3 (by omega), ?_⟩
    rintro f rfl
    have e1 : nI (4 * K) + 1 = nI (4 * K + 1) := nI_add _ 1
    have e2 : nI (4 * K) + 2 = nI (4 * K + 2) := nI_add _ 2
    have e3 : nI (4 * K) + 3 = nI (4 * K + 3) := nI_add _ 3
    rw [pu_40, e1, e2, e3]
    refine ⟨vp_in_nI (by omega) (by omega), ?_⟩
    rintro f1 rfl
    refine ⟨vp_in_nI (by omega) (by omega), ?_⟩
    rintro f2 rfl
    refine ⟨vp_in_nI (by omega) (by omega), ?_⟩
    rintro f3 rfl
    refine ⟨vp_in_nI (by omega) (by omega), ?_⟩
    rintro f4 rfl x1 rfl x2 rfl
    rw [nI_clamp (by omega), nI_clamp (by omega), nI_clamp (by omega), nI_clamp (by omega), nI_clamp (by omega)]
    exact ⟨_, (_, _, _), rfl, rfl, Or.inl ⟨⟨hK3, q2, q3, hyes (fun e => q4 (h0'.trans e)), hyes (fun e => q5 (h1.trans e)), hyes (fun e => q6 (h2.trans e)), hyes (fun e => q7 (h3.trans e)), q8⟩, by rw [nI_1, nI_pred], nI_1 K, rfl, rfl⟩⟩
