section LAW2
abbrev lw_w (g : pz_G) (ad rd : Nat → Nat) (o : Nat) (s : cs_S) (t : rs_S) (fo : Nat → Int64) : va_W := (lo_c g o fo ++ RWd g rd t) ++ CW g ad s
set_option maxHeartbeats 4000000 in
set_option maxRecDepth 100000 in
theorem lwc_feed {B : pz_B} {g : pz_G} {b L o K N i : Nat} {xs : Nat → Int32} {ad rd : Nat → Nat} {s : cs_S} {t : rs_S} {fo : Nat → Int64} (F : pz_F B cL_law 7 ret "StoneHallLaw" g room_1) (hX : lw_X B b L xs) (hi : 6 * i + 6 ≤ L) (hL : L ≤ 3072) (hR : Rel s t i) (hc : K + 10 ≤ 601024 ∧ N + 80 ≤ 7293034)
    (h : ∀ s' t' fo', Rel s' t' (i + 1) → pz_At B (K + 10) (N + 80) 922 (lw_lv b (ad 0) (rd 0) o i) [] (lw_w g ad rd o s' t' fo')) : pz_At B K N 136 (lw_lv b (ad 0) (rd 0) o i) [] (lw_w g ad rd o s t fo) := by
  obtain ⟨Q, Q', ⟨Rc, ⟨r1, r2, r3, r4⟩, hM⟩, ⟨Rr, ⟨q1, q2, q3, q4⟩, hM'⟩, hp⟩ := pr_feed B.1.2.1 g ad rd (xs (6 * i + 1)) (xs (6 * i + 2)) (xs (6 * i + 3)) (xs (6 * i + 4)) (xs (6 * i + 5)) s t i hR (by omega)
  refine pz_aload_n 2 F rfl dL_law_136 rfl ?_
  refine ar_ld (q := 1) (h := ad 0) (r := rd 0) (o := o) F hX hi hL (by omega) rfl rfl rfl dL_law_137 dL_law_138 dL_law_140 dL_law_141 dL_law_142 ?_
  refine ar_ld (q := 2) (h := ad 0) (r := rd 0) (o := o) F hX hi hL (by omega) rfl rfl rfl dL_law_143 dL_law_144 dL_law_146 dL_law_147 dL_law_148 ?_
  refine ar_ld (q := 3) (h := ad 0) (r := rd 0) (o := o) F hX hi hL (by omega) rfl rfl rfl dL_law_149 dL_law_150 dL_law_152 dL_law_153 dL_law_154 ?_
  refine ar_ld (q := 4) (h := ad 0) (r := rd 0) (o := o) F hX hi hL (by omega) rfl rfl rfl dL_law_155 dL_law_156 dL_law_158 dL_law_159 dL_law_160 ?_
  refine ar_ld (q := 5) (h := ad 0) (r := rd 0) (o := o) F hX hi hL (by omega) rfl rfl rfl dL_law_161 dL_law_162 dL_law_164 dL_law_165 dL_law_166 ?_
  refine pz_callW (nA := 5) (ci := 7) (C := RX8) (T := TX8) (N := 8) (As := [.int (xs (6 * i + 1)), .int (xs (6 * i + 2)), .int (xs (6 * i + 3)), .int (xs (6 * i + 4)), .int (xs (6 * i + 5))]) (rest := []) (wr := lo_c g o fo ++ RWd g rd t) F hM rfl rfl pw_235 pw_236 pw_237 pw_1 pw_238 (by decide +kernel) ⟨by show Rc.frames + 1 ≤ 12; omega, by show 8 + (6 + 11) + Rc.locals ≤ 440; omega⟩ ⟨by show K + Rc.cells ≤ 601024; omega, by show N + Rc.slots ≤ 7293034; omega⟩ rfl rfl (Nat.le_of_ble_eq_true rfl) dL_law_167 ?_
  rintro _ _ ⟨z, s', rfl, rfl, hq⟩
  refine pz_aload_n 3 F rfl dL_law_170 rfl ?_
  refine ar_ld (q := 1) (h := ad 0) (r := rd 0) (o := o) F hX hi hL (by omega) rfl rfl rfl dL_law_171 dL_law_172 dL_law_174 dL_law_175 dL_law_176 ?_
  refine ar_ld (q := 2) (h := ad 0) (r := rd 0) (o := o) F hX hi hL (by omega) rfl rfl rfl dL_law_177 dL_law_178 dL_law_180 dL_law_181 dL_law_182 ?_
  refine ar_ld (q := 3) (h := ad 0) (r := rd 0) (o := o) F hX hi hL (by omega) rfl rfl rfl dL_law_183 dL_law_184 dL_law_186 dL_law_187 dL_law_188 ?_
  refine ar_ld (q := 4) (h := ad 0) (r := rd 0) (o := o) F hX hi hL (by omega) rfl rfl rfl dL_law_189 dL_law_190 dL_law_192 dL_law_193 dL_law_194 ?_
  refine ar_ld (q := 5) (h := ad 0) (r := rd 0) (o := o) F hX hi hL (by omega) rfl rfl rfl dL_law_195 dL_law_196 dL_law_198 dL_law_199 dL_law_200 ?_
  refine pz_perm (pm_sw _ _ _) ?_
  refine pz_callW (nA := 5) (ci := 8) (C := RX9) (T := TX9) (N := 42) (As := [.int (xs (6 * i + 1)), .int (xs (6 * i + 2)), .int (xs (6 * i + 3)), .int (xs (6 * i + 4)), .int (xs (6 * i + 5))]) (rest := [.int z]) (wr := lo_c g o fo ++ CW g ad s') F hM' rfl rfl pw_939 pw_940 pw_941 pw_8 pw_942 (by decide +kernel) ⟨by show Rr.frames + 1 ≤ 12; omega, by show 8 + (8 + 11) + Rr.locals ≤ 440; omega⟩ ⟨by show K + Rc.cells + Rr.cells ≤ 601024; omega, by show N + Rc.slots + Rr.slots ≤ 7293034; omega⟩ rfl rfl (Nat.le_of_ble_eq_true rfl) dL_law_201 ?_
  rintro _ _ ⟨z', t', rfl, rfl, hq'⟩
  refine pz_perm (pm_sw _ _ _) ?_
  obtain ⟨e, hR'⟩ := hp z s' z' t' hq hq'
  refine pz_icmp_eq (tgt := 922) F dL_law_204 (by decide) (fun _ => ?_) (fun hne => absurd e hne)
  exact pz_wid (by omega) (by omega) (h s' t' fo hR')
set_option maxHeartbeats 4000000 in
set_option maxRecDepth 100000 in
theorem lwc_customs {B : pz_B} {g : pz_G} {b L o K N i : Nat} {xs : Nat → Int32} {ad rd : Nat → Nat} {s : cs_S} {t : rs_S} {fo : Nat → Int64} (F : pz_F B cL_law 7 ret "StoneHallLaw" g room_1) (hX : lw_X B b L xs) (hi : 6 * i + 6 ≤ L) (hL : L ≤ 3072) (hR : Rel s t i) (hc : K + 10 ≤ 601024 ∧ N + 80 ≤ 7293034)
    (h : ∀ s' t' fo', Rel s' t' (i + 1) → pz_At B (K + 10) (N + 80) 922 (lw_lv b (ad 0) (rd 0) o i) [] (lw_w g ad rd o s' t' fo')) : pz_At B K N 209 (lw_lv b (ad 0) (rd 0) o i) [] (lw_w g ad rd o s t fo) := by
  obtain ⟨Q, Q', ⟨Rc, ⟨r1, r2, r3, r4⟩, hM⟩, ⟨Rr, ⟨q1, q2, q3, q4⟩, hM'⟩, hp⟩ := pr_customs B.1.2.1 g ad rd (xs (6 * i + 1)) s t i hR (by omega)
  refine pz_aload_n 2 F rfl dL_law_209 rfl ?_
  refine ar_ld (q := 1) (h := ad 0) (r := rd 0) (o := o) F hX hi hL (by omega) rfl rfl rfl dL_law_210 dL_law_211 dL_law_213 dL_law_214 dL_law_215 ?_
  refine pz_callW (nA := 1) (ci := 7) (C := RX8) (T := TX8) (N := 8) (As := [.int (xs (6 * i + 1))]) (rest := []) (wr := lo_c g o fo ++ RWd g rd t) F hM rfl rfl pw_247 pw_248 pw_249 pw_1 pw_250 (by decide +kernel) ⟨by show Rc.frames + 1 ≤ 12; omega, by show 8 + (3 + 11) + Rc.locals ≤ 440; omega⟩ ⟨by show K + Rc.cells ≤ 601024; omega, by show N + Rc.slots ≤ 7293034; omega⟩ rfl rfl (Nat.le_of_ble_eq_true rfl) dL_law_216 ?_
  rintro _ _ ⟨z, s', rfl, rfl, hq⟩
  refine pz_aload_n 3 F rfl dL_law_219 rfl ?_
  refine ar_ld (q := 1) (h := ad 0) (r := rd 0) (o := o) F hX hi hL (by omega) rfl rfl rfl dL_law_220 dL_law_221 dL_law_223 dL_law_224 dL_law_225 ?_
  refine pz_perm (pm_sw _ _ _) ?_
  refine pz_callW (nA := 1) (ci := 8) (C := RX9) (T := TX9) (N := 42) (As := [.int (xs (6 * i + 1))]) (rest := [.int z]) (wr := lo_c g o fo ++ CW g ad s') F hM' rfl rfl pw_943 pw_944 pw_945 pw_8 pw_946 (by decide +kernel) ⟨by show Rr.frames + 1 ≤ 12; omega, by show 8 + (4 + 11) + Rr.locals ≤ 440; omega⟩ ⟨by show K + Rc.cells + Rr.cells ≤ 601024; omega, by show N + Rc.slots + Rr.slots ≤ 7293034; omega⟩ rfl rfl (Nat.le_of_ble_eq_true rfl) dL_law_226 ?_
  rintro _ _ ⟨z', t', rfl, rfl, hq'⟩
  refine pz_perm (pm_sw _ _ _) ?_
  obtain ⟨e, hR'⟩ := hp z s' z' t' hq hq'
  refine pz_icmp_eq (tgt := 922) F dL_law_229 (by decide) (fun _ => ?_) (fun hne => absurd e hne)
  exact pz_wid (by omega) (by omega) (h s' t' fo hR')
set_option maxHeartbeats 4000000 in
set_option maxRecDepth 100000 in
theorem lwc_fault {B : pz_B} {g : pz_G} {b L o K N i : Nat} {xs : Nat → Int32} {ad rd : Nat → Nat} {s : cs_S} {t : rs_S} {fo : Nat → Int64} (F : pz_F B cL_law 7 ret "StoneHallLaw" g room_1) (hX : lw_X B b L xs) (hi : 6 * i + 6 ≤ L) (hL : L ≤ 3072) (hR : Rel s t i) (hc : K + 10 ≤ 601024 ∧ N + 80 ≤ 7293034)
    (h : ∀ s' t' fo', Rel s' t' (i + 1) → pz_At B (K + 10) (N + 80) 922 (lw_lv b (ad 0) (rd 0) o i) [] (lw_w g ad rd o s' t' fo')) : pz_At B K N 234 (lw_lv b (ad 0) (rd 0) o i) [] (lw_w g ad rd o s t fo) := by
  obtain ⟨Q, Q', ⟨Rc, ⟨r1, r2, r3, r4⟩, hM⟩, ⟨Rr, ⟨q1, q2, q3, q4⟩, hM'⟩, hp⟩ := pr_fault B.1.2.1 g ad rd (xs (6 * i + 1)) s t i hR (by omega)
  refine pz_aload_n 2 F rfl dL_law_234 rfl ?_
  refine ar_ld (q := 1) (h := ad 0) (r := rd 0) (o := o) F hX hi hL (by omega) rfl rfl rfl dL_law_235 dL_law_236 dL_law_238 dL_law_239 dL_law_240 ?_
  refine pz_callW (nA := 1) (ci := 7) (C := RX8) (T := TX8) (N := 8) (As := [.int (xs (6 * i + 1))]) (rest := []) (wr := lo_c g o fo ++ RWd g rd t) F hM rfl rfl pw_384 pw_385 pw_386 pw_1 pw_387 (by decide +kernel) ⟨by show Rc.frames + 1 ≤ 12; omega, by show 8 + (2 + 11) + Rc.locals ≤ 440; omega⟩ ⟨by show K + Rc.cells ≤ 601024; omega, by show N + Rc.slots ≤ 7293034; omega⟩ rfl rfl (Nat.le_of_ble_eq_true rfl) dL_law_241 ?_
  rintro _ _ ⟨z, s', rfl, rfl, hq⟩
  refine pz_aload_n 3 F rfl dL_law_244 rfl ?_
  refine ar_ld (q := 1) (h := ad 0) (r := rd 0) (o := o) F hX hi hL (by omega) rfl rfl rfl dL_law_245 dL_law_246 dL_law_248 dL_law_249 dL_law_250 ?_
  refine pz_perm (pm_sw _ _ _) ?_
  refine pz_callW (nA := 1) (ci := 8) (C := RX9) (T := TX9) (N := 42) (As := [.int (xs (6 * i + 1))]) (rest := [.int z]) (wr := lo_c g o fo ++ CW g ad s') F hM' rfl rfl pw_980 pw_981 pw_982 pw_8 pw_983 (by decide +kernel) ⟨by show Rr.frames + 1 ≤ 12; omega, by show 8 + (2 + 11) + Rr.locals ≤ 440; omega⟩ ⟨by show K + Rc.cells + Rr.cells ≤ 601024; omega, by show N + Rc.slots + Rr.slots ≤ 7293034; omega⟩ rfl rfl (Nat.le_of_ble_eq_true rfl) dL_law_251 ?_
  rintro _ _ ⟨z', t', rfl, rfl, hq'⟩
  refine pz_perm (pm_sw _ _ _) ?_
  obtain ⟨e, hR'⟩ := hp z s' z' t' hq hq'
  refine pz_icmp_eq (tgt := 922) F dL_law_254 (by decide) (fun _ => ?_) (fun hne => absurd e hne)
  exact pz_wid (by omega) (by omega) (h s' t' fo hR')
set_option maxHeartbeats 4000000 in
set_option maxRecDepth 100000 in
theorem lwc_grade {B : pz_B} {g : pz_G} {b L o K N i : Nat} {xs : Nat → Int32} {ad rd : Nat → Nat} {s : cs_S} {t : rs_S} {fo : Nat → Int64} (F : pz_F B cL_law 7 ret "StoneHallLaw" g room_1) (hX : lw_X B b L xs) (hi : 6 * i + 6 ≤ L) (hL : L ≤ 3072) (hR : Rel s t i) (hc : K + 10 ≤ 601024 ∧ N + 80 ≤ 7293034)
    (h : ∀ s' t' fo', Rel s' t' (i + 1) → pz_At B (K + 10) (N + 80) 922 (lw_lv b (ad 0) (rd 0) o i) [] (lw_w g ad rd o s' t' fo')) : pz_At B K N 259 (lw_lv b (ad 0) (rd 0) o i) [] (lw_w g ad rd o s t fo) := by
  obtain ⟨Q, Q', ⟨Rc, ⟨r1, r2, r3, r4⟩, hM⟩, ⟨Rr, ⟨q1, q2, q3, q4⟩, hM'⟩, hp⟩ := pr_grade B.1.2.1 g ad rd (xs (6 * i + 1)) s t i hR (by omega)
  refine pz_aload_n 2 F rfl dL_law_259 rfl ?_
  refine ar_ld (q := 1) (h := ad 0) (r := rd 0) (o := o) F hX hi hL (by omega) rfl rfl rfl dL_law_260 dL_law_261 dL_law_263 dL_law_264 dL_law_265 ?_
  refine pz_callW (nA := 1) (ci := 7) (C := RX8) (T := TX8) (N := 8) (As := [.int (xs (6 * i + 1))]) (rest := []) (wr := lo_c g o fo ++ RWd g rd t) F hM rfl rfl pw_388 pw_389 pw_390 pw_1 pw_391 (by decide +kernel) ⟨by show Rc.frames + 1 ≤ 12; omega, by show 8 + (2 + 11) + Rc.locals ≤ 440; omega⟩ ⟨by show K + Rc.cells ≤ 601024; omega, by show N + Rc.slots ≤ 7293034; omega⟩ rfl rfl (Nat.le_of_ble_eq_true rfl) dL_law_266 ?_
  rintro _ _ ⟨z, s', rfl, rfl, hq⟩
  refine pz_aload_n 3 F rfl dL_law_269 rfl ?_
  refine ar_ld (q := 1) (h := ad 0) (r := rd 0) (o := o) F hX hi hL (by omega) rfl rfl rfl dL_law_270 dL_law_271 dL_law_273 dL_law_274 dL_law_275 ?_
  refine pz_perm (pm_sw _ _ _) ?_
  refine pz_callW (nA := 1) (ci := 8) (C := RX9) (T := TX9) (N := 42) (As := [.int (xs (6 * i + 1))]) (rest := [.int z]) (wr := lo_c g o fo ++ CW g ad s') F hM' rfl rfl pw_984 pw_985 pw_986 pw_8 pw_987 (by decide +kernel) ⟨by show Rr.frames + 1 ≤ 12; omega, by show 8 + (2 + 11) + Rr.locals ≤ 440; omega⟩ ⟨by show K + Rc.cells + Rr.cells ≤ 601024; omega, by show N + Rc.slots + Rr.slots ≤ 7293034; omega⟩ rfl rfl (Nat.le_of_ble_eq_true rfl) dL_law_276 ?_
  rintro _ _ ⟨z', t', rfl, rfl, hq'⟩
  refine pz_perm (pm_sw _ _ _) ?_
  obtain ⟨e, hR'⟩ := hp z s' z' t' hq hq'
  refine pz_icmp_eq (tgt := 922) F dL_law_279 (by decide) (fun _ => ?_) (fun hne => absurd e hne)
  exact pz_wid (by omega) (by omega) (h s' t' fo hR')
set_option maxHeartbeats 4000000 in
set_option maxRecDepth 100000 in
theorem lwc_kind {B : pz_B} {g : pz_G} {b L o K N i : Nat} {xs : Nat → Int32} {ad rd : Nat → Nat} {s : cs_S} {t : rs_S} {fo : Nat → Int64} (F : pz_F B cL_law 7 ret "StoneHallLaw" g room_1) (hX : lw_X B b L xs) (hi : 6 * i + 6 ≤ L) (hL : L ≤ 3072) (hR : Rel s t i) (hc : K + 10 ≤ 601024 ∧ N + 80 ≤ 7293034)
    (h : ∀ s' t' fo', Rel s' t' (i + 1) → pz_At B (K + 10) (N + 80) 922 (lw_lv b (ad 0) (rd 0) o i) [] (lw_w g ad rd o s' t' fo')) : pz_At B K N 284 (lw_lv b (ad 0) (rd 0) o i) [] (lw_w g ad rd o s t fo) := by
  obtain ⟨Q, Q', ⟨Rc, ⟨r1, r2, r3, r4⟩, hM⟩, ⟨Rr, ⟨q1, q2, q3, q4⟩, hM'⟩, hp⟩ := pr_kind B.1.2.1 g ad rd (xs (6 * i + 1)) (xs (6 * i + 2)) (xs (6 * i + 3)) (xs (6 * i + 4)) (xs (6 * i + 5)) s t i hR (by omega)
  refine pz_aload_n 2 F rfl dL_law_284 rfl ?_
  refine ar_ld (q := 1) (h := ad 0) (r := rd 0) (o := o) F hX hi hL (by omega) rfl rfl rfl dL_law_285 dL_law_286 dL_law_288 dL_law_289 dL_law_290 ?_
  refine ar_ld (q := 2) (h := ad 0) (r := rd 0) (o := o) F hX hi hL (by omega) rfl rfl rfl dL_law_291 dL_law_292 dL_law_294 dL_law_295 dL_law_296 ?_
  refine ar_ld (q := 3) (h := ad 0) (r := rd 0) (o := o) F hX hi hL (by omega) rfl rfl rfl dL_law_297 dL_law_298 dL_law_300 dL_law_301 dL_law_302 ?_
  refine ar_ld (q := 4) (h := ad 0) (r := rd 0) (o := o) F hX hi hL (by omega) rfl rfl rfl dL_law_303 dL_law_304 dL_law_306 dL_law_307 dL_law_308 ?_
  refine ar_ld (q := 5) (h := ad 0) (r := rd 0) (o := o) F hX hi hL (by omega) rfl rfl rfl dL_law_309 dL_law_310 dL_law_312 dL_law_313 dL_law_314 ?_
  refine pz_callW (nA := 5) (ci := 7) (C := RX8) (T := TX8) (N := 8) (As := [.int (xs (6 * i + 1)), .int (xs (6 * i + 2)), .int (xs (6 * i + 3)), .int (xs (6 * i + 4)), .int (xs (6 * i + 5))]) (rest := []) (wr := lo_c g o fo ++ RWd g rd t) F hM rfl rfl pw_396 pw_397 pw_398 pw_1 pw_399 (by decide +kernel) ⟨by show Rc.frames + 1 ≤ 12; omega, by show 8 + (6 + 11) + Rc.locals ≤ 440; omega⟩ ⟨by show K + Rc.cells ≤ 601024; omega, by show N + Rc.slots ≤ 7293034; omega⟩ rfl rfl (Nat.le_of_ble_eq_true rfl) dL_law_315 ?_
  rintro _ _ ⟨z, s', rfl, rfl, hq⟩
  refine pz_aload_n 3 F rfl dL_law_318 rfl ?_
  refine ar_ld (q := 1) (h := ad 0) (r := rd 0) (o := o) F hX hi hL (by omega) rfl rfl rfl dL_law_319 dL_law_320 dL_law_322 dL_law_323 dL_law_324 ?_
  refine ar_ld (q := 2) (h := ad 0) (r := rd 0) (o := o) F hX hi hL (by omega) rfl rfl rfl dL_law_325 dL_law_326 dL_law_328 dL_law_329 dL_law_330 ?_
  refine ar_ld (q := 3) (h := ad 0) (r := rd 0) (o := o) F hX hi hL (by omega) rfl rfl rfl dL_law_331 dL_law_332 dL_law_334 dL_law_335 dL_law_336 ?_
  refine ar_ld (q := 4) (h := ad 0) (r := rd 0) (o := o) F hX hi hL (by omega) rfl rfl rfl dL_law_337 dL_law_338 dL_law_340 dL_law_341 dL_law_342 ?_
  refine ar_ld (q := 5) (h := ad 0) (r := rd 0) (o := o) F hX hi hL (by omega) rfl rfl rfl dL_law_343 dL_law_344 dL_law_346 dL_law_347 dL_law_348 ?_
  refine pz_perm (pm_sw _ _ _) ?_
  refine pz_callW (nA := 5) (ci := 8) (C := RX9) (T := TX9) (N := 42) (As := [.int (xs (6 * i + 1)), .int (xs (6 * i + 2)), .int (xs (6 * i + 3)), .int (xs (6 * i + 4)), .int (xs (6 * i + 5))]) (rest := [.int z]) (wr := lo_c g o fo ++ CW g ad s') F hM' rfl rfl pw_988 pw_989 pw_990 pw_8 pw_991 (by decide +kernel) ⟨by show Rr.frames + 1 ≤ 12; omega, by show 8 + (6 + 11) + Rr.locals ≤ 440; omega⟩ ⟨by show K + Rc.cells + Rr.cells ≤ 601024; omega, by show N + Rc.slots + Rr.slots ≤ 7293034; omega⟩ rfl rfl (Nat.le_of_ble_eq_true rfl) dL_law_349 ?_
  rintro _ _ ⟨z', t', rfl, rfl, hq'⟩
  refine pz_perm (pm_sw _ _ _) ?_
  obtain ⟨e, hR'⟩ := hp z s' z' t' hq hq'
  refine pz_icmp_eq (tgt := 922) F dL_law_352 (by decide) (fun _ => ?_) (fun hne => absurd e hne)
  exact pz_wid (by omega) (by omega) (h s' t' fo hR')
set_option maxHeartbeats 4000000 in
set_option maxRecDepth 100000 in
theorem lwc_man {B : pz_B} {g : pz_G} {b L o K N i : Nat} {xs : Nat → Int32} {ad rd : Nat → Nat} {s : cs_S} {t : rs_S} {fo : Nat → Int64} (F : pz_F B cL_law 7 ret "StoneHallLaw" g room_1) (hX : lw_X B b L xs) (hi : 6 * i + 6 ≤ L) (hL : L ≤ 3072) (hR : Rel s t i) (hc : K + 10 ≤ 601024 ∧ N + 80 ≤ 7293034)
    (h : ∀ s' t' fo', Rel s' t' (i + 1) → pz_At B (K + 10) (N + 80) 922 (lw_lv b (ad 0) (rd 0) o i) [] (lw_w g ad rd o s' t' fo')) : pz_At B K N 357 (lw_lv b (ad 0) (rd 0) o i) [] (lw_w g ad rd o s t fo) := by
  obtain ⟨Q, Q', ⟨Rc, ⟨r1, r2, r3, r4⟩, hM⟩, ⟨Rr, ⟨q1, q2, q3, q4⟩, hM'⟩, hp⟩ := pr_man B.1.2.1 g ad rd (xs (6 * i + 1)) s t i hR (by omega)
  refine pz_aload_n 2 F rfl dL_law_357 rfl ?_
  refine ar_ld (q := 1) (h := ad 0) (r := rd 0) (o := o) F hX hi hL (by omega) rfl rfl rfl dL_law_358 dL_law_359 dL_law_361 dL_law_362 dL_law_363 ?_
  refine pz_callW (nA := 1) (ci := 7) (C := RX8) (T := TX8) (N := 8) (As := [.int (xs (6 * i + 1))]) (rest := []) (wr := lo_c g o fo ++ RWd g rd t) F hM rfl rfl pw_412 pw_413 pw_414 pw_1 pw_415 (by decide +kernel) ⟨by show Rc.frames + 1 ≤ 12; omega, by show 8 + (2 + 11) + Rc.locals ≤ 440; omega⟩ ⟨by show K + Rc.cells ≤ 601024; omega, by show N + Rc.slots ≤ 7293034; omega⟩ rfl rfl (Nat.le_of_ble_eq_true rfl) dL_law_364 ?_
  rintro _ _ ⟨z, s', rfl, rfl, hq⟩
  refine pz_aload_n 3 F rfl dL_law_367 rfl ?_
  refine ar_ld (q := 1) (h := ad 0) (r := rd 0) (o := o) F hX hi hL (by omega) rfl rfl rfl dL_law_368 dL_law_369 dL_law_371 dL_law_372 dL_law_373 ?_
  refine pz_perm (pm_sw _ _ _) ?_
  refine pz_callW (nA := 1) (ci := 8) (C := RX9) (T := TX9) (N := 42) (As := [.int (xs (6 * i + 1))]) (rest := [.int z]) (wr := lo_c g o fo ++ CW g ad s') F hM' rfl rfl pw_996 pw_997 pw_998 pw_8 pw_999 (by decide +kernel) ⟨by show Rr.frames + 1 ≤ 12; omega, by show 8 + (2 + 11) + Rr.locals ≤ 440; omega⟩ ⟨by show K + Rc.cells + Rr.cells ≤ 601024; omega, by show N + Rc.slots + Rr.slots ≤ 7293034; omega⟩ rfl rfl (Nat.le_of_ble_eq_true rfl) dL_law_374 ?_
  rintro _ _ ⟨z', t', rfl, rfl, hq'⟩
  refine pz_perm (pm_sw _ _ _) ?_
  obtain ⟨e, hR'⟩ := hp z s' z' t' hq hq'
  refine pz_icmp_eq (tgt := 922) F dL_law_377 (by decide) (fun _ => ?_) (fun hne => absurd e hne)
  exact pz_wid (by omega) (by omega) (h s' t' fo hR')
set_option maxHeartbeats 4000000 in
set_option maxRecDepth 100000 in
theorem lwc_boulder {B : pz_B} {g : pz_G} {b L o K N i : Nat} {xs : Nat → Int32} {ad rd : Nat → Nat} {s : cs_S} {t : rs_S} {fo : Nat → Int64} (F : pz_F B cL_law 7 ret "StoneHallLaw" g room_1) (hX : lw_X B b L xs) (hi : 6 * i + 6 ≤ L) (hL : L ≤ 3072) (hR : Rel s t i) (hc : K + 10 ≤ 601024 ∧ N + 80 ≤ 7293034)
    (h : ∀ s' t' fo', Rel s' t' (i + 1) → pz_At B (K + 10) (N + 80) 922 (lw_lv b (ad 0) (rd 0) o i) [] (lw_w g ad rd o s' t' fo')) : pz_At B K N 382 (lw_lv b (ad 0) (rd 0) o i) [] (lw_w g ad rd o s t fo) := by
  obtain ⟨Q, Q', ⟨Rc, ⟨r1, r2, r3, r4⟩, hM⟩, ⟨Rr, ⟨q1, q2, q3, q4⟩, hM'⟩, hp⟩ := pr_boulder B.1.2.1 g ad rd (xs (6 * i + 1)) (xs (6 * i + 2)) (xs (6 * i + 3)) s t i hR (by omega)
  refine pz_aload_n 2 F rfl dL_law_382 rfl ?_
  refine ar_ld (q := 1) (h := ad 0) (r := rd 0) (o := o) F hX hi hL (by omega) rfl rfl rfl dL_law_383 dL_law_384 dL_law_386 dL_law_387 dL_law_388 ?_
  refine ar_ld (q := 2) (h := ad 0) (r := rd 0) (o := o) F hX hi hL (by omega) rfl rfl rfl dL_law_389 dL_law_390 dL_law_392 dL_law_393 dL_law_394 ?_
  refine ar_ld (q := 3) (h := ad 0) (r := rd 0) (o := o) F hX hi hL (by omega) rfl rfl rfl dL_law_395 dL_law_396 dL_law_398 dL_law_399 dL_law_400 ?_
  refine pz_callW (nA := 3) (ci := 7) (C := RX8) (T := TX8) (N := 8) (As := [.int (xs (6 * i + 1)), .int (xs (6 * i + 2)), .int (xs (6 * i + 3))]) (rest := []) (wr := lo_c g o fo ++ RWd g rd t) F hM rfl rfl pw_421 pw_422 pw_423 pw_1 pw_424 (by decide +kernel) ⟨by show Rc.frames + 1 ≤ 12; omega, by show 8 + (4 + 11) + Rc.locals ≤ 440; omega⟩ ⟨by show K + Rc.cells ≤ 601024; omega, by show N + Rc.slots ≤ 7293034; omega⟩ rfl rfl (Nat.le_of_ble_eq_true rfl) dL_law_401 ?_
  rintro _ _ ⟨z, s', rfl, rfl, hq⟩
  refine pz_aload_n 3 F rfl dL_law_404 rfl ?_
  refine ar_ld (q := 1) (h := ad 0) (r := rd 0) (o := o) F hX hi hL (by omega) rfl rfl rfl dL_law_405 dL_law_406 dL_law_408 dL_law_409 dL_law_410 ?_
  refine ar_ld (q := 2) (h := ad 0) (r := rd 0) (o := o) F hX hi hL (by omega) rfl rfl rfl dL_law_411 dL_law_412 dL_law_414 dL_law_415 dL_law_416 ?_
  refine ar_ld (q := 3) (h := ad 0) (r := rd 0) (o := o) F hX hi hL (by omega) rfl rfl rfl dL_law_417 dL_law_418 dL_law_420 dL_law_421 dL_law_422 ?_
  refine pz_perm (pm_sw _ _ _) ?_
  refine pz_callW (nA := 3) (ci := 8) (C := RX9) (T := TX9) (N := 42) (As := [.int (xs (6 * i + 1)), .int (xs (6 * i + 2)), .int (xs (6 * i + 3))]) (rest := [.int z]) (wr := lo_c g o fo ++ CW g ad s') F hM' rfl rfl pw_1000 pw_1001 pw_1002 pw_8 pw_1003 (by decide +kernel) ⟨by show Rr.frames + 1 ≤ 12; omega, by show 8 + (5 + 11) + Rr.locals ≤ 440; omega⟩ ⟨by show K + Rc.cells + Rr.cells ≤ 601024; omega, by show N + Rc.slots + Rr.slots ≤ 7293034; omega⟩ rfl rfl (Nat.le_of_ble_eq_true rfl) dL_law_423 ?_
  rintro _ _ ⟨z', t', rfl, rfl, hq'⟩
  refine pz_perm (pm_sw _ _ _) ?_
  obtain ⟨e, hR'⟩ := hp z s' z' t' hq hq'
  refine pz_icmp_eq (tgt := 922) F dL_law_426 (by decide) (fun _ => ?_) (fun hne => absurd e hne)
  exact pz_wid (by omega) (by omega) (h s' t' fo hR')
set_option maxHeartbeats 4000000 in
set_option maxRecDepth 100000 in
theorem lwc_share {B : pz_B} {g : pz_G} {b L o K N i : Nat} {xs : Nat → Int32} {ad rd : Nat → Nat} {s : cs_S} {t : rs_S} {fo : Nat → Int64} (F : pz_F B cL_law 7 ret "StoneHallLaw" g room_1) (hX : lw_X B b L xs) (hi : 6 * i + 6 ≤ L) (hL : L ≤ 3072) (hR : Rel s t i) (hc : K + 10 ≤ 601024 ∧ N + 80 ≤ 7293034)
    (h : ∀ s' t' fo', Rel s' t' (i + 1) → pz_At B (K + 10) (N + 80) 922 (lw_lv b (ad 0) (rd 0) o i) [] (lw_w g ad rd o s' t' fo')) : pz_At B K N 431 (lw_lv b (ad 0) (rd 0) o i) [] (lw_w g ad rd o s t fo) := by
  obtain ⟨Q, Q', ⟨Rc, ⟨r1, r2, r3, r4⟩, hM⟩, ⟨Rr, ⟨q1, q2, q3, q4⟩, hM'⟩, hp⟩ := pr_share B.1.2.1 g ad rd (xs (6 * i + 1)) (xs (6 * i + 2)) (xs (6 * i + 3)) (xs (6 * i + 4)) s t i hR (by omega)
  refine pz_aload_n 2 F rfl dL_law_431 rfl ?_
  refine ar_ld (q := 1) (h := ad 0) (r := rd 0) (o := o) F hX hi hL (by omega) rfl rfl rfl dL_law_432 dL_law_433 dL_law_435 dL_law_436 dL_law_437 ?_
  refine ar_ld (q := 2) (h := ad 0) (r := rd 0) (o := o) F hX hi hL (by omega) rfl rfl rfl dL_law_438 dL_law_439 dL_law_441 dL_law_442 dL_law_443 ?_
  refine ar_ld (q := 3) (h := ad 0) (r := rd 0) (o := o) F hX hi hL (by omega) rfl rfl rfl dL_law_444 dL_law_445 dL_law_447 dL_law_448 dL_law_449 ?_
  refine ar_ld (q := 4) (h := ad 0) (r := rd 0) (o := o) F hX hi hL (by omega) rfl rfl rfl dL_law_450 dL_law_451 dL_law_453 dL_law_454 dL_law_455 ?_
  refine pz_callW (nA := 4) (ci := 7) (C := RX8) (T := TX8) (N := 8) (As := [.int (xs (6 * i + 1)), .int (xs (6 * i + 2)), .int (xs (6 * i + 3)), .int (xs (6 * i + 4))]) (rest := []) (wr := lo_c g o fo ++ RWd g rd t) F hM rfl rfl pw_477 pw_478 pw_479 pw_1 pw_480 (by decide +kernel) ⟨by show Rc.frames + 1 ≤ 12; omega, by show 8 + (6 + 11) + Rc.locals ≤ 440; omega⟩ ⟨by show K + Rc.cells ≤ 601024; omega, by show N + Rc.slots ≤ 7293034; omega⟩ rfl rfl (Nat.le_of_ble_eq_true rfl) dL_law_456 ?_
  rintro _ _ ⟨z, s', rfl, rfl, hq⟩
  refine pz_aload_n 3 F rfl dL_law_459 rfl ?_
  refine ar_ld (q := 1) (h := ad 0) (r := rd 0) (o := o) F hX hi hL (by omega) rfl rfl rfl dL_law_460 dL_law_461 dL_law_463 dL_law_464 dL_law_465 ?_
  refine ar_ld (q := 2) (h := ad 0) (r := rd 0) (o := o) F hX hi hL (by omega) rfl rfl rfl dL_law_466 dL_law_467 dL_law_469 dL_law_470 dL_law_471 ?_
  refine ar_ld (q := 3) (h := ad 0) (r := rd 0) (o := o) F hX hi hL (by omega) rfl rfl rfl dL_law_472 dL_law_473 dL_law_475 dL_law_476 dL_law_477 ?_
  refine ar_ld (q := 4) (h := ad 0) (r := rd 0) (o := o) F hX hi hL (by omega) rfl rfl rfl dL_law_478 dL_law_479 dL_law_481 dL_law_482 dL_law_483 ?_
  refine pz_perm (pm_sw _ _ _) ?_
  refine pz_callW (nA := 4) (ci := 8) (C := RX9) (T := TX9) (N := 42) (As := [.int (xs (6 * i + 1)), .int (xs (6 * i + 2)), .int (xs (6 * i + 3)), .int (xs (6 * i + 4))]) (rest := [.int z]) (wr := lo_c g o fo ++ CW g ad s') F hM' rfl rfl pw_1008 pw_1009 pw_1010 pw_8 pw_1011 (by decide +kernel) ⟨by show Rr.frames + 1 ≤ 12; omega, by show 8 + (5 + 11) + Rr.locals ≤ 440; omega⟩ ⟨by show K + Rc.cells + Rr.cells ≤ 601024; omega, by show N + Rc.slots + Rr.slots ≤ 7293034; omega⟩ rfl rfl (Nat.le_of_ble_eq_true rfl) dL_law_484 ?_
  rintro _ _ ⟨z', t', rfl, rfl, hq'⟩
  refine pz_perm (pm_sw _ _ _) ?_
  obtain ⟨e, hR'⟩ := hp z s' z' t' hq hq'
  refine pz_icmp_eq (tgt := 922) F dL_law_487 (by decide) (fun _ => ?_) (fun hne => absurd e hne)
  exact pz_wid (by omega) (by omega) (h s' t' fo hR')
set_option maxHeartbeats 4000000 in
set_option maxRecDepth 100000 in
theorem lwc_bid {B : pz_B} {g : pz_G} {b L o K N i : Nat} {xs : Nat → Int32} {ad rd : Nat → Nat} {s : cs_S} {t : rs_S} {fo : Nat → Int64} (F : pz_F B cL_law 7 ret "StoneHallLaw" g room_1) (hX : lw_X B b L xs) (hi : 6 * i + 6 ≤ L) (hL : L ≤ 3072) (hR : Rel s t i) (hc : K + 10 ≤ 601024 ∧ N + 80 ≤ 7293034)
    (h : ∀ s' t' fo', Rel s' t' (i + 1) → pz_At B (K + 10) (N + 80) 922 (lw_lv b (ad 0) (rd 0) o i) [] (lw_w g ad rd o s' t' fo')) : pz_At B K N 492 (lw_lv b (ad 0) (rd 0) o i) [] (lw_w g ad rd o s t fo) := by
  obtain ⟨Q, Q', ⟨Rc, ⟨r1, r2, r3, r4⟩, hM⟩, ⟨Rr, ⟨q1, q2, q3, q4⟩, hM'⟩, hp⟩ := pr_bid B.1.2.1 g ad rd (xs (6 * i + 1)) (xs (6 * i + 2)) (xs (6 * i + 3)) s t i hR (by omega)
  refine pz_aload_n 2 F rfl dL_law_492 rfl ?_
  refine ar_ld (q := 1) (h := ad 0) (r := rd 0) (o := o) F hX hi hL (by omega) rfl rfl rfl dL_law_493 dL_law_494 dL_law_496 dL_law_497 dL_law_498 ?_
  refine ar_ld (q := 2) (h := ad 0) (r := rd 0) (o := o) F hX hi hL (by omega) rfl rfl rfl dL_law_499 dL_law_500 dL_law_502 dL_law_503 dL_law_504 ?_
  refine ar_ld (q := 3) (h := ad 0) (r := rd 0) (o := o) F hX hi hL (by omega) rfl rfl rfl dL_law_505 dL_law_506 dL_law_508 dL_law_509 dL_law_510 ?_
  refine pz_callW (nA := 3) (ci := 7) (C := RX8) (T := TX8) (N := 8) (As := [.int (xs (6 * i + 1)), .int (xs (6 * i + 2)), .int (xs (6 * i + 3))]) (rest := []) (wr := lo_c g o fo ++ RWd g rd t) F hM rfl rfl pw_489 pw_490 pw_491 pw_1 pw_492 (by decide +kernel) ⟨by show Rc.frames + 1 ≤ 12; omega, by show 8 + (5 + 11) + Rc.locals ≤ 440; omega⟩ ⟨by show K + Rc.cells ≤ 601024; omega, by show N + Rc.slots ≤ 7293034; omega⟩ rfl rfl (Nat.le_of_ble_eq_true rfl) dL_law_511 ?_
  rintro _ _ ⟨z, s', rfl, rfl, hq⟩
  refine pz_aload_n 3 F rfl dL_law_514 rfl ?_
  refine ar_ld (q := 1) (h := ad 0) (r := rd 0) (o := o) F hX hi hL (by omega) rfl rfl rfl dL_law_515 dL_law_516 dL_law_518 dL_law_519 dL_law_520 ?_
  refine ar_ld (q := 2) (h := ad 0) (r := rd 0) (o := o) F hX hi hL (by omega) rfl rfl rfl dL_law_521 dL_law_522 dL_law_524 dL_law_525 dL_law_526 ?_
  refine ar_ld (q := 3) (h := ad 0) (r := rd 0) (o := o) F hX hi hL (by omega) rfl rfl rfl dL_law_527 dL_law_528 dL_law_530 dL_law_531 dL_law_532 ?_
  refine pz_perm (pm_sw _ _ _) ?_
  refine pz_callW (nA := 3) (ci := 8) (C := RX9) (T := TX9) (N := 42) (As := [.int (xs (6 * i + 1)), .int (xs (6 * i + 2)), .int (xs (6 * i + 3))]) (rest := [.int z]) (wr := lo_c g o fo ++ CW g ad s') F hM' rfl rfl pw_1020 pw_1021 pw_1022 pw_8 pw_1023 (by decide +kernel) ⟨by show Rr.frames + 1 ≤ 12; omega, by show 8 + (5 + 11) + Rr.locals ≤ 440; omega⟩ ⟨by show K + Rc.cells + Rr.cells ≤ 601024; omega, by show N + Rc.slots + Rr.slots ≤ 7293034; omega⟩ rfl rfl (Nat.le_of_ble_eq_true rfl) dL_law_533 ?_
  rintro _ _ ⟨z', t', rfl, rfl, hq'⟩
  refine pz_perm (pm_sw _ _ _) ?_
  obtain ⟨e, hR'⟩ := hp z s' z' t' hq hq'
  refine pz_icmp_eq (tgt := 922) F dL_law_536 (by decide) (fun _ => ?_) (fun hne => absurd e hne)
  exact pz_wid (by omega) (by omega) (h s' t' fo hR')
set_option maxHeartbeats 4000000 in
set_option maxRecDepth 100000 in
theorem lwc_open {B : pz_B} {g : pz_G} {b L o K N i : Nat} {xs : Nat → Int32} {ad rd : Nat → Nat} {s : cs_S} {t : rs_S} {fo : Nat → Int64} (F : pz_F B cL_law 7 ret "StoneHallLaw" g room_1) (hX : lw_X B b L xs) (hi : 6 * i + 6 ≤ L) (hL : L ≤ 3072) (hR : Rel s t i) (hc : K + 10 ≤ 601024 ∧ N + 80 ≤ 7293034)
    (h : ∀ s' t' fo', Rel s' t' (i + 1) → pz_At B (K + 10) (N + 80) 922 (lw_lv b (ad 0) (rd 0) o i) [] (lw_w g ad rd o s' t' fo')) : pz_At B K N 541 (lw_lv b (ad 0) (rd 0) o i) [] (lw_w g ad rd o s t fo) := by
  obtain ⟨Q, Q', ⟨Rc, ⟨r1, r2, r3, r4⟩, hM⟩, ⟨Rr, ⟨q1, q2, q3, q4⟩, hM'⟩, hp⟩ := pr_open B.1.2.1 g ad rd (xs (6 * i + 1)) s t i hR (by omega)
  refine pz_aload_n 2 F rfl dL_law_541 rfl ?_
  refine ar_ld (q := 1) (h := ad 0) (r := rd 0) (o := o) F hX hi hL (by omega) rfl rfl rfl dL_law_542 dL_law_543 dL_law_545 dL_law_546 dL_law_547 ?_
  refine pz_callW (nA := 1) (ci := 7) (C := RX8) (T := TX8) (N := 8) (As := [.int (xs (6 * i + 1))]) (rest := []) (wr := lo_c g o fo ++ RWd g rd t) F hM rfl rfl pw_498 pw_499 pw_500 pw_1 pw_501 (by decide +kernel) ⟨by show Rc.frames + 1 ≤ 12; omega, by show 8 + (4 + 11) + Rc.locals ≤ 440; omega⟩ ⟨by show K + Rc.cells ≤ 601024; omega, by show N + Rc.slots ≤ 7293034; omega⟩ rfl rfl (Nat.le_of_ble_eq_true rfl) dL_law_548 ?_
  rintro _ _ ⟨z, s', rfl, rfl, hq⟩
  refine pz_aload_n 3 F rfl dL_law_551 rfl ?_
  refine ar_ld (q := 1) (h := ad 0) (r := rd 0) (o := o) F hX hi hL (by omega) rfl rfl rfl dL_law_552 dL_law_553 dL_law_555 dL_law_556 dL_law_557 ?_
  refine pz_perm (pm_sw _ _ _) ?_
  refine pz_callW (nA := 1) (ci := 8) (C := RX9) (T := TX9) (N := 42) (As := [.int (xs (6 * i + 1))]) (rest := [.int z]) (wr := lo_c g o fo ++ CW g ad s') F hM' rfl rfl pw_1024 pw_1025 pw_1026 pw_8 pw_1027 (by decide +kernel) ⟨by show Rr.frames + 1 ≤ 12; omega, by show 8 + (10 + 11) + Rr.locals ≤ 440; omega⟩ ⟨by show K + Rc.cells + Rr.cells ≤ 601024; omega, by show N + Rc.slots + Rr.slots ≤ 7293034; omega⟩ rfl rfl (Nat.le_of_ble_eq_true rfl) dL_law_558 ?_
  rintro _ _ ⟨z', t', rfl, rfl, hq'⟩
  refine pz_perm (pm_sw _ _ _) ?_
  obtain ⟨e, hR'⟩ := hp z s' z' t' hq hq'
  refine pz_icmp_eq (tgt := 922) F dL_law_561 (by decide) (fun _ => ?_) (fun hne => absurd e hne)
  exact pz_wid (by omega) (by omega) (h s' t' fo hR')
set_option maxHeartbeats 4000000 in
set_option maxRecDepth 100000 in
theorem lwc_sale {B : pz_B} {g : pz_G} {b L o K N i : Nat} {xs : Nat → Int32} {ad rd : Nat → Nat} {s : cs_S} {t : rs_S} {fo : Nat → Int64} (F : pz_F B cL_law 7 ret "StoneHallLaw" g room_1) (hX : lw_X B b L xs) (hi : 6 * i + 6 ≤ L) (hL : L ≤ 3072) (hR : Rel s t i) (hc : K + 10 ≤ 601024 ∧ N + 80 ≤ 7293034)
    (h : ∀ s' t' fo', Rel s' t' (i + 1) → pz_At B (K + 10) (N + 80) 922 (lw_lv b (ad 0) (rd 0) o i) [] (lw_w g ad rd o s' t' fo')) : pz_At B K N 566 (lw_lv b (ad 0) (rd 0) o i) [] (lw_w g ad rd o s t fo) := by
  obtain ⟨Q, Q', ⟨Rc, ⟨r1, r2, r3, r4⟩, hM⟩, ⟨Rr, ⟨q1, q2, q3, q4⟩, hM'⟩, hp⟩ := pr_sale B.1.2.1 g ad rd (xs (6 * i + 1)) s t i hR (by omega)
  refine pz_aload_n 2 F rfl dL_law_566 rfl ?_
  refine ar_ld (q := 1) (h := ad 0) (r := rd 0) (o := o) F hX hi hL (by omega) rfl rfl rfl dL_law_567 dL_law_568 dL_law_570 dL_law_571 dL_law_572 ?_
  refine pz_callW (nA := 1) (ci := 7) (C := RX8) (T := TX8) (N := 8) (As := [.int (xs (6 * i + 1))]) (rest := []) (wr := lo_c g o fo ++ RWd g rd t) F hM rfl rfl pw_571 pw_572 pw_573 pw_1 pw_574 (by decide +kernel) ⟨by show Rc.frames + 1 ≤ 12; omega, by show 8 + (2 + 11) + Rc.locals ≤ 440; omega⟩ ⟨by show K + Rc.cells ≤ 601024; omega, by show N + Rc.slots ≤ 7293034; omega⟩ rfl rfl (Nat.le_of_ble_eq_true rfl) dL_law_573 ?_
  rintro _ _ ⟨z, s', rfl, rfl, hq⟩
  refine pz_aload_n 3 F rfl dL_law_576 rfl ?_
  refine ar_ld (q := 1) (h := ad 0) (r := rd 0) (o := o) F hX hi hL (by omega) rfl rfl rfl dL_law_577 dL_law_578 dL_law_580 dL_law_581 dL_law_582 ?_
  refine pz_perm (pm_sw _ _ _) ?_
  refine pz_callW (nA := 1) (ci := 8) (C := RX9) (T := TX9) (N := 42) (As := [.int (xs (6 * i + 1))]) (rest := [.int z]) (wr := lo_c g o fo ++ CW g ad s') F hM' rfl rfl pw_1052 pw_1053 pw_1054 pw_8 pw_1055 (by decide +kernel) ⟨by show Rr.frames + 1 ≤ 12; omega, by show 8 + (2 + 11) + Rr.locals ≤ 440; omega⟩ ⟨by show K + Rc.cells + Rr.cells ≤ 601024; omega, by show N + Rc.slots + Rr.slots ≤ 7293034; omega⟩ rfl rfl (Nat.le_of_ble_eq_true rfl) dL_law_583 ?_
  rintro _ _ ⟨z', t', rfl, rfl, hq'⟩
  refine pz_perm (pm_sw _ _ _) ?_
  obtain ⟨e, hR'⟩ := hp z s' z' t' hq hq'
  refine pz_icmp_eq (tgt := 922) F dL_law_586 (by decide) (fun _ => ?_) (fun hne => absurd e hne)
  exact pz_wid (by omega) (by omega) (h s' t' fo hR')
set_option maxHeartbeats 4000000 in
set_option maxRecDepth 100000 in
theorem lwc_cut {B : pz_B} {g : pz_G} {b L o K N i : Nat} {xs : Nat → Int32} {ad rd : Nat → Nat} {s : cs_S} {t : rs_S} {fo : Nat → Int64} (F : pz_F B cL_law 7 ret "StoneHallLaw" g room_1) (hX : lw_X B b L xs) (hi : 6 * i + 6 ≤ L) (hL : L ≤ 3072) (hR : Rel s t i) (hc : K + 10 ≤ 601024 ∧ N + 80 ≤ 7293034)
    (h : ∀ s' t' fo', Rel s' t' (i + 1) → pz_At B (K + 10) (N + 80) 922 (lw_lv b (ad 0) (rd 0) o i) [] (lw_w g ad rd o s' t' fo')) : pz_At B K N 591 (lw_lv b (ad 0) (rd 0) o i) [] (lw_w g ad rd o s t fo) := by
  obtain ⟨Q, Q', ⟨Rc, ⟨r1, r2, r3, r4⟩, hM⟩, ⟨Rr, ⟨q1, q2, q3, q4⟩, hM'⟩, hp⟩ := pr_cut B.1.2.1 g ad rd (xs (6 * i + 1)) s t i hR (by omega)
  refine pz_aload_n 2 F rfl dL_law_591 rfl ?_
  refine ar_ld (q := 1) (h := ad 0) (r := rd 0) (o := o) F hX hi hL (by omega) rfl rfl rfl dL_law_592 dL_law_593 dL_law_595 dL_law_596 dL_law_597 ?_
  refine pz_callW (nA := 1) (ci := 7) (C := RX8) (T := TX8) (N := 8) (As := [.int (xs (6 * i + 1))]) (rest := []) (wr := lo_c g o fo ++ RWd g rd t) F hM rfl rfl pw_579 pw_580 pw_581 pw_1 pw_582 (by decide +kernel) ⟨by show Rc.frames + 1 ≤ 12; omega, by show 8 + (5 + 11) + Rc.locals ≤ 440; omega⟩ ⟨by show K + Rc.cells ≤ 601024; omega, by show N + Rc.slots ≤ 7293034; omega⟩ rfl rfl (Nat.le_of_ble_eq_true rfl) dL_law_598 ?_
  rintro _ _ ⟨z, s', rfl, rfl, hq⟩
  refine pz_aload_n 3 F rfl dL_law_601 rfl ?_
  refine ar_ld (q := 1) (h := ad 0) (r := rd 0) (o := o) F hX hi hL (by omega) rfl rfl rfl dL_law_602 dL_law_603 dL_law_605 dL_law_606 dL_law_607 ?_
  refine pz_perm (pm_sw _ _ _) ?_
  refine pz_callW (nA := 1) (ci := 8) (C := RX9) (T := TX9) (N := 42) (As := [.int (xs (6 * i + 1))]) (rest := [.int z]) (wr := lo_c g o fo ++ CW g ad s') F hM' rfl rfl pw_1056 pw_1057 pw_1058 pw_8 pw_1059 (by decide +kernel) ⟨by show Rr.frames + 1 ≤ 12; omega, by show 8 + (3 + 11) + Rr.locals ≤ 440; omega⟩ ⟨by show K + Rc.cells + Rr.cells ≤ 601024; omega, by show N + Rc.slots + Rr.slots ≤ 7293034; omega⟩ rfl rfl (Nat.le_of_ble_eq_true rfl) dL_law_608 ?_
  rintro _ _ ⟨z', t', rfl, rfl, hq'⟩
  refine pz_perm (pm_sw _ _ _) ?_
  obtain ⟨e, hR'⟩ := hp z s' z' t' hq hq'
  refine pz_icmp_eq (tgt := 922) F dL_law_611 (by decide) (fun _ => ?_) (fun hne => absurd e hne)
  exact pz_wid (by omega) (by omega) (h s' t' fo hR')
set_option maxHeartbeats 4000000 in
set_option maxRecDepth 100000 in
theorem lwc_sell {B : pz_B} {g : pz_G} {b L o K N i : Nat} {xs : Nat → Int32} {ad rd : Nat → Nat} {s : cs_S} {t : rs_S} {fo : Nat → Int64} (F : pz_F B cL_law 7 ret "StoneHallLaw" g room_1) (hX : lw_X B b L xs) (hi : 6 * i + 6 ≤ L) (hL : L ≤ 3072) (hR : Rel s t i) (hc : K + 10 ≤ 601024 ∧ N + 80 ≤ 7293034)
    (h : ∀ s' t' fo', Rel s' t' (i + 1) → pz_At B (K + 10) (N + 80) 922 (lw_lv b (ad 0) (rd 0) o i) [] (lw_w g ad rd o s' t' fo')) : pz_At B K N 616 (lw_lv b (ad 0) (rd 0) o i) [] (lw_w g ad rd o s t fo) := by
  obtain ⟨Q, Q', ⟨Rc, ⟨r1, r2, r3, r4⟩, hM⟩, ⟨Rr, ⟨q1, q2, q3, q4⟩, hM'⟩, hp⟩ := pr_sell B.1.2.1 g ad rd (xs (6 * i + 1)) s t i hR (by omega)
  refine pz_aload_n 2 F rfl dL_law_616 rfl ?_
  refine ar_ld (q := 1) (h := ad 0) (r := rd 0) (o := o) F hX hi hL (by omega) rfl rfl rfl dL_law_617 dL_law_618 dL_law_620 dL_law_621 dL_law_622 ?_
  refine pz_callW (nA := 1) (ci := 7) (C := RX8) (T := TX8) (N := 8) (As := [.int (xs (6 * i + 1))]) (rest := []) (wr := lo_c g o fo ++ RWd g rd t) F hM rfl rfl pw_604 pw_605 pw_606 pw_1 pw_607 (by decide +kernel) ⟨by show Rc.frames + 1 ≤ 12; omega, by show 8 + (4 + 11) + Rc.locals ≤ 440; omega⟩ ⟨by show K + Rc.cells ≤ 601024; omega, by show N + Rc.slots ≤ 7293034; omega⟩ rfl rfl (Nat.le_of_ble_eq_true rfl) dL_law_623 ?_
  rintro _ _ ⟨z, s', rfl, rfl, hq⟩
  refine pz_aload_n 3 F rfl dL_law_626 rfl ?_
  refine ar_ld (q := 1) (h := ad 0) (r := rd 0) (o := o) F hX hi hL (by omega) rfl rfl rfl dL_law_627 dL_law_628 dL_law_630 dL_law_631 dL_law_632 ?_
  refine pz_perm (pm_sw _ _ _) ?_
  refine pz_callW (nA := 1) (ci := 8) (C := RX9) (T := TX9) (N := 42) (As := [.int (xs (6 * i + 1))]) (rest := [.int z]) (wr := lo_c g o fo ++ CW g ad s') F hM' rfl rfl pw_1064 pw_1065 pw_1066 pw_8 pw_1067 (by decide +kernel) ⟨by show Rr.frames + 1 ≤ 12; omega, by show 8 + (3 + 11) + Rr.locals ≤ 440; omega⟩ ⟨by show K + Rc.cells + Rr.cells ≤ 601024; omega, by show N + Rc.slots + Rr.slots ≤ 7293034; omega⟩ rfl rfl (Nat.le_of_ble_eq_true rfl) dL_law_633 ?_
  rintro _ _ ⟨z', t', rfl, rfl, hq'⟩
  refine pz_perm (pm_sw _ _ _) ?_
  obtain ⟨e, hR'⟩ := hp z s' z' t' hq hq'
  refine pz_icmp_eq (tgt := 922) F dL_law_636 (by decide) (fun _ => ?_) (fun hne => absurd e hne)
  exact pz_wid (by omega) (by omega) (h s' t' fo hR')
set_option maxHeartbeats 4000000 in
set_option maxRecDepth 100000 in
theorem lwc_parts {B : pz_B} {g : pz_G} {b L o K N i : Nat} {xs : Nat → Int32} {ad rd : Nat → Nat} {s : cs_S} {t : rs_S} {fo : Nat → Int64} (F : pz_F B cL_law 7 ret "StoneHallLaw" g room_1) (hX : lw_X B b L xs) (hi : 6 * i + 6 ≤ L) (hL : L ≤ 3072) (hR : Rel s t i) (hc : K + 10 ≤ 601024 ∧ N + 80 ≤ 7293034)
    (h : ∀ s' t' fo', Rel s' t' (i + 1) → pz_At B (K + 10) (N + 80) 922 (lw_lv b (ad 0) (rd 0) o i) [] (lw_w g ad rd o s' t' fo')) : pz_At B K N 709 (lw_lv b (ad 0) (rd 0) o i) [] (lw_w g ad rd o s t fo) := by
  obtain ⟨Q, Q', ⟨Rc, ⟨r1, r2, r3, r4⟩, hM⟩, ⟨Rr, ⟨q1, q2, q3, q4⟩, hM'⟩, hp⟩ := pr_parts B.1.2.1 g ad rd (xs (6 * i + 1)) (xs (6 * i + 2)) s t i hR (by omega)
  refine pz_aload_n 2 F rfl dL_law_709 rfl ?_
  refine ar_ld (q := 1) (h := ad 0) (r := rd 0) (o := o) F hX hi hL (by omega) rfl rfl rfl dL_law_710 dL_law_711 dL_law_713 dL_law_714 dL_law_715 ?_
  refine ar_ld (q := 2) (h := ad 0) (r := rd 0) (o := o) F hX hi hL (by omega) rfl rfl rfl dL_law_716 dL_law_717 dL_law_719 dL_law_720 dL_law_721 ?_
  refine pz_callW (nA := 2) (ci := 7) (C := RX8) (T := TX8) (N := 8) (As := [.int (xs (6 * i + 1)), .int (xs (6 * i + 2))]) (rest := []) (wr := lo_c g o fo ++ RWd g rd t) F hM rfl rfl pw_622 pw_623 pw_624 pw_1 pw_625 (by decide +kernel) ⟨by show Rc.frames + 1 ≤ 12; omega, by show 8 + (4 + 11) + Rc.locals ≤ 440; omega⟩ ⟨by show K + Rc.cells ≤ 601024; omega, by show N + Rc.slots ≤ 7293034; omega⟩ rfl rfl (Nat.le_of_ble_eq_true rfl) dL_law_722 ?_
  rintro _ _ ⟨z, s', rfl, rfl, hq⟩
  refine pz_aload_n 3 F rfl dL_law_725 rfl ?_
  refine ar_ld (q := 1) (h := ad 0) (r := rd 0) (o := o) F hX hi hL (by omega) rfl rfl rfl dL_law_726 dL_law_727 dL_law_729 dL_law_730 dL_law_731 ?_
  refine ar_ld (q := 2) (h := ad 0) (r := rd 0) (o := o) F hX hi hL (by omega) rfl rfl rfl dL_law_732 dL_law_733 dL_law_735 dL_law_736 dL_law_737 ?_
  refine pz_perm (pm_sw _ _ _) ?_
  refine pz_callW (nA := 2) (ci := 8) (C := RX9) (T := TX9) (N := 42) (As := [.int (xs (6 * i + 1)), .int (xs (6 * i + 2))]) (rest := [.int z]) (wr := lo_c g o fo ++ CW g ad s') F hM' rfl rfl pw_1084 pw_1085 pw_1086 pw_8 pw_1087 (by decide +kernel) ⟨by show Rr.frames + 1 ≤ 12; omega, by show 8 + (3 + 11) + Rr.locals ≤ 440; omega⟩ ⟨by show K + Rc.cells + Rr.cells ≤ 601024; omega, by show N + Rc.slots + Rr.slots ≤ 7293034; omega⟩ rfl rfl (Nat.le_of_ble_eq_true rfl) dL_law_738 ?_
  rintro _ _ ⟨z', t', rfl, rfl, hq'⟩
  refine pz_perm (pm_sw _ _ _) ?_
  obtain ⟨e, hR'⟩ := hp z s' z' t' hq hq'
  refine pz_icmp_eq (tgt := 922) F dL_law_741 (by decide) (fun _ => ?_) (fun hne => absurd e hne)
  exact pz_wid (by omega) (by omega) (h s' t' fo hR')
set_option maxHeartbeats 4000000 in
set_option maxRecDepth 100000 in
theorem lwc_purse {B : pz_B} {g : pz_G} {b L o K N i : Nat} {xs : Nat → Int32} {ad rd : Nat → Nat} {s : cs_S} {t : rs_S} {fo : Nat → Int64} (F : pz_F B cL_law 7 ret "StoneHallLaw" g room_1) (hX : lw_X B b L xs) (hi : 6 * i + 6 ≤ L) (hL : L ≤ 3072) (hR : Rel s t i) (hc : K + 10 ≤ 601024 ∧ N + 80 ≤ 7293034)
    (h : ∀ s' t' fo', Rel s' t' (i + 1) → pz_At B (K + 10) (N + 80) 922 (lw_lv b (ad 0) (rd 0) o i) [] (lw_w g ad rd o s' t' fo')) : pz_At B K N 746 (lw_lv b (ad 0) (rd 0) o i) [] (lw_w g ad rd o s t fo) := by
  obtain ⟨Q, Q', ⟨Rc, ⟨r1, r2, r3, r4⟩, hM⟩, ⟨Rr, ⟨q1, q2, q3, q4⟩, hM'⟩, hp⟩ := pr_purse B.1.2.1 g ad rd (xs (6 * i + 1)) s t i hR (by omega)
  refine pz_aload_n 2 F rfl dL_law_746 rfl ?_
  refine ar_ld (q := 1) (h := ad 0) (r := rd 0) (o := o) F hX hi hL (by omega) rfl rfl rfl dL_law_747 dL_law_748 dL_law_750 dL_law_751 dL_law_752 ?_
  refine pz_callW (nA := 1) (ci := 7) (C := RX8) (T := TX8) (N := 8) (As := [.int (xs (6 * i + 1))]) (rest := []) (wr := lo_c g o fo ++ RWd g rd t) F hM rfl rfl pw_626 pw_627 pw_628 pw_1 pw_629 (by decide +kernel) ⟨by show Rc.frames + 1 ≤ 12; omega, by show 8 + (2 + 11) + Rc.locals ≤ 440; omega⟩ ⟨by show K + Rc.cells ≤ 601024; omega, by show N + Rc.slots ≤ 7293034; omega⟩ rfl rfl (Nat.le_of_ble_eq_true rfl) dL_law_753 ?_
  rintro _ _ ⟨z, s', rfl, rfl, hq⟩
  refine pz_aload_n 3 F rfl dL_law_756 rfl ?_
  refine ar_ld (q := 1) (h := ad 0) (r := rd 0) (o := o) F hX hi hL (by omega) rfl rfl rfl dL_law_757 dL_law_758 dL_law_760 dL_law_761 dL_law_762 ?_
  refine pz_perm (pm_sw _ _ _) ?_
  refine pz_callW (nA := 1) (ci := 8) (C := RX9) (T := TX9) (N := 42) (As := [.int (xs (6 * i + 1))]) (rest := [.int z]) (wr := lo_c g o fo ++ CW g ad s') F hM' rfl rfl pw_1088 pw_1089 pw_1090 pw_8 pw_1091 (by decide +kernel) ⟨by show Rr.frames + 1 ≤ 12; omega, by show 8 + (2 + 11) + Rr.locals ≤ 440; omega⟩ ⟨by show K + Rc.cells + Rr.cells ≤ 601024; omega, by show N + Rc.slots + Rr.slots ≤ 7293034; omega⟩ rfl rfl (Nat.le_of_ble_eq_true rfl) dL_law_763 ?_
  rintro _ _ ⟨z', t', rfl, rfl, hq'⟩
  refine pz_perm (pm_sw _ _ _) ?_
  obtain ⟨e, hR'⟩ := hp z s' z' t' hq hq'
  refine pz_icmp_eq (tgt := 922) F dL_law_766 (by decide) (fun _ => ?_) (fun hne => absurd e hne)
  exact pz_wid (by omega) (by omega) (h s' t' fo hR')
set_option maxHeartbeats 4000000 in
set_option maxRecDepth 100000 in
theorem lwc_rest {B : pz_B} {g : pz_G} {b L o K N i : Nat} {xs : Nat → Int32} {ad rd : Nat → Nat} {s : cs_S} {t : rs_S} {fo : Nat → Int64} (F : pz_F B cL_law 7 ret "StoneHallLaw" g room_1) (hX : lw_X B b L xs) (hi : 6 * i + 6 ≤ L) (hL : L ≤ 3072) (hR : Rel s t i) (hc : K + 10 ≤ 601024 ∧ N + 80 ≤ 7293034)
    (h : ∀ s' t' fo', Rel s' t' (i + 1) → pz_At B (K + 10) (N + 80) 922 (lw_lv b (ad 0) (rd 0) o i) [] (lw_w g ad rd o s' t' fo')) : pz_At B K N 771 (lw_lv b (ad 0) (rd 0) o i) [] (lw_w g ad rd o s t fo) := by
  obtain ⟨Q, Q', ⟨Rc, ⟨r1, r2, r3, r4⟩, hM⟩, ⟨Rr, ⟨q1, q2, q3, q4⟩, hM'⟩, hp⟩ := pr_rest B.1.2.1 g ad rd (xs (6 * i + 1)) (xs (6 * i + 2)) s t i hR (by omega)
  refine pz_aload_n 2 F rfl dL_law_771 rfl ?_
  refine ar_ld (q := 1) (h := ad 0) (r := rd 0) (o := o) F hX hi hL (by omega) rfl rfl rfl dL_law_772 dL_law_773 dL_law_775 dL_law_776 dL_law_777 ?_
  refine ar_ld (q := 2) (h := ad 0) (r := rd 0) (o := o) F hX hi hL (by omega) rfl rfl rfl dL_law_778 dL_law_779 dL_law_781 dL_law_782 dL_law_783 ?_
  refine pz_callW (nA := 2) (ci := 7) (C := RX8) (T := TX8) (N := 8) (As := [.int (xs (6 * i + 1)), .int (xs (6 * i + 2))]) (rest := []) (wr := lo_c g o fo ++ RWd g rd t) F hM rfl rfl pw_630 pw_631 pw_632 pw_1 pw_633 (by decide +kernel) ⟨by show Rc.frames + 1 ≤ 12; omega, by show 8 + (4 + 11) + Rc.locals ≤ 440; omega⟩ ⟨by show K + Rc.cells ≤ 601024; omega, by show N + Rc.slots ≤ 7293034; omega⟩ rfl rfl (Nat.le_of_ble_eq_true rfl) dL_law_784 ?_
  rintro _ _ ⟨z, s', rfl, rfl, hq⟩
  refine pz_aload_n 3 F rfl dL_law_787 rfl ?_
  refine ar_ld (q := 1) (h := ad 0) (r := rd 0) (o := o) F hX hi hL (by omega) rfl rfl rfl dL_law_788 dL_law_789 dL_law_791 dL_law_792 dL_law_793 ?_
  refine ar_ld (q := 2) (h := ad 0) (r := rd 0) (o := o) F hX hi hL (by omega) rfl rfl rfl dL_law_794 dL_law_795 dL_law_797 dL_law_798 dL_law_799 ?_
  refine pz_perm (pm_sw _ _ _) ?_
  refine pz_callW (nA := 2) (ci := 8) (C := RX9) (T := TX9) (N := 42) (As := [.int (xs (6 * i + 1)), .int (xs (6 * i + 2))]) (rest := [.long z]) (wr := lo_c g o fo ++ CW g ad s') F hM' rfl rfl pw_1092 pw_1093 pw_1094 pw_8 pw_1095 (by decide +kernel) ⟨by show Rr.frames + 1 ≤ 12; omega, by show 8 + (11 + 11) + Rr.locals ≤ 440; omega⟩ ⟨by show K + Rc.cells + Rr.cells ≤ 601024; omega, by show N + Rc.slots + Rr.slots ≤ 7293034; omega⟩ rfl rfl (Nat.le_of_ble_eq_true rfl) dL_law_800 ?_
  rintro _ _ ⟨z', t', rfl, rfl, hq'⟩
  refine pz_perm (pm_sw _ _ _) ?_
  obtain ⟨e, hR'⟩ := hp z s' z' t' hq hq'
  refine pz_lcmp F dL_law_803 ?_
  refine pz_if_eq (tgt := 922) F dL_law_804 (by decide) (fun _ => ?_) (fun hne => absurd (by rw [lg_cmp_eq]; exact e) hne)
  exact pz_wid (by omega) (by omega) (h s' t' fo hR')
set_option maxHeartbeats 4000000 in
set_option maxRecDepth 100000 in
theorem lwc_best {B : pz_B} {g : pz_G} {b L o K N i : Nat} {xs : Nat → Int32} {ad rd : Nat → Nat} {s : cs_S} {t : rs_S} {fo : Nat → Int64} (F : pz_F B cL_law 7 ret "StoneHallLaw" g room_1) (hX : lw_X B b L xs) (hi : 6 * i + 6 ≤ L) (hL : L ≤ 3072) (hR : Rel s t i) (hc : K + 10 ≤ 601024 ∧ N + 80 ≤ 7293034)
    (h : ∀ s' t' fo', Rel s' t' (i + 1) → pz_At B (K + 10) (N + 80) 922 (lw_lv b (ad 0) (rd 0) o i) [] (lw_w g ad rd o s' t' fo')) : pz_At B K N 809 (lw_lv b (ad 0) (rd 0) o i) [] (lw_w g ad rd o s t fo) := by
  obtain ⟨Q, Q', ⟨Rc, ⟨r1, r2, r3, r4⟩, hM⟩, ⟨Rr, ⟨q1, q2, q3, q4⟩, hM'⟩, hp⟩ := pr_best B.1.2.1 g ad rd (xs (6 * i + 1)) (xs (6 * i + 2)) s t i hR (by omega)
  refine pz_aload_n 2 F rfl dL_law_809 rfl ?_
  refine ar_ld (q := 1) (h := ad 0) (r := rd 0) (o := o) F hX hi hL (by omega) rfl rfl rfl dL_law_810 dL_law_811 dL_law_813 dL_law_814 dL_law_815 ?_
  refine ar_ld (q := 2) (h := ad 0) (r := rd 0) (o := o) F hX hi hL (by omega) rfl rfl rfl dL_law_816 dL_law_817 dL_law_819 dL_law_820 dL_law_821 ?_
  refine pz_callW (nA := 2) (ci := 7) (C := RX8) (T := TX8) (N := 8) (As := [.int (xs (6 * i + 1)), .int (xs (6 * i + 2))]) (rest := []) (wr := lo_c g o fo ++ RWd g rd t) F hM rfl rfl pw_652 pw_653 pw_654 pw_1 pw_655 (by decide +kernel) ⟨by show Rc.frames + 1 ≤ 12; omega, by show 8 + (5 + 11) + Rc.locals ≤ 440; omega⟩ ⟨by show K + Rc.cells ≤ 601024; omega, by show N + Rc.slots ≤ 7293034; omega⟩ rfl rfl (Nat.le_of_ble_eq_true rfl) dL_law_822 ?_
  rintro _ _ ⟨z, s', rfl, rfl, hq⟩
  refine pz_aload_n 3 F rfl dL_law_825 rfl ?_
  refine ar_ld (q := 1) (h := ad 0) (r := rd 0) (o := o) F hX hi hL (by omega) rfl rfl rfl dL_law_826 dL_law_827 dL_law_829 dL_law_830 dL_law_831 ?_
  refine ar_ld (q := 2) (h := ad 0) (r := rd 0) (o := o) F hX hi hL (by omega) rfl rfl rfl dL_law_832 dL_law_833 dL_law_835 dL_law_836 dL_law_837 ?_
  refine pz_perm (pm_sw _ _ _) ?_
  refine pz_callW (nA := 2) (ci := 8) (C := RX9) (T := TX9) (N := 42) (As := [.int (xs (6 * i + 1)), .int (xs (6 * i + 2))]) (rest := [.long z]) (wr := lo_c g o fo ++ CW g ad s') F hM' rfl rfl pw_1112 pw_1113 pw_1114 pw_8 pw_1115 (by decide +kernel) ⟨by show Rr.frames + 1 ≤ 12; omega, by show 8 + (13 + 11) + Rr.locals ≤ 440; omega⟩ ⟨by show K + Rc.cells + Rr.cells ≤ 601024; omega, by show N + Rc.slots + Rr.slots ≤ 7293034; omega⟩ rfl rfl (Nat.le_of_ble_eq_true rfl) dL_law_838 ?_
  rintro _ _ ⟨z', t', rfl, rfl, hq'⟩
  refine pz_perm (pm_sw _ _ _) ?_
  obtain ⟨e, hR'⟩ := hp z s' z' t' hq hq'
  refine pz_lcmp F dL_law_841 ?_
  refine pz_if_eq (tgt := 922) F dL_law_842 (by decide) (fun _ => ?_) (fun hne => absurd (by rw [lg_cmp_eq]; exact e) hne)
  exact pz_wid (by omega) (by omega) (h s' t' fo hR')
set_option maxHeartbeats 4000000 in
set_option maxRecDepth 100000 in
theorem lwc_likely {B : pz_B} {g : pz_G} {b L o K N i : Nat} {xs : Nat → Int32} {ad rd : Nat → Nat} {s : cs_S} {t : rs_S} {fo : Nat → Int64} (F : pz_F B cL_law 7 ret "StoneHallLaw" g room_1) (hX : lw_X B b L xs) (hi : 6 * i + 6 ≤ L) (hL : L ≤ 3072) (hR : Rel s t i) (hc : K + 10 ≤ 601024 ∧ N + 80 ≤ 7293034)
    (h : ∀ s' t' fo', Rel s' t' (i + 1) → pz_At B (K + 10) (N + 80) 922 (lw_lv b (ad 0) (rd 0) o i) [] (lw_w g ad rd o s' t' fo')) : pz_At B K N 847 (lw_lv b (ad 0) (rd 0) o i) [] (lw_w g ad rd o s t fo) := by
  obtain ⟨Q, Q', ⟨Rc, ⟨r1, r2, r3, r4⟩, hM⟩, ⟨Rr, ⟨q1, q2, q3, q4⟩, hM'⟩, hp⟩ := pr_likely B.1.2.1 g ad rd (xs (6 * i + 1)) (xs (6 * i + 2)) (xs (6 * i + 3)) s t i hR (by omega)
  refine pz_aload_n 2 F rfl dL_law_847 rfl ?_
  refine ar_ld (q := 1) (h := ad 0) (r := rd 0) (o := o) F hX hi hL (by omega) rfl rfl rfl dL_law_848 dL_law_849 dL_law_851 dL_law_852 dL_law_853 ?_
  refine ar_ld (q := 2) (h := ad 0) (r := rd 0) (o := o) F hX hi hL (by omega) rfl rfl rfl dL_law_854 dL_law_855 dL_law_857 dL_law_858 dL_law_859 ?_
  refine ar_ld (q := 3) (h := ad 0) (r := rd 0) (o := o) F hX hi hL (by omega) rfl rfl rfl dL_law_860 dL_law_861 dL_law_863 dL_law_864 dL_law_865 ?_
  refine pz_callW (nA := 3) (ci := 7) (C := RX8) (T := TX8) (N := 8) (As := [.int (xs (6 * i + 1)), .int (xs (6 * i + 2)), .int (xs (6 * i + 3))]) (rest := []) (wr := lo_c g o fo ++ RWd g rd t) F hM rfl rfl pw_693 pw_694 pw_695 pw_1 pw_696 (by decide +kernel) ⟨by show Rc.frames + 1 ≤ 12; omega, by show 8 + (5 + 11) + Rc.locals ≤ 440; omega⟩ ⟨by show K + Rc.cells ≤ 601024; omega, by show N + Rc.slots ≤ 7293034; omega⟩ rfl rfl (Nat.le_of_ble_eq_true rfl) dL_law_866 ?_
  rintro _ _ ⟨z, s', rfl, rfl, hq⟩
  refine pz_aload_n 3 F rfl dL_law_869 rfl ?_
  refine ar_ld (q := 1) (h := ad 0) (r := rd 0) (o := o) F hX hi hL (by omega) rfl rfl rfl dL_law_870 dL_law_871 dL_law_873 dL_law_874 dL_law_875 ?_
  refine ar_ld (q := 2) (h := ad 0) (r := rd 0) (o := o) F hX hi hL (by omega) rfl rfl rfl dL_law_876 dL_law_877 dL_law_879 dL_law_880 dL_law_881 ?_
  refine ar_ld (q := 3) (h := ad 0) (r := rd 0) (o := o) F hX hi hL (by omega) rfl rfl rfl dL_law_882 dL_law_883 dL_law_885 dL_law_886 dL_law_887 ?_
  refine pz_perm (pm_sw _ _ _) ?_
  refine pz_callW (nA := 3) (ci := 8) (C := RX9) (T := TX9) (N := 42) (As := [.int (xs (6 * i + 1)), .int (xs (6 * i + 2)), .int (xs (6 * i + 3))]) (rest := [.long z]) (wr := lo_c g o fo ++ CW g ad s') F hM' rfl rfl pw_1108 pw_1109 pw_1110 pw_8 pw_1111 (by decide +kernel) ⟨by show Rr.frames + 1 ≤ 12; omega, by show 8 + (6 + 11) + Rr.locals ≤ 440; omega⟩ ⟨by show K + Rc.cells + Rr.cells ≤ 601024; omega, by show N + Rc.slots + Rr.slots ≤ 7293034; omega⟩ rfl rfl (Nat.le_of_ble_eq_true rfl) dL_law_888 ?_
  rintro _ _ ⟨z', t', rfl, rfl, hq'⟩
  refine pz_perm (pm_sw _ _ _) ?_
  obtain ⟨e, hR'⟩ := hp z s' z' t' hq hq'
  refine pz_lcmp F dL_law_891 ?_
  refine pz_if_eq (tgt := 922) F dL_law_892 (by decide) (fun _ => ?_) (fun hne => absurd (by rw [lg_cmp_eq]; exact e) hne)
  exact pz_wid (by omega) (by omega) (h s' t' fo hR')
set_option maxHeartbeats 4000000 in
set_option maxRecDepth 100000 in
theorem lwc_count {B : pz_B} {g : pz_G} {b L o K N i : Nat} {xs : Nat → Int32} {ad rd : Nat → Nat} {s : cs_S} {t : rs_S} {fo : Nat → Int64} (F : pz_F B cL_law 7 ret "StoneHallLaw" g room_1) (hX : lw_X B b L xs) (hi : 6 * i + 6 ≤ L) (hL : L ≤ 3072) (hR : Rel s t i) (hc : K + 10 ≤ 601024 ∧ N + 80 ≤ 7293034)
    (h : ∀ s' t' fo', Rel s' t' (i + 1) → pz_At B (K + 10) (N + 80) 922 (lw_lv b (ad 0) (rd 0) o i) [] (lw_w g ad rd o s' t' fo')) : pz_At B K N 897 (lw_lv b (ad 0) (rd 0) o i) [] (lw_w g ad rd o s t fo) := by
  obtain ⟨Q, Q', ⟨Rc, ⟨r1, r2, r3, r4⟩, hM⟩, ⟨Rr, ⟨q1, q2, q3, q4⟩, hM'⟩, hp⟩ := pr_count B.1.2.1 g ad rd (xs (6 * i + 1)) s t i hR (by omega)
  refine pz_aload_n 2 F rfl dL_law_897 rfl ?_
  refine ar_ld (q := 1) (h := ad 0) (r := rd 0) (o := o) F hX hi hL (by omega) rfl rfl rfl dL_law_898 dL_law_899 dL_law_901 dL_law_902 dL_law_903 ?_
  refine pz_callW (nA := 1) (ci := 7) (C := RX8) (T := TX8) (N := 8) (As := [.int (xs (6 * i + 1))]) (rest := []) (wr := lo_c g o fo ++ RWd g rd t) F hM rfl rfl pw_705 pw_706 pw_707 pw_1 pw_708 (by decide +kernel) ⟨by show Rc.frames + 1 ≤ 12; omega, by show 8 + (2 + 11) + Rc.locals ≤ 440; omega⟩ ⟨by show K + Rc.cells ≤ 601024; omega, by show N + Rc.slots ≤ 7293034; omega⟩ rfl rfl (Nat.le_of_ble_eq_true rfl) dL_law_904 ?_
  rintro _ _ ⟨z, s', rfl, rfl, hq⟩
  refine pz_aload_n 3 F rfl dL_law_907 rfl ?_
  refine ar_ld (q := 1) (h := ad 0) (r := rd 0) (o := o) F hX hi hL (by omega) rfl rfl rfl dL_law_908 dL_law_909 dL_law_911 dL_law_912 dL_law_913 ?_
  refine pz_perm (pm_sw _ _ _) ?_
  refine pz_callW (nA := 1) (ci := 8) (C := RX9) (T := TX9) (N := 42) (As := [.int (xs (6 * i + 1))]) (rest := [.int z]) (wr := lo_c g o fo ++ CW g ad s') F hM' rfl rfl pw_1130 pw_1131 pw_1132 pw_8 pw_1133 (by decide +kernel) ⟨by show Rr.frames + 1 ≤ 12; omega, by show 8 + (2 + 11) + Rr.locals ≤ 440; omega⟩ ⟨by show K + Rc.cells + Rr.cells ≤ 601024; omega, by show N + Rc.slots + Rr.slots ≤ 7293034; omega⟩ rfl rfl (Nat.le_of_ble_eq_true rfl) dL_law_914 ?_
  rintro _ _ ⟨z', t', rfl, rfl, hq'⟩
  refine pz_perm (pm_sw _ _ _) ?_
  obtain ⟨e, hR'⟩ := hp z s' z' t' hq hq'
  refine pz_icmp_eq (tgt := 922) F dL_law_917 (by decide) (fun _ => ?_) (fun hne => absurd e hne)
  exact pz_wid (by omega) (by omega) (h s' t' fo hR')
end LAW2
