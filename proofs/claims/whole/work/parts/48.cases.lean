def lwN (p : Program) (l : Launch) (e : Env) (s : State) (m : MethodId) (below : List Frame) (meth : Method) (c : Code) (Q : State → Prop) (E : zE) (sb x0 m0 o0 i cells slots : Nat) : Prop := ∀ (H1 : Heap) (locs1 : List Loc) (ls1 : Array Slot) (c1 s1 : Nat), lwV E x0 m0 o0 (lwA s) H1 → va_S (lwA s) s.heap H1 locs1 → c1 ≤ cells + 3 → s1 ≤ slots + 132 → lv_has ls1 8 (lvL sb x0 m0 o0 i) → W p l e room_1 s m #[Value.ref sb] below meth c H1 locs1 c1 s1 Q (F0 m 1196 ls1 [])
theorem oW_fst {E : zE} {X : va_W} {o : Nat} {F F2 : Nat → Int64} : (X ++ oW E o F2).map Prod.fst = (X ++ oW E o F).map Prod.fst := List.map_append.trans (Eq.trans (show X.map Prod.fst ++ (oW E o F2).map Prod.fst = X.map Prod.fst ++ (oW E o F).map Prod.fst from rfl) List.map_append.symm)
section CASES
variable {p : Program} {l : Launch} {e : Env} {s : State} {m : MethodId} {below : List Frame} {meth : Method} {c : Code} {H : Heap} {locs : List Loc} {cells slots : Nat} {Q : State → Prop} {ls : Array Slot} {E : zE} {sb Ln x0 m0 o0 i : Nat} {xs : Nat → Int32}
set_option maxHeartbeats 4000000 in
set_option maxRecDepth 100000 in
theorem lc_fold (B : lwB p l s m c E sb Ln xs) (hV : lwV E x0 m0 o0 (lwA s) H) (hS : va_S (lwA s) s.heap H locs) (hc : cells ≤ 5000) (hs : slots ≤ 100000) (hi : i + 5 ≤ Ln) (hl : lv_has ls 8 (lvL sb x0 m0 o0 i)) (kk : lwN p l e s m below meth c Q E sb x0 m0 o0 i cells slots) : W p l e room_1 s m #[Value.ref sb] below meth c H locs cells slots Q (F0 m 140 ls []) := by
  have B2 := B
  obtain ⟨⟨hx, hb, hml, hown, hts⟩, hK, -, -, -, hst, hG1, hG2, hG3⟩ := B2
  obtain ⟨fa, tb, st, jn, rs, lm, fh, ft, fv, kd, nz, T, V, n, b, S, J, w1, w2, w3, w4, L, F, k0, q0, t0, v0, c0, p0, s0, j0, r0, f0, g0, h0, cd, TT, VV, CC, OO, RR, z1, z2, z3, z4, SF, SM, FD, hR, hP, hD⟩ := hV
  have hA : ∀ q : Nat, s.heap.size ≤ q → lwA s q := fun q h => h
  have hn := Rl_n hR
  have hz := Rl_z hR
  have hk5 := Rl_k hR
  refine lv_aload_n hx hb dL_law_140 rfl (lv_at hl 1 rfl) ?_
  refine zs_arg B hS (lv_sub hl [0, 1, 2, 3, 4] rfl) 1 (by decide) hi dL_law_141 dL_law_142 dL_law_144 dL_law_145 dL_law_146 ?_
  refine zL_xf (va_runV (As := [.int (xs (i + 1))]) (rest := []) ⟨hx, hb, hml, hown, hts⟩ (kX3_fold l E _ x0 fa tb st jn rs lm fh ft fv kd nz T V n b S J w1 w2 w3 w4 L hn (xs (i + 1))) (cwV 1 hts (good_app gL_law_X3_fold) rfl rfl rfl (by decide +kernel) ⟨Nat.le_of_ble_eq_true rfl, Nat.le_of_ble_eq_true rfl⟩) (z_preWV (app_l hP) (D_l hD) hK 0 rfl rfl) rfl rfl hl.1 rfl (lv_room (Nat.le_of_ble_eq_true rfl)) dL_law_147 ⟨Nat.le_trans (Nat.add_le_add_right hc _) (Nat.le_of_ble_eq_true rfl), Nat.le_trans (Nat.add_le_add_right hs _) (Nat.le_of_ble_eq_true rfl)⟩) hP hD hS hA (fun H locs u hP hD hS => ?_)
  have hc := Nat.add_le_add_right hc 3
  have hs := Nat.add_le_add_right hs 132
  rw [← List.append_assoc] at hP hD
  refine lv_aload_n hx hb dL_law_150 rfl (lv_at hl 2 rfl) ?_
  refine zs_arg B hS (lv_sub hl [0, 1, 2, 3, 4] rfl) 1 (by decide) hi dL_law_151 dL_law_152 dL_law_154 dL_law_155 dL_law_156 ?_
  refine zL_mi (va_runV (As := [.int (xs (i + 1))]) (rest := [.int (fdA n (xs (i + 1)))]) ⟨hx, hb, hml, hown, hts⟩ (kX4_fold l E _ m0 k0 q0 t0 v0 c0 p0 s0 j0 r0 f0 g0 h0 cd n kd nz TT VV CC OO b S J RR z1 z2 z3 z4 SF SM FD hn (xs (i + 1))) (cwV 1 hts (good_app gL_law_X4_fold) rfl rfl rfl (by decide +kernel) ⟨Nat.le_of_ble_eq_true rfl, Nat.le_of_ble_eq_true rfl⟩) (z_preWV (app_r hP) (D_r hD) hK 0 rfl rfl) rfl rfl hl.1 rfl (lv_room (Nat.le_of_ble_eq_true rfl)) dL_law_157 ⟨Nat.le_trans hc (Nat.le_of_ble_eq_true rfl), Nat.le_trans hs (Nat.le_of_ble_eq_true rfl)⟩) hP hD hS hA (fun _ => rfl) (fun H locs u2 hP hD hS => ?_)
  rw [List.append_assoc] at hP hD
  rw [← fdX_K, ← fdX_M] at hP hD
  refine lv_icmp_eq (tgt := 1196) hx hb dL_law_160 (by decide) (fun _ => ?_) (fun q => absurd (rfl) q)
  exact kk _ _ _ _ _ ⟨fa, tb, st, jn, rs, lm, fdX fh n (xs (i + 1)) u.1, fdX ft n (xs (i + 1)) u.2.1, fdX fv n (xs (i + 1)) u.2.2, fdX kd n (xs (i + 1)) (Int32.toNatClampNeg (xs (i + 1))), fdX nz n (xs (i + 1)) 0, fdX T n (xs (i + 1)) (fun _ => nI 0), fdX V n (xs (i + 1)) (fun _ => 0), fdN n (xs (i + 1)), b, S, J, w1, w2, w3, w4, L, F, k0, q0, t0, v0, c0, p0, s0, j0, r0, f0, g0, h0, nI 0, TT, VV, CC, OO, RR, z1, z2, z3, z4, SF, SM, FD, Rl_fold hR (xs (i + 1)), hP, hD⟩ hS (Nat.le_refl _) (Nat.le_refl _) hl
set_option maxHeartbeats 4000000 in
set_option maxRecDepth 100000 in
theorem lc_add (B : lwB p l s m c E sb Ln xs) (hV : lwV E x0 m0 o0 (lwA s) H) (hS : va_S (lwA s) s.heap H locs) (hc : cells ≤ 5000) (hs : slots ≤ 100000) (hi : i + 5 ≤ Ln) (hl : lv_has ls 8 (lvL sb x0 m0 o0 i)) (kk : lwN p l e s m below meth c Q E sb x0 m0 o0 i cells slots) : W p l e room_1 s m #[Value.ref sb] below meth c H locs cells slots Q (F0 m 165 ls []) := by
  have B2 := B
  obtain ⟨⟨hx, hb, hml, hown, hts⟩, hK, -, -, -, hst, hG1, hG2, hG3⟩ := B2
  obtain ⟨fa, tb, st, jn, rs, lm, fh, ft, fv, kd, nz, T, V, n, b, S, J, w1, w2, w3, w4, L, F, k0, q0, t0, v0, c0, p0, s0, j0, r0, f0, g0, h0, cd, TT, VV, CC, OO, RR, z1, z2, z3, z4, SF, SM, FD, hR, hP, hD⟩ := hV
  have hA : ∀ q : Nat, s.heap.size ≤ q → lwA s q := fun q h => h
  have hn := Rl_n hR
  have hz := Rl_z hR
  have hk5 := Rl_k hR
  refine lv_aload_n hx hb dL_law_165 rfl (lv_at hl 1 rfl) ?_
  refine zs_arg B hS (lv_sub hl [0, 1, 2, 3, 4] rfl) 1 (by decide) hi dL_law_166 dL_law_167 dL_law_169 dL_law_170 dL_law_171 ?_
  refine zs_arg B hS (lv_sub hl [0, 1, 2, 3, 4] rfl) 2 (by decide) hi dL_law_172 dL_law_173 dL_law_175 dL_law_176 dL_law_177 ?_
  refine zs_long B hS (lv_sub hl [0, 1, 2, 3, 4] rfl) 3 (by decide) hi dL_law_178 dL_law_179 dL_law_181 dL_law_182 dL_law_183 dL_law_184 dL_law_185 dL_law_187 dL_law_188 dL_law_189 dL_law_191 dL_law_192 dL_law_193 dL_law_194 dL_law_195 dL_law_198 dL_law_199 rfl ?_
  refine zL_xi (va_runV (As := [.int (xs (i + 1)), .int (xs (i + 2)), .long (lgv xs (i + 3))]) (rest := []) ⟨hx, hb, hml, hown, hts⟩ (kX3_add l E _ x0 fa tb st jn rs lm fh ft fv kd nz T V n b S J w1 w2 w3 w4 L hn hz hk5 (xs (i + 1)) (xs (i + 2)) (lgv xs (i + 3))) (cwV 3 hts (good_app gL_law_X3_add) rfl rfl rfl (by decide +kernel) ⟨Nat.le_of_ble_eq_true rfl, Nat.le_of_ble_eq_true rfl⟩) (z_preWV (app_l hP) (D_l hD) hK 0 rfl rfl) rfl rfl hl.1 rfl (lv_room (Nat.le_of_ble_eq_true rfl)) dL_law_200 ⟨Nat.le_trans hc (Nat.le_of_ble_eq_true rfl), Nat.le_trans hs (Nat.le_of_ble_eq_true rfl)⟩) hP hD hS hA xf_fst (fun H locs hP hD hS => ?_)
  rw [← List.append_assoc] at hP hD
  refine lv_aload_n hx hb dL_law_203 rfl (lv_at hl 2 rfl) ?_
  refine zs_arg B hS (lv_sub hl [0, 1, 2, 3, 4] rfl) 1 (by decide) hi dL_law_204 dL_law_205 dL_law_207 dL_law_208 dL_law_209 ?_
  refine zs_arg B hS (lv_sub hl [0, 1, 2, 3, 4] rfl) 2 (by decide) hi dL_law_210 dL_law_211 dL_law_213 dL_law_214 dL_law_215 ?_
  refine zs_long B hS (lv_sub hl [0, 1, 2, 3, 4] rfl) 3 (by decide) hi dL_law_216 dL_law_217 dL_law_219 dL_law_220 dL_law_221 dL_law_222 dL_law_223 dL_law_225 dL_law_226 dL_law_227 dL_law_229 dL_law_230 dL_law_231 dL_law_232 dL_law_233 dL_law_236 dL_law_237 rfl ?_
  refine zL_mi (va_runV (As := [.int (xs (i + 1)), .int (xs (i + 2)), .long (lgv xs (i + 3))]) (rest := [.int (adA n kd nz 0 (xs (i + 1)) (xs (i + 2)) (lgv xs (i + 3)))]) ⟨hx, hb, hml, hown, hts⟩ (kX4_add l E _ m0 k0 q0 t0 v0 c0 p0 s0 j0 r0 f0 g0 h0 cd n kd nz TT VV CC OO b S J RR z1 z2 z3 z4 SF SM FD hn hz hk5 (xs (i + 1)) (xs (i + 2)) (lgv xs (i + 3))) (cwV 3 hts (good_app gL_law_X4_add) rfl rfl rfl (by decide +kernel) ⟨Nat.le_of_ble_eq_true rfl, Nat.le_of_ble_eq_true rfl⟩) (z_preWV (app_r hP) (D_r hD) hK 0 rfl rfl) rfl rfl hl.1 rfl (lv_room (Nat.le_of_ble_eq_true rfl)) dL_law_238 ⟨Nat.le_trans hc (Nat.le_of_ble_eq_true rfl), Nat.le_trans hs (Nat.le_of_ble_eq_true rfl)⟩) hP hD hS hA (fun _ => rfl) (fun H locs u2 hP hD hS => ?_)
  rw [List.append_assoc] at hP hD
  refine lv_icmp_eq (tgt := 1196) hx hb dL_law_241 (by decide) (fun _ => ?_) (fun q => absurd (rfl) q)
  exact kk _ _ _ _ _ ⟨fa, tb, st, jn, rs, lm, fh, ft, fv, kd, adN (adOk n kd nz 0 (xs (i + 1)) (xs (i + 2)) (lgv xs (i + 3))) nz, adT (adOk n kd nz 0 (xs (i + 1)) (xs (i + 2)) (lgv xs (i + 3))) nz T V (xs (i + 2)) (lgv xs (i + 3)), adV (adOk n kd nz 0 (xs (i + 1)) (xs (i + 2)) (lgv xs (i + 3))) nz T V (xs (i + 2)) (lgv xs (i + 3)), n, b, S, J, w1, w2, w3, w4, L, F, k0, q0, t0, v0, c0, p0, s0, j0, r0, f0, g0, h0, nI 0, adTm (adOk n kd nz 0 (xs (i + 1)) (xs (i + 2)) (lgv xs (i + 3))) nz TT (xs (i + 2)), adVm (adOk n kd nz 0 (xs (i + 1)) (xs (i + 2)) (lgv xs (i + 3))) nz VV (lgv xs (i + 3)), CC, OO, RR, z1, z2, z3, z4, SF, SM, FD, Rl_add hR 0 (xs (i + 1)) (xs (i + 2)) (lgv xs (i + 3)), hP, hD⟩ hS (Nat.le_add_right _ _) (Nat.le_add_right _ _) hl
set_option maxHeartbeats 4000000 in
set_option maxRecDepth 100000 in
theorem lc_addReal (B : lwB p l s m c E sb Ln xs) (hV : lwV E x0 m0 o0 (lwA s) H) (hS : va_S (lwA s) s.heap H locs) (hc : cells ≤ 5000) (hs : slots ≤ 100000) (hi : i + 5 ≤ Ln) (hl : lv_has ls 8 (lvL sb x0 m0 o0 i)) (kk : lwN p l e s m below meth c Q E sb x0 m0 o0 i cells slots) : W p l e room_1 s m #[Value.ref sb] below meth c H locs cells slots Q (F0 m 246 ls []) := by
  have B2 := B
  obtain ⟨⟨hx, hb, hml, hown, hts⟩, hK, -, -, -, hst, hG1, hG2, hG3⟩ := B2
  obtain ⟨fa, tb, st, jn, rs, lm, fh, ft, fv, kd, nz, T, V, n, b, S, J, w1, w2, w3, w4, L, F, k0, q0, t0, v0, c0, p0, s0, j0, r0, f0, g0, h0, cd, TT, VV, CC, OO, RR, z1, z2, z3, z4, SF, SM, FD, hR, hP, hD⟩ := hV
  have hA : ∀ q : Nat, s.heap.size ≤ q → lwA s q := fun q h => h
  have hn := Rl_n hR
  have hz := Rl_z hR
  have hk5 := Rl_k hR
  refine lv_aload_n hx hb dL_law_246 rfl (lv_at hl 1 rfl) ?_
  refine zs_arg B hS (lv_sub hl [0, 1, 2, 3, 4] rfl) 1 (by decide) hi dL_law_247 dL_law_248 dL_law_250 dL_law_251 dL_law_252 ?_
  refine zs_arg B hS (lv_sub hl [0, 1, 2, 3, 4] rfl) 2 (by decide) hi dL_law_253 dL_law_254 dL_law_256 dL_law_257 dL_law_258 ?_
  refine zs_long B hS (lv_sub hl [0, 1, 2, 3, 4] rfl) 3 (by decide) hi dL_law_259 dL_law_260 dL_law_262 dL_law_263 dL_law_264 dL_law_265 dL_law_266 dL_law_268 dL_law_269 dL_law_270 dL_law_272 dL_law_273 dL_law_274 dL_law_275 dL_law_276 dL_law_279 dL_law_280 rfl ?_
  refine zL_xi (va_runV (As := [.int (xs (i + 1)), .int (xs (i + 2)), .long (lgv xs (i + 3))]) (rest := []) ⟨hx, hb, hml, hown, hts⟩ (kX3_addReal l E _ x0 fa tb st jn rs lm fh ft fv kd nz T V n b S J w1 w2 w3 w4 L hn hz hk5 (xs (i + 1)) (xs (i + 2)) (lgv xs (i + 3))) (cwV 3 hts (good_app gL_law_X3_addReal) rfl rfl rfl (by decide +kernel) ⟨Nat.le_of_ble_eq_true rfl, Nat.le_of_ble_eq_true rfl⟩) (z_preWV (app_l hP) (D_l hD) hK 0 rfl rfl) rfl rfl hl.1 rfl (lv_room (Nat.le_of_ble_eq_true rfl)) dL_law_281 ⟨Nat.le_trans hc (Nat.le_of_ble_eq_true rfl), Nat.le_trans hs (Nat.le_of_ble_eq_true rfl)⟩) hP hD hS hA xf_fst (fun H locs hP hD hS => ?_)
  rw [← List.append_assoc] at hP hD
  refine lv_aload_n hx hb dL_law_284 rfl (lv_at hl 2 rfl) ?_
  refine zs_arg B hS (lv_sub hl [0, 1, 2, 3, 4] rfl) 1 (by decide) hi dL_law_285 dL_law_286 dL_law_288 dL_law_289 dL_law_290 ?_
  refine zs_arg B hS (lv_sub hl [0, 1, 2, 3, 4] rfl) 2 (by decide) hi dL_law_291 dL_law_292 dL_law_294 dL_law_295 dL_law_296 ?_
  refine zs_long B hS (lv_sub hl [0, 1, 2, 3, 4] rfl) 3 (by decide) hi dL_law_297 dL_law_298 dL_law_300 dL_law_301 dL_law_302 dL_law_303 dL_law_304 dL_law_306 dL_law_307 dL_law_308 dL_law_310 dL_law_311 dL_law_312 dL_law_313 dL_law_314 dL_law_317 dL_law_318 rfl ?_
  refine zL_mi (va_runV (As := [.int (xs (i + 1)), .int (xs (i + 2)), .long (lgv xs (i + 3))]) (rest := [.int (adA n kd nz 1 (xs (i + 1)) (xs (i + 2)) (wz (lgv xs (i + 3))))]) ⟨hx, hb, hml, hown, hts⟩ (kX4_addReal l E _ m0 k0 q0 t0 v0 c0 p0 s0 j0 r0 f0 g0 h0 cd n kd nz TT VV CC OO b S J RR z1 z2 z3 z4 SF SM FD hn hz hk5 (xs (i + 1)) (xs (i + 2)) (lgv xs (i + 3))) (cwV 3 hts (good_app gL_law_X4_addReal) rfl rfl rfl (by decide +kernel) ⟨Nat.le_of_ble_eq_true rfl, Nat.le_of_ble_eq_true rfl⟩) (z_preWV (app_r hP) (D_r hD) hK 0 rfl rfl) rfl rfl hl.1 rfl (lv_room (Nat.le_of_ble_eq_true rfl)) dL_law_319 ⟨Nat.le_trans hc (Nat.le_of_ble_eq_true rfl), Nat.le_trans hs (Nat.le_of_ble_eq_true rfl)⟩) hP hD hS hA (fun _ => rfl) (fun H locs u2 hP hD hS => ?_)
  rw [List.append_assoc] at hP hD
  refine lv_icmp_eq (tgt := 1196) hx hb dL_law_322 (by decide) (fun _ => ?_) (fun q => absurd (rfl) q)
  exact kk _ _ _ _ _ ⟨fa, tb, st, jn, rs, lm, fh, ft, fv, kd, adN (adOk n kd nz 1 (xs (i + 1)) (xs (i + 2)) (wz (lgv xs (i + 3)))) nz, adT (adOk n kd nz 1 (xs (i + 1)) (xs (i + 2)) (wz (lgv xs (i + 3)))) nz T V (xs (i + 2)) (wz (lgv xs (i + 3))), adV (adOk n kd nz 1 (xs (i + 1)) (xs (i + 2)) (wz (lgv xs (i + 3)))) nz T V (xs (i + 2)) (wz (lgv xs (i + 3))), n, b, S, J, w1, w2, w3, w4, L, F, k0, q0, t0, v0, c0, p0, s0, j0, r0, f0, g0, h0, nI 0, adTm (adOk n kd nz 1 (xs (i + 1)) (xs (i + 2)) (wz (lgv xs (i + 3)))) nz TT (xs (i + 2)), adVm (adOk n kd nz 1 (xs (i + 1)) (xs (i + 2)) (wz (lgv xs (i + 3)))) nz VV (wz (lgv xs (i + 3))), CC, OO, RR, z1, z2, z3, z4, SF, SM, FD, Rl_add hR 1 (xs (i + 1)) (xs (i + 2)) (wz (lgv xs (i + 3))), hP, hD⟩ hS (Nat.le_add_right _ _) (Nat.le_add_right _ _) hl
set_option maxHeartbeats 4000000 in
set_option maxRecDepth 100000 in
theorem lc_remove (B : lwB p l s m c E sb Ln xs) (hV : lwV E x0 m0 o0 (lwA s) H) (hS : va_S (lwA s) s.heap H locs) (hc : cells ≤ 5000) (hs : slots ≤ 100000) (hi : i + 5 ≤ Ln) (hl : lv_has ls 8 (lvL sb x0 m0 o0 i)) (kk : lwN p l e s m below meth c Q E sb x0 m0 o0 i cells slots) : W p l e room_1 s m #[Value.ref sb] below meth c H locs cells slots Q (F0 m 327 ls []) := by
  have B2 := B
  obtain ⟨⟨hx, hb, hml, hown, hts⟩, hK, -, -, -, hst, hG1, hG2, hG3⟩ := B2
  obtain ⟨fa, tb, st, jn, rs, lm, fh, ft, fv, kd, nz, T, V, n, b, S, J, w1, w2, w3, w4, L, F, k0, q0, t0, v0, c0, p0, s0, j0, r0, f0, g0, h0, cd, TT, VV, CC, OO, RR, z1, z2, z3, z4, SF, SM, FD, hR, hP, hD⟩ := hV
  have hA : ∀ q : Nat, s.heap.size ≤ q → lwA s q := fun q h => h
  have hn := Rl_n hR
  have hz := Rl_z hR
  have hk5 := Rl_k hR
  refine lv_aload_n hx hb dL_law_327 rfl (lv_at hl 1 rfl) ?_
  refine zs_arg B hS (lv_sub hl [0, 1, 2, 3, 4] rfl) 1 (by decide) hi dL_law_328 dL_law_329 dL_law_331 dL_law_332 dL_law_333 ?_
  refine zs_arg B hS (lv_sub hl [0, 1, 2, 3, 4] rfl) 2 (by decide) hi dL_law_334 dL_law_335 dL_law_337 dL_law_338 dL_law_339 ?_
  refine zs_long B hS (lv_sub hl [0, 1, 2, 3, 4] rfl) 3 (by decide) hi dL_law_340 dL_law_341 dL_law_343 dL_law_344 dL_law_345 dL_law_346 dL_law_347 dL_law_349 dL_law_350 dL_law_351 dL_law_353 dL_law_354 dL_law_355 dL_law_356 dL_law_357 dL_law_360 dL_law_361 rfl ?_
  refine zL_xi (va_runV (As := [.int (xs (i + 1)), .int (xs (i + 2)), .long (lgv xs (i + 3))]) (rest := []) ⟨hx, hb, hml, hown, hts⟩ (kX3_remove l E _ x0 fa tb st jn rs lm fh ft fv kd nz T V n b S J w1 w2 w3 w4 L hn hz hk5 (xs (i + 1)) (xs (i + 2)) (lgv xs (i + 3))) (cwV 3 hts (good_app gL_law_X3_remove) rfl rfl rfl (by decide +kernel) ⟨Nat.le_of_ble_eq_true rfl, Nat.le_of_ble_eq_true rfl⟩) (z_preWV (app_l hP) (D_l hD) hK 0 rfl rfl) rfl rfl hl.1 rfl (lv_room (Nat.le_of_ble_eq_true rfl)) dL_law_362 ⟨Nat.le_trans hc (Nat.le_of_ble_eq_true rfl), Nat.le_trans hs (Nat.le_of_ble_eq_true rfl)⟩) hP hD hS hA xf_fst (fun H locs hP hD hS => ?_)
  rw [← List.append_assoc] at hP hD
  refine lv_aload_n hx hb dL_law_365 rfl (lv_at hl 2 rfl) ?_
  refine zs_arg B hS (lv_sub hl [0, 1, 2, 3, 4] rfl) 1 (by decide) hi dL_law_366 dL_law_367 dL_law_369 dL_law_370 dL_law_371 ?_
  refine zs_arg B hS (lv_sub hl [0, 1, 2, 3, 4] rfl) 2 (by decide) hi dL_law_372 dL_law_373 dL_law_375 dL_law_376 dL_law_377 ?_
  refine zs_long B hS (lv_sub hl [0, 1, 2, 3, 4] rfl) 3 (by decide) hi dL_law_378 dL_law_379 dL_law_381 dL_law_382 dL_law_383 dL_law_384 dL_law_385 dL_law_387 dL_law_388 dL_law_389 dL_law_391 dL_law_392 dL_law_393 dL_law_394 dL_law_395 dL_law_398 dL_law_399 rfl ?_
  refine zL_mi (va_runV (As := [.int (xs (i + 1)), .int (xs (i + 2)), .long (lgv xs (i + 3))]) (rest := [.int (rmA n kd nz T V 0 (xs (i + 1)) (xs (i + 2)) (lgv xs (i + 3)))]) ⟨hx, hb, hml, hown, hts⟩ (kX4_remove l E _ m0 k0 q0 t0 v0 c0 p0 s0 j0 r0 f0 g0 h0 cd n kd nz TT VV CC OO b S J RR z1 z2 z3 z4 SF SM FD hn hz hk5 (xs (i + 1)) (xs (i + 2)) (lgv xs (i + 3))) (cwV 3 hts (good_app gL_law_X4_remove) rfl rfl rfl (by decide +kernel) ⟨Nat.le_of_ble_eq_true rfl, Nat.le_of_ble_eq_true rfl⟩) (z_preWV (app_r hP) (D_r hD) hK 0 rfl rfl) rfl rfl hl.1 rfl (lv_room (Nat.le_of_ble_eq_true rfl)) dL_law_400 ⟨Nat.le_trans hc (Nat.le_of_ble_eq_true rfl), Nat.le_trans hs (Nat.le_of_ble_eq_true rfl)⟩) hP hD hS hA (fun _ => rfl) (fun H locs u2 hP hD hS => ?_)
  rw [List.append_assoc] at hP hD
  rw [← (rm_both hR 0 (xs (i + 1)) (xs (i + 2)) (lgv xs (i + 3))).2.1] at hP hD
  refine lv_icmp_eq (tgt := 1196) hx hb dL_law_403 (by decide) (fun _ => ?_) (fun q => absurd ((rm_both hR 0 (xs (i + 1)) (xs (i + 2)) (lgv xs (i + 3))).1) q)
  exact kk _ _ _ _ _ ⟨fa, tb, st, jn, rs, lm, fh, ft, fv, kd, rmN (rmOk n kd nz T V 0 (xs (i + 1)) (xs (i + 2)) (lgv xs (i + 3))) nz, rmT (rmOk n kd nz T V 0 (xs (i + 1)) (xs (i + 2)) (lgv xs (i + 3))) nz T V (xs (i + 2)) (lgv xs (i + 3)), rmV (rmOk n kd nz T V 0 (xs (i + 1)) (xs (i + 2)) (lgv xs (i + 3))) nz T V (xs (i + 2)) (lgv xs (i + 3)), n, b, S, J, w1, w2, w3, w4, L, F, k0, q0, t0, v0, c0, p0, s0, j0, r0, f0, g0, h0, nI 0, tkT nz TT (rvO n kd nz TT VV 0 (xs (i + 1)) (xs (i + 2)) (lgv xs (i + 3))), tkV nz VV (rvO n kd nz TT VV 0 (xs (i + 1)) (xs (i + 2)) (lgv xs (i + 3))), CC, OO, RR, z1, z2, z3, z4, SF, SM, FD, (rm_both hR 0 (xs (i + 1)) (xs (i + 2)) (lgv xs (i + 3))).2.2, hP, hD⟩ hS (Nat.le_add_right _ _) (Nat.le_add_right _ _) hl
set_option maxHeartbeats 4000000 in
set_option maxRecDepth 100000 in
theorem lc_removeReal (B : lwB p l s m c E sb Ln xs) (hV : lwV E x0 m0 o0 (lwA s) H) (hS : va_S (lwA s) s.heap H locs) (hc : cells ≤ 5000) (hs : slots ≤ 100000) (hi : i + 5 ≤ Ln) (hl : lv_has ls 8 (lvL sb x0 m0 o0 i)) (kk : lwN p l e s m below meth c Q E sb x0 m0 o0 i cells slots) : W p l e room_1 s m #[Value.ref sb] below meth c H locs cells slots Q (F0 m 408 ls []) := by
  have B2 := B
  obtain ⟨⟨hx, hb, hml, hown, hts⟩, hK, -, -, -, hst, hG1, hG2, hG3⟩ := B2
  obtain ⟨fa, tb, st, jn, rs, lm, fh, ft, fv, kd, nz, T, V, n, b, S, J, w1, w2, w3, w4, L, F, k0, q0, t0, v0, c0, p0, s0, j0, r0, f0, g0, h0, cd, TT, VV, CC, OO, RR, z1, z2, z3, z4, SF, SM, FD, hR, hP, hD⟩ := hV
  have hA : ∀ q : Nat, s.heap.size ≤ q → lwA s q := fun q h => h
  have hn := Rl_n hR
  have hz := Rl_z hR
  have hk5 := Rl_k hR
  refine lv_aload_n hx hb dL_law_408 rfl (lv_at hl 1 rfl) ?_
  refine zs_arg B hS (lv_sub hl [0, 1, 2, 3, 4] rfl) 1 (by decide) hi dL_law_409 dL_law_410 dL_law_412 dL_law_413 dL_law_414 ?_
  refine zs_arg B hS (lv_sub hl [0, 1, 2, 3, 4] rfl) 2 (by decide) hi dL_law_415 dL_law_416 dL_law_418 dL_law_419 dL_law_420 ?_
  refine zs_long B hS (lv_sub hl [0, 1, 2, 3, 4] rfl) 3 (by decide) hi dL_law_421 dL_law_422 dL_law_424 dL_law_425 dL_law_426 dL_law_427 dL_law_428 dL_law_430 dL_law_431 dL_law_432 dL_law_434 dL_law_435 dL_law_436 dL_law_437 dL_law_438 dL_law_441 dL_law_442 rfl ?_
  refine zL_xi (va_runV (As := [.int (xs (i + 1)), .int (xs (i + 2)), .long (lgv xs (i + 3))]) (rest := []) ⟨hx, hb, hml, hown, hts⟩ (kX3_removeReal l E _ x0 fa tb st jn rs lm fh ft fv kd nz T V n b S J w1 w2 w3 w4 L hn hz hk5 (xs (i + 1)) (xs (i + 2)) (lgv xs (i + 3))) (cwV 3 hts (good_app gL_law_X3_removeReal) rfl rfl rfl (by decide +kernel) ⟨Nat.le_of_ble_eq_true rfl, Nat.le_of_ble_eq_true rfl⟩) (z_preWV (app_l hP) (D_l hD) hK 0 rfl rfl) rfl rfl hl.1 rfl (lv_room (Nat.le_of_ble_eq_true rfl)) dL_law_443 ⟨Nat.le_trans hc (Nat.le_of_ble_eq_true rfl), Nat.le_trans hs (Nat.le_of_ble_eq_true rfl)⟩) hP hD hS hA xf_fst (fun H locs hP hD hS => ?_)
  rw [← List.append_assoc] at hP hD
  refine lv_aload_n hx hb dL_law_446 rfl (lv_at hl 2 rfl) ?_
  refine zs_arg B hS (lv_sub hl [0, 1, 2, 3, 4] rfl) 1 (by decide) hi dL_law_447 dL_law_448 dL_law_450 dL_law_451 dL_law_452 ?_
  refine zs_arg B hS (lv_sub hl [0, 1, 2, 3, 4] rfl) 2 (by decide) hi dL_law_453 dL_law_454 dL_law_456 dL_law_457 dL_law_458 ?_
  refine zs_long B hS (lv_sub hl [0, 1, 2, 3, 4] rfl) 3 (by decide) hi dL_law_459 dL_law_460 dL_law_462 dL_law_463 dL_law_464 dL_law_465 dL_law_466 dL_law_468 dL_law_469 dL_law_470 dL_law_472 dL_law_473 dL_law_474 dL_law_475 dL_law_476 dL_law_479 dL_law_480 rfl ?_
  refine zL_mi (va_runV (As := [.int (xs (i + 1)), .int (xs (i + 2)), .long (lgv xs (i + 3))]) (rest := [.int (rmA n kd nz T V 1 (xs (i + 1)) (xs (i + 2)) (wz (lgv xs (i + 3))))]) ⟨hx, hb, hml, hown, hts⟩ (kX4_removeReal l E _ m0 k0 q0 t0 v0 c0 p0 s0 j0 r0 f0 g0 h0 cd n kd nz TT VV CC OO b S J RR z1 z2 z3 z4 SF SM FD hn hz hk5 (Rl_fv hR) (xs (i + 1)) (xs (i + 2)) (lgv xs (i + 3))) (cwV 3 hts (good_app gL_law_X4_removeReal) rfl rfl rfl (by decide +kernel) ⟨Nat.le_of_ble_eq_true rfl, Nat.le_of_ble_eq_true rfl⟩) (z_preWV (app_r hP) (D_r hD) hK 0 rfl rfl) rfl rfl hl.1 rfl (lv_room (Nat.le_of_ble_eq_true rfl)) dL_law_481 ⟨Nat.le_trans hc (Nat.le_of_ble_eq_true rfl), Nat.le_trans hs (Nat.le_of_ble_eq_true rfl)⟩) hP hD hS hA (fun _ => rfl) (fun H locs u2 hP hD hS => ?_)
  rw [List.append_assoc] at hP hD
  rw [← (rm_both hR 1 (xs (i + 1)) (xs (i + 2)) (wz (lgv xs (i + 3)))).2.1] at hP hD
  refine lv_icmp_eq (tgt := 1196) hx hb dL_law_484 (by decide) (fun _ => ?_) (fun q => absurd ((rm_both hR 1 (xs (i + 1)) (xs (i + 2)) (wz (lgv xs (i + 3)))).1) q)
  exact kk _ _ _ _ _ ⟨fa, tb, st, jn, rs, lm, fh, ft, fv, kd, rmN (rmOk n kd nz T V 1 (xs (i + 1)) (xs (i + 2)) (wz (lgv xs (i + 3)))) nz, rmT (rmOk n kd nz T V 1 (xs (i + 1)) (xs (i + 2)) (wz (lgv xs (i + 3)))) nz T V (xs (i + 2)) (wz (lgv xs (i + 3))), rmV (rmOk n kd nz T V 1 (xs (i + 1)) (xs (i + 2)) (wz (lgv xs (i + 3)))) nz T V (xs (i + 2)) (wz (lgv xs (i + 3))), n, b, S, J, w1, w2, w3, w4, L, F, k0, q0, t0, v0, c0, p0, s0, j0, r0, f0, g0, h0, nI 0, tkT nz TT (rvO n kd nz TT VV 1 (xs (i + 1)) (xs (i + 2)) (wz (lgv xs (i + 3)))), tkV nz VV (rvO n kd nz TT VV 1 (xs (i + 1)) (xs (i + 2)) (wz (lgv xs (i + 3)))), CC, OO, RR, z1, z2, z3, z4, SF, SM, FD, (rm_both hR 1 (xs (i + 1)) (xs (i + 2)) (wz (lgv xs (i + 3)))).2.2, hP, hD⟩ hS (Nat.le_add_right _ _) (Nat.le_add_right _ _) hl
set_option maxHeartbeats 4000000 in
set_option maxRecDepth 100000 in
theorem lc_merge (B : lwB p l s m c E sb Ln xs) (hV : lwV E x0 m0 o0 (lwA s) H) (hS : va_S (lwA s) s.heap H locs) (hc : cells ≤ 5000) (hs : slots ≤ 100000) (hi : i + 5 ≤ Ln) (hl : lv_has ls 8 (lvL sb x0 m0 o0 i)) (kk : lwN p l e s m below meth c Q E sb x0 m0 o0 i cells slots) : W p l e room_1 s m #[Value.ref sb] below meth c H locs cells slots Q (F0 m 489 ls []) := by
  have B2 := B
  obtain ⟨⟨hx, hb, hml, hown, hts⟩, hK, -, -, -, hst, hG1, hG2, hG3⟩ := B2
  obtain ⟨fa, tb, st, jn, rs, lm, fh, ft, fv, kd, nz, T, V, n, b, S, J, w1, w2, w3, w4, L, F, k0, q0, t0, v0, c0, p0, s0, j0, r0, f0, g0, h0, cd, TT, VV, CC, OO, RR, z1, z2, z3, z4, SF, SM, FD, hR, hP, hD⟩ := hV
  have hA : ∀ q : Nat, s.heap.size ≤ q → lwA s q := fun q h => h
  have hn := Rl_n hR
  have hz := Rl_z hR
  have hk5 := Rl_k hR
  refine lv_aload_n hx hb dL_law_489 rfl (lv_at hl 1 rfl) ?_
  refine zs_arg B hS (lv_sub hl [0, 1, 2, 3, 4] rfl) 1 (by decide) hi dL_law_490 dL_law_491 dL_law_493 dL_law_494 dL_law_495 ?_
  refine zs_arg B hS (lv_sub hl [0, 1, 2, 3, 4] rfl) 2 (by decide) hi dL_law_496 dL_law_497 dL_law_499 dL_law_500 dL_law_501 ?_
  refine zL_xi (va_runV (As := [.int (xs (i + 1)), .int (xs (i + 2))]) (rest := []) ⟨hx, hb, hml, hown, hts⟩ (kX3_merge l E _ x0 fa tb st jn rs lm fh ft fv kd nz T V n b S J w1 w2 w3 w4 L hn hz hk5 (xs (i + 1)) (xs (i + 2))) (cwV 2 hts (good_app gL_law_X3_merge) rfl rfl rfl (by decide +kernel) ⟨Nat.le_of_ble_eq_true rfl, Nat.le_of_ble_eq_true rfl⟩) (z_preWV (app_l hP) (D_l hD) hK 0 rfl rfl) rfl rfl hl.1 rfl (lv_room (Nat.le_of_ble_eq_true rfl)) dL_law_502 ⟨Nat.le_trans hc (Nat.le_of_ble_eq_true rfl), Nat.le_trans hs (Nat.le_of_ble_eq_true rfl)⟩) hP hD hS hA xf_fst (fun H locs hP hD hS => ?_)
  rw [← List.append_assoc] at hP hD
  refine lv_aload_n hx hb dL_law_505 rfl (lv_at hl 2 rfl) ?_
  refine zs_arg B hS (lv_sub hl [0, 1, 2, 3, 4] rfl) 1 (by decide) hi dL_law_506 dL_law_507 dL_law_509 dL_law_510 dL_law_511 ?_
  refine zs_arg B hS (lv_sub hl [0, 1, 2, 3, 4] rfl) 2 (by decide) hi dL_law_512 dL_law_513 dL_law_515 dL_law_516 dL_law_517 ?_
  refine zL_mi (va_runV (As := [.int (xs (i + 1)), .int (xs (i + 2))]) (rest := [.int (mgA n kd nz (xs (i + 1)) (xs (i + 2)))]) ⟨hx, hb, hml, hown, hts⟩ (kX4_merge l E _ m0 k0 q0 t0 v0 c0 p0 s0 j0 r0 f0 g0 h0 cd n kd nz TT VV CC OO b S J RR z1 z2 z3 z4 SF SM FD hn hz hk5 (xs (i + 1)) (xs (i + 2))) (cwV 2 hts (good_app gL_law_X4_merge) rfl rfl rfl (by decide +kernel) ⟨Nat.le_of_ble_eq_true rfl, Nat.le_of_ble_eq_true rfl⟩) (z_preWV (app_r hP) (D_r hD) hK 0 rfl rfl) rfl rfl hl.1 rfl (lv_room (Nat.le_of_ble_eq_true rfl)) dL_law_518 ⟨Nat.le_trans hc (Nat.le_of_ble_eq_true rfl), Nat.le_trans hs (Nat.le_of_ble_eq_true rfl)⟩) hP hD hS hA (fun _ => rfl) (fun H locs u2 hP hD hS => ?_)
  rw [List.append_assoc] at hP hD
  refine lv_icmp_eq (tgt := 1196) hx hb dL_law_521 (by decide) (fun _ => ?_) (fun q => absurd (rfl) q)
  exact kk _ _ _ _ _ ⟨fa, tb, st, jn, rs, lm, fh, ft, fv, kd, mgN (mgOk n kd nz (xs (i + 1)) (xs (i + 2))) nz, mgT (mgOk n kd nz (xs (i + 1)) (xs (i + 2))) nz T V, mgV (mgOk n kd nz (xs (i + 1)) (xs (i + 2))) nz T V, n, b, S, J, w1, w2, w3, w4, L, F, k0, q0, t0, v0, c0, p0, s0, j0, r0, f0, g0, h0, nI 0, mgTo (mgOk n kd nz (xs (i + 1)) (xs (i + 2))) TT nz, mgVo (mgOk n kd nz (xs (i + 1)) (xs (i + 2))) VV nz, CC, OO, RR, z1, z2, z3, z4, SF, SM, FD, Rl_merge hR (xs (i + 1)) (xs (i + 2)), hP, hD⟩ hS (Nat.le_add_right _ _) (Nat.le_add_right _ _) hl
set_option maxHeartbeats 4000000 in
set_option maxRecDepth 100000 in
theorem lc_same (B : lwB p l s m c E sb Ln xs) (hV : lwV E x0 m0 o0 (lwA s) H) (hS : va_S (lwA s) s.heap H locs) (hc : cells ≤ 5000) (hs : slots ≤ 100000) (hi : i + 5 ≤ Ln) (hl : lv_has ls 8 (lvL sb x0 m0 o0 i)) (kk : lwN p l e s m below meth c Q E sb x0 m0 o0 i cells slots) : W p l e room_1 s m #[Value.ref sb] below meth c H locs cells slots Q (F0 m 526 ls []) := by
  have B2 := B
  obtain ⟨⟨hx, hb, hml, hown, hts⟩, hK, -, -, -, hst, hG1, hG2, hG3⟩ := B2
  obtain ⟨fa, tb, st, jn, rs, lm, fh, ft, fv, kd, nz, T, V, n, b, S, J, w1, w2, w3, w4, L, F, k0, q0, t0, v0, c0, p0, s0, j0, r0, f0, g0, h0, cd, TT, VV, CC, OO, RR, z1, z2, z3, z4, SF, SM, FD, hR, hP, hD⟩ := hV
  have hA : ∀ q : Nat, s.heap.size ≤ q → lwA s q := fun q h => h
  have hn := Rl_n hR
  have hz := Rl_z hR
  have hk5 := Rl_k hR
  refine lv_aload_n hx hb dL_law_526 rfl (lv_at hl 1 rfl) ?_
  refine zs_arg B hS (lv_sub hl [0, 1, 2, 3, 4] rfl) 1 (by decide) hi dL_law_527 dL_law_528 dL_law_530 dL_law_531 dL_law_532 ?_
  refine zs_arg B hS (lv_sub hl [0, 1, 2, 3, 4] rfl) 2 (by decide) hi dL_law_533 dL_law_534 dL_law_536 dL_law_537 dL_law_538 ?_
  refine zc_i (W.runV (As := [.int (xs (i + 1)), .int (xs (i + 2))]) (rest := []) ⟨hx, hb, hml, hown, hts⟩ (kX3_same l E x0 fa tb st jn rs lm fh ft fv kd nz T V n b S J w1 w2 w3 w4 L hn hz hk5 (xs (i + 1)) (xs (i + 2))) (cwV 2 hts (good_app gL_law_X3_same) rfl rfl rfl (by decide +kernel) ⟨Nat.le_of_ble_eq_true rfl, Nat.le_of_ble_eq_true rfl⟩) (z_preV (app_l hP) hK 0 rfl rfl) rfl rfl hl.1 rfl (lv_room (Nat.le_of_ble_eq_true rfl)) dL_law_539 ⟨Nat.le_trans hc (Nat.le_of_ble_eq_true rfl), Nat.le_trans hs (Nat.le_of_ble_eq_true rfl)⟩) ?_
  rw [← List.append_assoc] at hP hD
  refine lv_aload_n hx hb dL_law_542 rfl (lv_at hl 2 rfl) ?_
  refine zs_arg B hS (lv_sub hl [0, 1, 2, 3, 4] rfl) 1 (by decide) hi dL_law_543 dL_law_544 dL_law_546 dL_law_547 dL_law_548 ?_
  refine zs_arg B hS (lv_sub hl [0, 1, 2, 3, 4] rfl) 2 (by decide) hi dL_law_549 dL_law_550 dL_law_552 dL_law_553 dL_law_554 ?_
  refine zL_mi (va_runV (As := [.int (xs (i + 1)), .int (xs (i + 2))]) (rest := [.int (bI (aSame n kd nz T V (xs (i + 1)) (xs (i + 2))))]) ⟨hx, hb, hml, hown, hts⟩ (kX4_same l E _ m0 k0 q0 t0 v0 c0 p0 s0 j0 r0 f0 g0 h0 cd n kd nz TT VV CC OO b S J RR z1 z2 z3 z4 SF SM FD hn hz hk5 (xs (i + 1)) (xs (i + 2))) (cwV 2 hts (good_app gL_law_X4_same) rfl rfl rfl (by decide +kernel) ⟨Nat.le_of_ble_eq_true rfl, Nat.le_of_ble_eq_true rfl⟩) (z_preWV (app_r hP) (D_r hD) hK 0 rfl rfl) rfl rfl hl.1 rfl (lv_room (Nat.le_of_ble_eq_true rfl)) dL_law_555 ⟨Nat.le_trans hc (Nat.le_of_ble_eq_true rfl), Nat.le_trans hs (Nat.le_of_ble_eq_true rfl)⟩) hP hD hS hA (fun _ => rfl) (fun H locs u2 hP hD hS => ?_)
  rw [List.append_assoc] at hP hD
  refine lv_icmp_eq (tgt := 1196) hx hb dL_law_558 (by decide) (fun _ => ?_) (fun q => absurd (congrArg bI (e_same hR (xs (i + 1)) (xs (i + 2)))) q)
  exact kk _ _ _ _ _ ⟨fa, tb, st, jn, rs, lm, fh, ft, fv, kd, nz, T, V, n, b, S, J, w1, w2, w3, w4, L, F, k0, q0, t0, v0, c0, p0, s0, j0, r0, f0, g0, h0, nI 0, TT, VV, CC, OO, RR, z1, z2, z3, z4, SF, SM, FD, hR, hP, hD⟩ hS (Nat.le_add_right _ _) (Nat.le_add_right _ _) hl
set_option maxHeartbeats 4000000 in
set_option maxRecDepth 100000 in
theorem lc_rows (B : lwB p l s m c E sb Ln xs) (hV : lwV E x0 m0 o0 (lwA s) H) (hS : va_S (lwA s) s.heap H locs) (hc : cells ≤ 5000) (hs : slots ≤ 100000) (hi : i + 5 ≤ Ln) (hl : lv_has ls 8 (lvL sb x0 m0 o0 i)) (kk : lwN p l e s m below meth c Q E sb x0 m0 o0 i cells slots) : W p l e room_1 s m #[Value.ref sb] below meth c H locs cells slots Q (F0 m 563 ls []) := by
  have B2 := B
  obtain ⟨⟨hx, hb, hml, hown, hts⟩, hK, -, -, -, hst, hG1, hG2, hG3⟩ := B2
  obtain ⟨fa, tb, st, jn, rs, lm, fh, ft, fv, kd, nz, T, V, n, b, S, J, w1, w2, w3, w4, L, F, k0, q0, t0, v0, c0, p0, s0, j0, r0, f0, g0, h0, cd, TT, VV, CC, OO, RR, z1, z2, z3, z4, SF, SM, FD, hR, hP, hD⟩ := hV
  have hA : ∀ q : Nat, s.heap.size ≤ q → lwA s q := fun q h => h
  have hn := Rl_n hR
  have hz := Rl_z hR
  have hk5 := Rl_k hR
  refine lv_aload_n hx hb dL_law_563 rfl (lv_at hl 1 rfl) ?_
  refine zs_arg B hS (lv_sub hl [0, 1, 2, 3, 4] rfl) 1 (by decide) hi dL_law_564 dL_law_565 dL_law_567 dL_law_568 dL_law_569 ?_
  refine zc_i (W.runV (As := [.int (xs (i + 1))]) (rest := []) ⟨hx, hb, hml, hown, hts⟩ (kX3_rows l E x0 fa tb st jn rs lm fh ft fv kd nz T V n b S J w1 w2 w3 w4 L hn (xs (i + 1))) (cwV 1 hts (good_app gL_law_X3_rows) rfl rfl rfl (by decide +kernel) ⟨Nat.le_of_ble_eq_true rfl, Nat.le_of_ble_eq_true rfl⟩) (z_preV (app_l hP) hK 0 rfl rfl) rfl rfl hl.1 rfl (lv_room (Nat.le_of_ble_eq_true rfl)) dL_law_570 ⟨Nat.le_trans hc (Nat.le_of_ble_eq_true rfl), Nat.le_trans hs (Nat.le_of_ble_eq_true rfl)⟩) ?_
  rw [← List.append_assoc] at hP hD
  refine lv_aload_n hx hb dL_law_573 rfl (lv_at hl 2 rfl) ?_
  refine zs_arg B hS (lv_sub hl [0, 1, 2, 3, 4] rfl) 1 (by decide) hi dL_law_574 dL_law_575 dL_law_577 dL_law_578 dL_law_579 ?_
  refine zL_mi (va_runV (As := [.int (xs (i + 1))]) (rest := [.int (aRows n nz (xs (i + 1)))]) ⟨hx, hb, hml, hown, hts⟩ (kX4_rows l E _ m0 k0 q0 t0 v0 c0 p0 s0 j0 r0 f0 g0 h0 cd n kd nz TT VV CC OO b S J RR z1 z2 z3 z4 SF SM FD hn hz (xs (i + 1))) (cwV 1 hts (good_app gL_law_X4_rows) rfl rfl rfl (by decide +kernel) ⟨Nat.le_of_ble_eq_true rfl, Nat.le_of_ble_eq_true rfl⟩) (z_preWV (app_r hP) (D_r hD) hK 0 rfl rfl) rfl rfl hl.1 rfl (lv_room (Nat.le_of_ble_eq_true rfl)) dL_law_580 ⟨Nat.le_trans hc (Nat.le_of_ble_eq_true rfl), Nat.le_trans hs (Nat.le_of_ble_eq_true rfl)⟩) hP hD hS hA (fun _ => rfl) (fun H locs u2 hP hD hS => ?_)
  rw [List.append_assoc] at hP hD
  refine lv_icmp_eq (tgt := 1196) hx hb dL_law_583 (by decide) (fun _ => ?_) (fun q => absurd (rfl) q)
  exact kk _ _ _ _ _ ⟨fa, tb, st, jn, rs, lm, fh, ft, fv, kd, nz, T, V, n, b, S, J, w1, w2, w3, w4, L, F, k0, q0, t0, v0, c0, p0, s0, j0, r0, f0, g0, h0, nI 0, TT, VV, CC, OO, RR, z1, z2, z3, z4, SF, SM, FD, hR, hP, hD⟩ hS (Nat.le_add_right _ _) (Nat.le_add_right _ _) hl
set_option maxHeartbeats 4000000 in
set_option maxRecDepth 100000 in
theorem lc_limb (B : lwB p l s m c E sb Ln xs) (hV : lwV E x0 m0 o0 (lwA s) H) (hS : va_S (lwA s) s.heap H locs) (hc : cells ≤ 5000) (hs : slots ≤ 100000) (hi : i + 5 ≤ Ln) (hl : lv_has ls 8 (lvL sb x0 m0 o0 i)) (kk : lwN p l e s m below meth c Q E sb x0 m0 o0 i cells slots) : W p l e room_1 s m #[Value.ref sb] below meth c H locs cells slots Q (F0 m 588 ls []) := by
  have B2 := B
  obtain ⟨⟨hx, hb, hml, hown, hts⟩, hK, -, -, -, hst, hG1, hG2, hG3⟩ := B2
  obtain ⟨fa, tb, st, jn, rs, lm, fh, ft, fv, kd, nz, T, V, n, b, S, J, w1, w2, w3, w4, L, F, k0, q0, t0, v0, c0, p0, s0, j0, r0, f0, g0, h0, cd, TT, VV, CC, OO, RR, z1, z2, z3, z4, SF, SM, FD, hR, hP, hD⟩ := hV
  have hA : ∀ q : Nat, s.heap.size ≤ q → lwA s q := fun q h => h
  have hn := Rl_n hR
  have hz := Rl_z hR
  have hk5 := Rl_k hR
  refine lv_aload_n hx hb dL_law_588 rfl (lv_at hl 1 rfl) ?_
  refine zs_arg B hS (lv_sub hl [0, 1, 2, 3, 4] rfl) 1 (by decide) hi dL_law_589 dL_law_590 dL_law_592 dL_law_593 dL_law_594 ?_
  refine zs_arg B hS (lv_sub hl [0, 1, 2, 3, 4] rfl) 2 (by decide) hi dL_law_595 dL_law_596 dL_law_598 dL_law_599 dL_law_600 ?_
  refine lv_aload_n hx hb dL_law_601 rfl (lv_at hl 3 rfl) ?_
  rw [← List.append_assoc] at hP hD
  have hFc : ∀ q, va_A ((xB E x0 fa tb st jn rs lm fh n b S J w1 w2 w3 w4 L ++ fP E fh ft fv kd nz T V n) ++ oW E o0 F) H.size q → lwA s q := x_free hD hS hA (fun k q h => ⟨k, (x_l h).1⟩)
  refine zL_xi (vx_runSW (As := [.ref x0, .int (xs (i + 1)), .int (xs (i + 2)), .ref o0]) (rest := []) ⟨hx, hb, hml, hown, hts⟩ (kL_limb l hst E _ x0 fa tb st jn rs lm fh ft fv kd nz T V n b S J w1 w2 w3 w4 L hn hz hk5 (xs (i + 1)) (xs (i + 2)) o0 F) (vx_cwSW 4 hts gL_law_L_limbT rfl rfl rfl (by decide +kernel) ⟨Nat.le_of_ble_eq_true rfl, Nat.le_of_ble_eq_true rfl⟩) (z_preN gTh_call (fun U hU hW => gTh_warm hU hW hS.2.1 hFc hG1) (app_l hP) (D_l hD) hK) rfl rfl hl.1 rfl (lv_room (Nat.le_of_ble_eq_true rfl)) dL_law_602 ⟨Nat.le_trans (Nat.add_le_add_right hc _) (Nat.le_of_ble_eq_true rfl), Nat.le_trans (Nat.add_le_add_right hs _) (Nat.le_of_ble_eq_true rfl)⟩) hP hD hS hA oW_fst (fun H locs hP hD hS => ?_)
  have hc := Nat.add_le_add_right hc 1
  have hs := Nat.add_le_add_right hs 6
  refine lv_istore (lv' := [(5, .int (lmC n kd (xs (i + 1)) (xs (i + 2)))), (0, .ref sb), (1, .ref x0), (2, .ref m0), (3, .ref o0), (4, .int (nI i))]) hx hb dL_law_605 hl (by decide) rfl (fun ls hl => ?_)
  refine lv_aload_n hx hb dL_law_607 rfl (lv_at hl 3 rfl) ?_
  refine zs_arg B hS (lv_sub hl [1, 2, 3, 4, 5] rfl) 1 (by decide) hi dL_law_608 dL_law_609 dL_law_611 dL_law_612 dL_law_613 ?_
  refine zs_arg B hS (lv_sub hl [1, 2, 3, 4, 5] rfl) 2 (by decide) hi dL_law_614 dL_law_615 dL_law_617 dL_law_618 dL_law_619 ?_
  refine zL_mi (va_runV (As := [.int (xs (i + 1)), .int (xs (i + 2))]) (rest := []) ⟨hx, hb, hml, hown, hts⟩ (kX4_limb l E _ m0 k0 q0 t0 v0 c0 p0 s0 j0 r0 f0 g0 h0 cd n kd nz TT VV CC OO b S J RR z1 z2 z3 z4 SF SM FD hn hz hk5 (xs (i + 1)) (xs (i + 2))) (cwV 2 hts (good_app gL_law_X4_limb) rfl rfl rfl (by decide +kernel) ⟨Nat.le_of_ble_eq_true rfl, Nat.le_of_ble_eq_true rfl⟩) (z_preWV (app_r hP) (D_r hD) hK 0 rfl rfl) rfl rfl hl.1 rfl (lv_room (Nat.le_of_ble_eq_true rfl)) dL_law_620 ⟨Nat.le_trans hc (Nat.le_of_ble_eq_true rfl), Nat.le_trans hs (Nat.le_of_ble_eq_true rfl)⟩) hP hD hS hA (fun _ => rfl) (fun H locs _ hP hD hS => ?_)
  refine lv_istore (lv' := [(6, .int (lmA n kd nz (vw VV) (xs (i + 1)) (xs (i + 2)))), (5, .int (lmC n kd (xs (i + 1)) (xs (i + 2)))), (0, .ref sb), (1, .ref x0), (2, .ref m0), (3, .ref o0), (4, .int (nI i))]) hx hb dL_law_623 hl (by decide) rfl (fun ls hl => ?_)
  refine lv_aload_n hx hb dL_law_625 rfl (lv_at hl 4 rfl) ?_
  refine zc_i (W.runV (As := []) (rest := []) ⟨hx, hb, hml, hown, hts⟩ (kX4_thrown l E m0 k0 q0 t0 v0 c0 p0 s0 j0 r0 f0 g0 h0 (lmC n kd (xs (i + 1)) (xs (i + 2))) n kd nz TT VV CC OO b S J RR z1 z2 z3 z4 SF SM FD hn) (cwV 0 hts (good_app gL_law_X4_thrown) rfl rfl rfl (by decide +kernel) ⟨Nat.le_of_ble_eq_true rfl, Nat.le_of_ble_eq_true rfl⟩) (z_preV (app_r hP) hK 0 rfl rfl) rfl rfl hl.1 rfl (lv_room (Nat.le_of_ble_eq_true rfl)) dL_law_626 ⟨Nat.le_trans hc (Nat.le_of_ble_eq_true rfl), Nat.le_trans hs (Nat.le_of_ble_eq_true rfl)⟩) ?_
  refine lv_iload hx hb dL_law_629 (lv_at hl 1 rfl) ?_
  refine lv_icmp_eq (tgt := 636) hx hb dL_law_631 (by decide) (fun _ => ?_) (fun q => absurd rfl q)
  refine lv_iload hx hb dL_law_636 (lv_at hl 1 rfl) ?_
  have fin : ∀ hl9 : lv_has ls 8 (lvL sb x0 m0 o0 i), W p l e room_1 s m #[Value.ref sb] below meth c H locs (cells + 1) (slots + 6) Q (F0 m 653 ls []) := by
    intro hl9
    refine lv_goto (tgt := 1196) hx hb dL_law_653 (by decide) ?_
    rw [List.append_assoc] at hP hD
    exact kk _ _ _ _ _ ⟨fa, tb, st, jn, rs, lm, fh, ft, fv, kd, nz, T, V, n, b, S, J, w1, w2, w3, w4, L, oF F (lmC n kd (xs (i + 1)) (xs (i + 2))) ((lmA n kd nz V (xs (i + 1)) (xs (i + 2))).toInt64), k0, q0, t0, v0, c0, p0, s0, j0, r0, f0, g0, h0, lmC n kd (xs (i + 1)) (xs (i + 2)), TT, VV, CC, OO, RR, z1, z2, z3, z4, SF, SM, FD, hR, hP, hD⟩ hS (by omega) (by omega) hl9
  have hl9 : lv_has ls 8 (lvL sb x0 m0 o0 i) := lv_sub hl [2, 3, 4, 5, 6] rfl
  refine lv_if_ne (tgt := 653) hx hb dL_law_638 (by decide) (fun _ => fin hl9) (fun c0 => ?_)
  refine lv_aload_n hx hb dL_law_641 rfl (lv_at hl9 3 rfl) ?_
  refine lv_iconst (v := nI 0) hx hb dL_law_642 (by decide) ?_
  have hP3 : va_P E.1 vwCl (oW E o0 (oF F (lmC n kd (xs (i + 1)) (xs (i + 2))) ((lmA n kd nz V (xs (i + 1)) (xs (i + 2))).toInt64))) H := app_r (app_l hP)
  refine zn_lald (a := o0) (n := 1) (j := 0) hx hb hK.1 hP3 0 1 rfl rfl (by decide) (by decide) dL_law_643 ?_
  refine lv_iload hx hb dL_law_644 (lv_at hl 0 rfl) ?_
  refine lv_i2l hx hb dL_law_646 rfl ?_
  have hv : oF F (lmC n kd (xs (i + 1)) (xs (i + 2))) ((lmA n kd nz V (xs (i + 1)) (xs (i + 2))).toInt64) 0 = (lmA n kd nz (vw VV) (xs (i + 1)) (xs (i + 2))).toInt64 := by unfold oF; rw [if_neg (fun z => absurd (z.symm.trans c0) (by decide))]; unfold vp_updL; rw [if_pos rfl]; exact congrArg Int32.toInt64 (e_limb hR (xs (i + 1)) (xs (i + 2)))
  exact zl_eq (tgt := 653) hx hb dL_law_647 dL_law_648 (by decide) (fun _ => fin hl9) (fun q => absurd hv q)
set_option maxHeartbeats 4000000 in
set_option maxRecDepth 100000 in
theorem lc_real (B : lwB p l s m c E sb Ln xs) (hV : lwV E x0 m0 o0 (lwA s) H) (hS : va_S (lwA s) s.heap H locs) (hc : cells ≤ 5000) (hs : slots ≤ 100000) (hi : i + 5 ≤ Ln) (hl : lv_has ls 8 (lvL sb x0 m0 o0 i)) (kk : lwN p l e s m below meth c Q E sb x0 m0 o0 i cells slots) : W p l e room_1 s m #[Value.ref sb] below meth c H locs cells slots Q (F0 m 656 ls []) := by
  have B2 := B
  obtain ⟨⟨hx, hb, hml, hown, hts⟩, hK, -, -, -, hst, hG1, hG2, hG3⟩ := B2
  obtain ⟨fa, tb, st, jn, rs, lm, fh, ft, fv, kd, nz, T, V, n, b, S, J, w1, w2, w3, w4, L, F, k0, q0, t0, v0, c0, p0, s0, j0, r0, f0, g0, h0, cd, TT, VV, CC, OO, RR, z1, z2, z3, z4, SF, SM, FD, hR, hP, hD⟩ := hV
  have hA : ∀ q : Nat, s.heap.size ≤ q → lwA s q := fun q h => h
  have hn := Rl_n hR
  have hz := Rl_z hR
  have hk5 := Rl_k hR
  refine lv_aload_n hx hb dL_law_656 rfl (lv_at hl 1 rfl) ?_
  refine zs_arg B hS (lv_sub hl [0, 1, 2, 3, 4] rfl) 1 (by decide) hi dL_law_657 dL_law_658 dL_law_660 dL_law_661 dL_law_662 ?_
  refine zL_xl (va_runV (As := [.int (xs (i + 1))]) (rest := []) ⟨hx, hb, hml, hown, hts⟩ (kX3_real l E _ x0 fa tb st jn rs lm fh ft fv kd nz T V n b S J w1 w2 w3 w4 L hn hz hk5 (xs (i + 1))) (cwV 1 hts (good_app gL_law_X3_real) rfl rfl rfl (by decide +kernel) ⟨Nat.le_of_ble_eq_true rfl, Nat.le_of_ble_eq_true rfl⟩) (z_preWV (app_l hP) (D_l hD) hK 0 rfl rfl) rfl rfl hl.1 rfl (lv_room (Nat.le_of_ble_eq_true rfl)) dL_law_663 ⟨Nat.le_trans hc (Nat.le_of_ble_eq_true rfl), Nat.le_trans hs (Nat.le_of_ble_eq_true rfl)⟩) hP hD hS hA xf_fst (fun H locs hP hD hS => ?_)
  rw [← List.append_assoc] at hP hD
  refine lv_aload_n hx hb dL_law_666 rfl (lv_at hl 2 rfl) ?_
  refine zs_arg B hS (lv_sub hl [0, 1, 2, 3, 4] rfl) 1 (by decide) hi dL_law_667 dL_law_668 dL_law_670 dL_law_671 dL_law_672 ?_
  refine zL_ml (va_runV (As := [.int (xs (i + 1))]) (rest := [.long (rlA n kd nz V L (xs (i + 1)))]) ⟨hx, hb, hml, hown, hts⟩ (kX4_real l E _ m0 k0 q0 t0 v0 c0 p0 s0 j0 r0 f0 g0 h0 cd n kd nz TT VV CC OO b S J RR z1 z2 z3 z4 SF SM FD hn hz hk5 (xs (i + 1))) (cwV 1 hts (good_app gL_law_X4_real) rfl rfl rfl (by decide +kernel) ⟨Nat.le_of_ble_eq_true rfl, Nat.le_of_ble_eq_true rfl⟩) (z_preWV (app_r hP) (D_r hD) hK 0 rfl rfl) rfl rfl hl.1 rfl (lv_room (Nat.le_of_ble_eq_true rfl)) dL_law_673 ⟨Nat.le_trans hc (Nat.le_of_ble_eq_true rfl), Nat.le_trans hs (Nat.le_of_ble_eq_true rfl)⟩) hP hD hS hA (fun _ => rfl) (fun H locs u2 hP hD hS => ?_)
  rw [List.append_assoc] at hP hD
  refine zl_eq (tgt := 1196) hx hb dL_law_676 dL_law_677 (by decide) (fun _ => ?_) (fun q => absurd (e_real hR L CC (xs (i + 1))) q)
  exact kk _ _ _ _ _ ⟨fa, tb, st, jn, rs, lm, fh, ft, fv, kd, nz, T, V, n, b, S, J, w1, w2, w3, w4, rlL n kd nz V L (xs (i + 1)), F, k0, q0, t0, v0, c0, p0, s0, j0, r0, f0, g0, h0, nI 0, TT, VV, mrC n kd nz (vw VV) CC (xs (i + 1)), OO, RR, z1, z2, z3, z4, SF, SM, FD, hR, hP, hD⟩ hS (Nat.le_add_right _ _) (Nat.le_add_right _ _) hl
set_option maxHeartbeats 4000000 in
set_option maxRecDepth 100000 in
theorem lc_mean (B : lwB p l s m c E sb Ln xs) (hV : lwV E x0 m0 o0 (lwA s) H) (hS : va_S (lwA s) s.heap H locs) (hc : cells ≤ 5000) (hs : slots ≤ 100000) (hi : i + 5 ≤ Ln) (hl : lv_has ls 8 (lvL sb x0 m0 o0 i)) (kk : lwN p l e s m below meth c Q E sb x0 m0 o0 i cells slots) : W p l e room_1 s m #[Value.ref sb] below meth c H locs cells slots Q (F0 m 682 ls []) := by
  have B2 := B
  obtain ⟨⟨hx, hb, hml, hown, hts⟩, hK, -, -, -, hst, hG1, hG2, hG3⟩ := B2
  obtain ⟨fa, tb, st, jn, rs, lm, fh, ft, fv, kd, nz, T, V, n, b, S, J, w1, w2, w3, w4, L, F, k0, q0, t0, v0, c0, p0, s0, j0, r0, f0, g0, h0, cd, TT, VV, CC, OO, RR, z1, z2, z3, z4, SF, SM, FD, hR, hP, hD⟩ := hV
  have hA : ∀ q : Nat, s.heap.size ≤ q → lwA s q := fun q h => h
  have hn := Rl_n hR
  have hz := Rl_z hR
  have hk5 := Rl_k hR
  refine lv_aload_n hx hb dL_law_682 rfl (lv_at hl 1 rfl) ?_
  refine zs_arg B hS (lv_sub hl [0, 1, 2, 3, 4] rfl) 1 (by decide) hi dL_law_683 dL_law_684 dL_law_686 dL_law_687 dL_law_688 ?_
  refine zs_arg B hS (lv_sub hl [0, 1, 2, 3, 4] rfl) 2 (by decide) hi dL_law_689 dL_law_690 dL_law_692 dL_law_693 dL_law_694 ?_
  refine lv_aload_n hx hb dL_law_695 rfl (lv_at hl 3 rfl) ?_
  rw [← List.append_assoc] at hP hD
  have hFc : ∀ q, va_A ((xB E x0 fa tb st jn rs lm fh n b S J w1 w2 w3 w4 L ++ fP E fh ft fv kd nz T V n) ++ oW E o0 F) H.size q → lwA s q := x_free hD hS hA (fun k q h => ⟨k, (x_l h).1⟩)
  refine zL_xi (vx_runSW (As := [.ref x0, .int (xs (i + 1)), .int (xs (i + 2)), .ref o0]) (rest := []) ⟨hx, hb, hml, hown, hts⟩ (kL_mean l hst E _ x0 fa tb st jn rs lm fh ft fv kd nz T V n b S J w1 w2 w3 w4 L hn hz hk5 (Rl_sp hR) (xs (i + 1)) (xs (i + 2)) o0 F) (vx_cwSW 4 hts (good_app gL_law_L_mean) rfl rfl rfl (by decide +kernel) ⟨Nat.le_of_ble_eq_true rfl, Nat.le_of_ble_eq_true rfl⟩) (z_preN gTh_call (fun U hU hW => gTh_warm hU hW hS.2.1 hFc hG2) (app_l hP) (D_l hD) hK) rfl rfl hl.1 rfl (lv_room (Nat.le_of_ble_eq_true rfl)) dL_law_696 ⟨Nat.le_trans (Nat.add_le_add_right hc _) (Nat.le_of_ble_eq_true rfl), Nat.le_trans (Nat.add_le_add_right hs _) (Nat.le_of_ble_eq_true rfl)⟩) hP hD hS hA oW_fst (fun H locs hP hD hS => ?_)
  have hc := Nat.add_le_add_right hc 1
  have hs := Nat.add_le_add_right hs 6
  refine lv_istore (lv' := [(5, .int (mnC n kd nz (xs (i + 1)) (xs (i + 2)))), (0, .ref sb), (1, .ref x0), (2, .ref m0), (3, .ref o0), (4, .int (nI i))]) hx hb dL_law_699 hl (by decide) rfl (fun ls hl => ?_)
  refine lv_aload_n hx hb dL_law_701 rfl (lv_at hl 3 rfl) ?_
  refine zs_arg B hS (lv_sub hl [1, 2, 3, 4, 5] rfl) 1 (by decide) hi dL_law_702 dL_law_703 dL_law_705 dL_law_706 dL_law_707 ?_
  refine zs_arg B hS (lv_sub hl [1, 2, 3, 4, 5] rfl) 2 (by decide) hi dL_law_708 dL_law_709 dL_law_711 dL_law_712 dL_law_713 ?_
  refine zL_ml (va_runV (As := [.int (xs (i + 1)), .int (xs (i + 2))]) (rest := []) ⟨hx, hb, hml, hown, hts⟩ (kX4_mean l E _ m0 k0 q0 t0 v0 c0 p0 s0 j0 r0 f0 g0 h0 cd n kd nz TT VV CC OO b S J RR z1 z2 z3 z4 SF SM FD hn hz hk5 (Rl_spv hR) (xs (i + 1)) (xs (i + 2))) (cwV 2 hts (good_app gL_law_X4_mean) rfl rfl rfl (by decide +kernel) ⟨Nat.le_of_ble_eq_true rfl, Nat.le_of_ble_eq_true rfl⟩) (z_preWV (app_r hP) (D_r hD) hK 0 rfl rfl) rfl rfl hl.1 rfl (lv_room (Nat.le_of_ble_eq_true rfl)) dL_law_714 ⟨Nat.le_trans hc (Nat.le_of_ble_eq_true rfl), Nat.le_trans hs (Nat.le_of_ble_eq_true rfl)⟩) hP hD hS hA (fun _ => rfl) (fun H locs _ hP hD hS => ?_)
  refine lv_lstore (lv' := [(6, .long (mnA n kd nz (vw VV) (xs (i + 1)) (xs (i + 2)))), (5, .int (mnC n kd nz (xs (i + 1)) (xs (i + 2)))), (0, .ref sb), (1, .ref x0), (2, .ref m0), (3, .ref o0), (4, .int (nI i))]) hx hb dL_law_717 hl (by decide) rfl (fun ls hl => ?_)
  refine lv_aload_n hx hb dL_law_719 rfl (lv_at hl 4 rfl) ?_
  refine zc_i (W.runV (As := []) (rest := []) ⟨hx, hb, hml, hown, hts⟩ (kX4_thrown l E m0 k0 q0 t0 v0 c0 p0 s0 j0 r0 f0 g0 h0 (mnC n kd nz (xs (i + 1)) (xs (i + 2))) n kd nz TT VV CC OO b S J RR z1 z2 z3 z4 SF SM FD hn) (cwV 0 hts (good_app gL_law_X4_thrown) rfl rfl rfl (by decide +kernel) ⟨Nat.le_of_ble_eq_true rfl, Nat.le_of_ble_eq_true rfl⟩) (z_preV (app_r hP) hK 0 rfl rfl) rfl rfl hl.1 rfl (lv_room (Nat.le_of_ble_eq_true rfl)) dL_law_720 ⟨Nat.le_trans hc (Nat.le_of_ble_eq_true rfl), Nat.le_trans hs (Nat.le_of_ble_eq_true rfl)⟩) ?_
  refine lv_iload hx hb dL_law_723 (lv_at hl 1 rfl) ?_
  refine lv_icmp_eq (tgt := 730) hx hb dL_law_725 (by decide) (fun _ => ?_) (fun q => absurd rfl q)
  refine lv_iload hx hb dL_law_730 (lv_at hl 1 rfl) ?_
  have fin : ∀ hl9 : lv_has ls 8 (lvL sb x0 m0 o0 i), W p l e room_1 s m #[Value.ref sb] below meth c H locs (cells + 1) (slots + 6) Q (F0 m 746 ls []) := by
    intro hl9
    refine lv_goto (tgt := 1196) hx hb dL_law_746 (by decide) ?_
    rw [List.append_assoc] at hP hD
    exact kk _ _ _ _ _ ⟨fa, tb, st, jn, rs, lm, fh, ft, fv, kd, nz, T, V, n, b, S, J, w1, w2, w3, w4, L, oF F (mnC n kd nz (xs (i + 1)) (xs (i + 2))) (mnA n kd nz V (xs (i + 1)) (xs (i + 2))), k0, q0, t0, v0, c0, p0, s0, j0, r0, f0, g0, h0, mnC n kd nz (xs (i + 1)) (xs (i + 2)), TT, VV, CC, OO, RR, z1, z2, z3, z4, SF, SM, FD, hR, hP, hD⟩ hS (by omega) (by omega) hl9
  have hl9 : lv_has ls 8 (lvL sb x0 m0 o0 i) := lv_sub hl [2, 3, 4, 5, 6] rfl
  refine lv_if_ne (tgt := 746) hx hb dL_law_732 (by decide) (fun _ => fin hl9) (fun c0 => ?_)
  refine lv_aload_n hx hb dL_law_735 rfl (lv_at hl9 3 rfl) ?_
  refine lv_iconst (v := nI 0) hx hb dL_law_736 (by decide) ?_
  have hP3 : va_P E.1 vwCl (oW E o0 (oF F (mnC n kd nz (xs (i + 1)) (xs (i + 2))) (mnA n kd nz V (xs (i + 1)) (xs (i + 2))))) H := app_r (app_l hP)
  refine zn_lald (a := o0) (n := 1) (j := 0) hx hb hK.1 hP3 0 1 rfl rfl (by decide) (by decide) dL_law_737 ?_
  refine lv_lload hx hb dL_law_738 (lv_at hl 0 rfl) ?_
  have hv : oF F (mnC n kd nz (xs (i + 1)) (xs (i + 2))) (mnA n kd nz V (xs (i + 1)) (xs (i + 2))) 0 = mnA n kd nz (vw VV) (xs (i + 1)) (xs (i + 2)) := by unfold oF; rw [if_neg (fun z => absurd (z.symm.trans c0) (by decide))]; unfold vp_updL; rw [if_pos rfl]; exact e_mean hR (xs (i + 1)) (xs (i + 2))
  exact zl_eq (tgt := 746) hx hb dL_law_740 dL_law_741 (by decide) (fun _ => fin hl9) (fun q => absurd hv q)
set_option maxHeartbeats 4000000 in
set_option maxRecDepth 100000 in
theorem lc_spread (B : lwB p l s m c E sb Ln xs) (hV : lwV E x0 m0 o0 (lwA s) H) (hS : va_S (lwA s) s.heap H locs) (hc : cells ≤ 5000) (hs : slots ≤ 100000) (hi : i + 5 ≤ Ln) (hl : lv_has ls 8 (lvL sb x0 m0 o0 i)) (kk : lwN p l e s m below meth c Q E sb x0 m0 o0 i cells slots) : W p l e room_1 s m #[Value.ref sb] below meth c H locs cells slots Q (F0 m 749 ls []) := by
  have B2 := B
  obtain ⟨⟨hx, hb, hml, hown, hts⟩, hK, -, -, -, hst, hG1, hG2, hG3⟩ := B2
  obtain ⟨fa, tb, st, jn, rs, lm, fh, ft, fv, kd, nz, T, V, n, b, S, J, w1, w2, w3, w4, L, F, k0, q0, t0, v0, c0, p0, s0, j0, r0, f0, g0, h0, cd, TT, VV, CC, OO, RR, z1, z2, z3, z4, SF, SM, FD, hR, hP, hD⟩ := hV
  have hA : ∀ q : Nat, s.heap.size ≤ q → lwA s q := fun q h => h
  have hn := Rl_n hR
  have hz := Rl_z hR
  have hk5 := Rl_k hR
  refine lv_aload_n hx hb dL_law_749 rfl (lv_at hl 1 rfl) ?_
  refine zs_arg B hS (lv_sub hl [0, 1, 2, 3, 4] rfl) 1 (by decide) hi dL_law_750 dL_law_751 dL_law_753 dL_law_754 dL_law_755 ?_
  refine zs_arg B hS (lv_sub hl [0, 1, 2, 3, 4] rfl) 2 (by decide) hi dL_law_756 dL_law_757 dL_law_759 dL_law_760 dL_law_761 ?_
  refine lv_aload_n hx hb dL_law_762 rfl (lv_at hl 3 rfl) ?_
  rw [← List.append_assoc] at hP hD
  have hFc : ∀ q, va_A ((xB E x0 fa tb st jn rs lm fh n b S J w1 w2 w3 w4 L ++ fP E fh ft fv kd nz T V n) ++ oW E o0 F) H.size q → lwA s q := x_free hD hS hA (fun k q h => ⟨k, (x_l h).1⟩)
  refine zL_xi (vx_runSW (As := [.ref x0, .int (xs (i + 1)), .int (xs (i + 2)), .ref o0]) (rest := []) ⟨hx, hb, hml, hown, hts⟩ (kL_spread l hst E _ x0 fa tb st jn rs lm fh ft fv kd nz T V n b S J w1 w2 w3 w4 L hn hz hk5 (Rl_sp hR) (xs (i + 1)) (xs (i + 2)) o0 F) (vx_cwSW 4 hts (good_app gL_law_L_spread) rfl rfl rfl (by decide +kernel) ⟨Nat.le_of_ble_eq_true rfl, Nat.le_of_ble_eq_true rfl⟩) (z_preN gTh_call (fun U hU hW => gTh_warm hU hW hS.2.1 hFc hG3) (app_l hP) (D_l hD) hK) rfl rfl hl.1 rfl (lv_room (Nat.le_of_ble_eq_true rfl)) dL_law_763 ⟨Nat.le_trans (Nat.add_le_add_right hc _) (Nat.le_of_ble_eq_true rfl), Nat.le_trans (Nat.add_le_add_right hs _) (Nat.le_of_ble_eq_true rfl)⟩) hP hD hS hA oW_fst (fun H locs hP hD hS => ?_)
  have hc := Nat.add_le_add_right hc 1
  have hs := Nat.add_le_add_right hs 6
  refine lv_istore (lv' := [(5, .int (mnC n kd nz (xs (i + 1)) (xs (i + 2)))), (0, .ref sb), (1, .ref x0), (2, .ref m0), (3, .ref o0), (4, .int (nI i))]) hx hb dL_law_766 hl (by decide) rfl (fun ls hl => ?_)
  refine lv_aload_n hx hb dL_law_768 rfl (lv_at hl 3 rfl) ?_
  refine zs_arg B hS (lv_sub hl [1, 2, 3, 4, 5] rfl) 1 (by decide) hi dL_law_769 dL_law_770 dL_law_772 dL_law_773 dL_law_774 ?_
  refine zs_arg B hS (lv_sub hl [1, 2, 3, 4, 5] rfl) 2 (by decide) hi dL_law_775 dL_law_776 dL_law_778 dL_law_779 dL_law_780 ?_
  refine zL_ml (va_runV (As := [.int (xs (i + 1)), .int (xs (i + 2))]) (rest := []) ⟨hx, hb, hml, hown, hts⟩ (kX4_spread l E _ m0 k0 q0 t0 v0 c0 p0 s0 j0 r0 f0 g0 h0 cd n kd nz TT VV CC OO b S J RR z1 z2 z3 z4 SF SM FD hn hz hk5 (Rl_spv hR) (xs (i + 1)) (xs (i + 2))) (cwV 2 hts (good_app gL_law_X4_spread) rfl rfl rfl (by decide +kernel) ⟨Nat.le_of_ble_eq_true rfl, Nat.le_of_ble_eq_true rfl⟩) (z_preWV (app_r hP) (D_r hD) hK 0 rfl rfl) rfl rfl hl.1 rfl (lv_room (Nat.le_of_ble_eq_true rfl)) dL_law_781 ⟨Nat.le_trans hc (Nat.le_of_ble_eq_true rfl), Nat.le_trans hs (Nat.le_of_ble_eq_true rfl)⟩) hP hD hS hA (fun _ => rfl) (fun H locs _ hP hD hS => ?_)
  refine lv_lstore (lv' := [(6, .long (sdA n kd nz (vw VV) (xs (i + 1)) (xs (i + 2)))), (5, .int (mnC n kd nz (xs (i + 1)) (xs (i + 2)))), (0, .ref sb), (1, .ref x0), (2, .ref m0), (3, .ref o0), (4, .int (nI i))]) hx hb dL_law_784 hl (by decide) rfl (fun ls hl => ?_)
  refine lv_aload_n hx hb dL_law_786 rfl (lv_at hl 4 rfl) ?_
  refine zc_i (W.runV (As := []) (rest := []) ⟨hx, hb, hml, hown, hts⟩ (kX4_thrown l E m0 k0 q0 t0 v0 c0 p0 s0 j0 r0 f0 g0 h0 (mnC n kd nz (xs (i + 1)) (xs (i + 2))) n kd nz TT VV CC OO b S J RR z1 z2 z3 z4 SF SM FD hn) (cwV 0 hts (good_app gL_law_X4_thrown) rfl rfl rfl (by decide +kernel) ⟨Nat.le_of_ble_eq_true rfl, Nat.le_of_ble_eq_true rfl⟩) (z_preV (app_r hP) hK 0 rfl rfl) rfl rfl hl.1 rfl (lv_room (Nat.le_of_ble_eq_true rfl)) dL_law_787 ⟨Nat.le_trans hc (Nat.le_of_ble_eq_true rfl), Nat.le_trans hs (Nat.le_of_ble_eq_true rfl)⟩) ?_
  refine lv_iload hx hb dL_law_790 (lv_at hl 1 rfl) ?_
  refine lv_icmp_eq (tgt := 797) hx hb dL_law_792 (by decide) (fun _ => ?_) (fun q => absurd rfl q)
  refine lv_iload hx hb dL_law_797 (lv_at hl 1 rfl) ?_
  have fin : ∀ hl9 : lv_has ls 8 (lvL sb x0 m0 o0 i), W p l e room_1 s m #[Value.ref sb] below meth c H locs (cells + 1) (slots + 6) Q (F0 m 813 ls []) := by
    intro hl9
    refine lv_goto (tgt := 1196) hx hb dL_law_813 (by decide) ?_
    rw [List.append_assoc] at hP hD
    exact kk _ _ _ _ _ ⟨fa, tb, st, jn, rs, lm, fh, ft, fv, kd, nz, T, V, n, b, S, J, w1, w2, w3, w4, L, oF F (mnC n kd nz (xs (i + 1)) (xs (i + 2))) (sdA n kd nz V (xs (i + 1)) (xs (i + 2))), k0, q0, t0, v0, c0, p0, s0, j0, r0, f0, g0, h0, mnC n kd nz (xs (i + 1)) (xs (i + 2)), TT, VV, CC, OO, RR, z1, z2, z3, z4, SF, SM, FD, hR, hP, hD⟩ hS (by omega) (by omega) hl9
  have hl9 : lv_has ls 8 (lvL sb x0 m0 o0 i) := lv_sub hl [2, 3, 4, 5, 6] rfl
  refine lv_if_ne (tgt := 813) hx hb dL_law_799 (by decide) (fun _ => fin hl9) (fun c0 => ?_)
  refine lv_aload_n hx hb dL_law_802 rfl (lv_at hl9 3 rfl) ?_
  refine lv_iconst (v := nI 0) hx hb dL_law_803 (by decide) ?_
  have hP3 : va_P E.1 vwCl (oW E o0 (oF F (mnC n kd nz (xs (i + 1)) (xs (i + 2))) (sdA n kd nz V (xs (i + 1)) (xs (i + 2))))) H := app_r (app_l hP)
  refine zn_lald (a := o0) (n := 1) (j := 0) hx hb hK.1 hP3 0 1 rfl rfl (by decide) (by decide) dL_law_804 ?_
  refine lv_lload hx hb dL_law_805 (lv_at hl 0 rfl) ?_
  have hv : oF F (mnC n kd nz (xs (i + 1)) (xs (i + 2))) (sdA n kd nz V (xs (i + 1)) (xs (i + 2))) 0 = sdA n kd nz (vw VV) (xs (i + 1)) (xs (i + 2)) := by unfold oF; rw [if_neg (fun z => absurd (z.symm.trans c0) (by decide))]; unfold vp_updL; rw [if_pos rfl]; exact e_spread hR (xs (i + 1)) (xs (i + 2))
  exact zl_eq (tgt := 813) hx hb dL_law_807 dL_law_808 (by decide) (fun _ => fin hl9) (fun q => absurd hv q)
set_option maxHeartbeats 4000000 in
set_option maxRecDepth 100000 in
theorem lc_least (B : lwB p l s m c E sb Ln xs) (hV : lwV E x0 m0 o0 (lwA s) H) (hS : va_S (lwA s) s.heap H locs) (hc : cells ≤ 5000) (hs : slots ≤ 100000) (hi : i + 5 ≤ Ln) (hl : lv_has ls 8 (lvL sb x0 m0 o0 i)) (kk : lwN p l e s m below meth c Q E sb x0 m0 o0 i cells slots) : W p l e room_1 s m #[Value.ref sb] below meth c H locs cells slots Q (F0 m 816 ls []) := by
  have B2 := B
  obtain ⟨⟨hx, hb, hml, hown, hts⟩, hK, -, -, -, hst, hG1, hG2, hG3⟩ := B2
  obtain ⟨fa, tb, st, jn, rs, lm, fh, ft, fv, kd, nz, T, V, n, b, S, J, w1, w2, w3, w4, L, F, k0, q0, t0, v0, c0, p0, s0, j0, r0, f0, g0, h0, cd, TT, VV, CC, OO, RR, z1, z2, z3, z4, SF, SM, FD, hR, hP, hD⟩ := hV
  have hA : ∀ q : Nat, s.heap.size ≤ q → lwA s q := fun q h => h
  have hn := Rl_n hR
  have hz := Rl_z hR
  have hk5 := Rl_k hR
  refine lv_aload_n hx hb dL_law_816 rfl (lv_at hl 1 rfl) ?_
  refine zs_arg B hS (lv_sub hl [0, 1, 2, 3, 4] rfl) 1 (by decide) hi dL_law_817 dL_law_818 dL_law_820 dL_law_821 dL_law_822 ?_
  refine zs_arg B hS (lv_sub hl [0, 1, 2, 3, 4] rfl) 2 (by decide) hi dL_law_823 dL_law_824 dL_law_826 dL_law_827 dL_law_828 ?_
  refine zc_l (W.runV (As := [.int (xs (i + 1)), .int (xs (i + 2))]) (rest := []) ⟨hx, hb, hml, hown, hts⟩ (kX3_least l E x0 fa tb st jn rs lm fh ft fv kd nz T V n b S J w1 w2 w3 w4 L hn hz hk5 (xs (i + 1)) (xs (i + 2))) (cwV 2 hts (good_app gL_law_X3_least) rfl rfl rfl (by decide +kernel) ⟨Nat.le_of_ble_eq_true rfl, Nat.le_of_ble_eq_true rfl⟩) (z_preV (app_l hP) hK 0 rfl rfl) rfl rfl hl.1 rfl (lv_room (Nat.le_of_ble_eq_true rfl)) dL_law_829 ⟨Nat.le_trans hc (Nat.le_of_ble_eq_true rfl), Nat.le_trans hs (Nat.le_of_ble_eq_true rfl)⟩) ?_
  rw [← List.append_assoc] at hP hD
  refine lv_aload_n hx hb dL_law_832 rfl (lv_at hl 2 rfl) ?_
  refine zs_arg B hS (lv_sub hl [0, 1, 2, 3, 4] rfl) 1 (by decide) hi dL_law_833 dL_law_834 dL_law_836 dL_law_837 dL_law_838 ?_
  refine zs_arg B hS (lv_sub hl [0, 1, 2, 3, 4] rfl) 2 (by decide) hi dL_law_839 dL_law_840 dL_law_842 dL_law_843 dL_law_844 ?_
  refine zL_ml (va_runV (As := [.int (xs (i + 1)), .int (xs (i + 2))]) (rest := [.long (aLeast n kd nz V (xs (i + 1)) (xs (i + 2)))]) ⟨hx, hb, hml, hown, hts⟩ (kX4_least l E _ m0 k0 q0 t0 v0 c0 p0 s0 j0 r0 f0 g0 h0 cd n kd nz TT VV CC OO b S J RR z1 z2 z3 z4 SF SM FD hn hz hk5 (xs (i + 1)) (xs (i + 2))) (cwV 2 hts (good_app gL_law_X4_least) rfl rfl rfl (by decide +kernel) ⟨Nat.le_of_ble_eq_true rfl, Nat.le_of_ble_eq_true rfl⟩) (z_preWV (app_r hP) (D_r hD) hK 0 rfl rfl) rfl rfl hl.1 rfl (lv_room (Nat.le_of_ble_eq_true rfl)) dL_law_845 ⟨Nat.le_trans hc (Nat.le_of_ble_eq_true rfl), Nat.le_trans hs (Nat.le_of_ble_eq_true rfl)⟩) hP hD hS hA (fun _ => rfl) (fun H locs u2 hP hD hS => ?_)
  rw [List.append_assoc] at hP hD
  refine zl_eq (tgt := 1196) hx hb dL_law_848 dL_law_849 (by decide) (fun _ => ?_) (fun q => absurd (e_least hR (xs (i + 1)) (xs (i + 2))) q)
  exact kk _ _ _ _ _ ⟨fa, tb, st, jn, rs, lm, fh, ft, fv, kd, nz, T, V, n, b, S, J, w1, w2, w3, w4, L, F, k0, q0, t0, v0, c0, p0, s0, j0, r0, f0, g0, h0, nI 0, TT, VV, CC, OO, RR, z1, z2, z3, z4, SF, SM, FD, hR, hP, hD⟩ hS (Nat.le_add_right _ _) (Nat.le_add_right _ _) hl
set_option maxHeartbeats 4000000 in
set_option maxRecDepth 100000 in
theorem lc_rank (B : lwB p l s m c E sb Ln xs) (hV : lwV E x0 m0 o0 (lwA s) H) (hS : va_S (lwA s) s.heap H locs) (hc : cells ≤ 5000) (hs : slots ≤ 100000) (hi : i + 5 ≤ Ln) (hl : lv_has ls 8 (lvL sb x0 m0 o0 i)) (kk : lwN p l e s m below meth c Q E sb x0 m0 o0 i cells slots) : W p l e room_1 s m #[Value.ref sb] below meth c H locs cells slots Q (F0 m 854 ls []) := by
  have B2 := B
  obtain ⟨⟨hx, hb, hml, hown, hts⟩, hK, -, -, -, hst, hG1, hG2, hG3⟩ := B2
  obtain ⟨fa, tb, st, jn, rs, lm, fh, ft, fv, kd, nz, T, V, n, b, S, J, w1, w2, w3, w4, L, F, k0, q0, t0, v0, c0, p0, s0, j0, r0, f0, g0, h0, cd, TT, VV, CC, OO, RR, z1, z2, z3, z4, SF, SM, FD, hR, hP, hD⟩ := hV
  have hA : ∀ q : Nat, s.heap.size ≤ q → lwA s q := fun q h => h
  have hn := Rl_n hR
  have hz := Rl_z hR
  have hk5 := Rl_k hR
  refine lv_aload_n hx hb dL_law_854 rfl (lv_at hl 1 rfl) ?_
  refine zs_arg B hS (lv_sub hl [0, 1, 2, 3, 4] rfl) 1 (by decide) hi dL_law_855 dL_law_856 dL_law_858 dL_law_859 dL_law_860 ?_
  refine zs_long B hS (lv_sub hl [0, 1, 2, 3, 4] rfl) 2 (by decide) hi dL_law_861 dL_law_862 dL_law_864 dL_law_865 dL_law_866 dL_law_867 dL_law_868 dL_law_870 dL_law_871 dL_law_872 dL_law_874 dL_law_875 dL_law_876 dL_law_877 dL_law_878 dL_law_881 dL_law_882 rfl ?_
  refine zc_i (W.runV (As := [.int (xs (i + 1)), .long (lgv xs (i + 2))]) (rest := []) ⟨hx, hb, hml, hown, hts⟩ (kX3_rank l E x0 fa tb st jn rs lm fh ft fv kd nz T V n b S J w1 w2 w3 w4 L hn hz hk5 (xs (i + 1)) (lgv xs (i + 2))) (cwV 2 hts (good_app gL_law_X3_rank) rfl rfl rfl (by decide +kernel) ⟨Nat.le_of_ble_eq_true rfl, Nat.le_of_ble_eq_true rfl⟩) (z_preV (app_l hP) hK 0 rfl rfl) rfl rfl hl.1 rfl (lv_room (Nat.le_of_ble_eq_true rfl)) dL_law_883 ⟨Nat.le_trans hc (Nat.le_of_ble_eq_true rfl), Nat.le_trans hs (Nat.le_of_ble_eq_true rfl)⟩) ?_
  rw [← List.append_assoc] at hP hD
  refine lv_aload_n hx hb dL_law_886 rfl (lv_at hl 2 rfl) ?_
  refine zs_arg B hS (lv_sub hl [0, 1, 2, 3, 4] rfl) 1 (by decide) hi dL_law_887 dL_law_888 dL_law_890 dL_law_891 dL_law_892 ?_
  refine zs_long B hS (lv_sub hl [0, 1, 2, 3, 4] rfl) 2 (by decide) hi dL_law_893 dL_law_894 dL_law_896 dL_law_897 dL_law_898 dL_law_899 dL_law_900 dL_law_902 dL_law_903 dL_law_904 dL_law_906 dL_law_907 dL_law_908 dL_law_909 dL_law_910 dL_law_913 dL_law_914 rfl ?_
  refine zL_mi (va_runV (As := [.int (xs (i + 1)), .long (lgv xs (i + 2))]) (rest := [.int (aRank n kd nz V (xs (i + 1)) (lgv xs (i + 2)))]) ⟨hx, hb, hml, hown, hts⟩ (kX4_rank l E _ m0 k0 q0 t0 v0 c0 p0 s0 j0 r0 f0 g0 h0 cd n kd nz TT VV CC OO b S J RR z1 z2 z3 z4 SF SM FD hn hz hk5 (xs (i + 1)) (lgv xs (i + 2))) (cwV 2 hts (good_app gL_law_X4_rank) rfl rfl rfl (by decide +kernel) ⟨Nat.le_of_ble_eq_true rfl, Nat.le_of_ble_eq_true rfl⟩) (z_preWV (app_r hP) (D_r hD) hK 0 rfl rfl) rfl rfl hl.1 rfl (lv_room (Nat.le_of_ble_eq_true rfl)) dL_law_915 ⟨Nat.le_trans hc (Nat.le_of_ble_eq_true rfl), Nat.le_trans hs (Nat.le_of_ble_eq_true rfl)⟩) hP hD hS hA (fun _ => rfl) (fun H locs u2 hP hD hS => ?_)
  rw [List.append_assoc] at hP hD
  refine lv_icmp_eq (tgt := 1196) hx hb dL_law_918 (by decide) (fun _ => ?_) (fun q => absurd (e_rank hR (xs (i + 1)) (lgv xs (i + 2))) q)
  exact kk _ _ _ _ _ ⟨fa, tb, st, jn, rs, lm, fh, ft, fv, kd, nz, T, V, n, b, S, J, w1, w2, w3, w4, L, F, k0, q0, t0, v0, c0, p0, s0, j0, r0, f0, g0, h0, nI 0, TT, VV, CC, OO, RR, z1, z2, z3, z4, SF, SM, FD, hR, hP, hD⟩ hS (Nat.le_add_right _ _) (Nat.le_add_right _ _) hl
set_option maxHeartbeats 4000000 in
set_option maxRecDepth 100000 in
theorem lc_unlike (B : lwB p l s m c E sb Ln xs) (hV : lwV E x0 m0 o0 (lwA s) H) (hS : va_S (lwA s) s.heap H locs) (hc : cells ≤ 5000) (hs : slots ≤ 100000) (hi : i + 5 ≤ Ln) (hl : lv_has ls 8 (lvL sb x0 m0 o0 i)) (kk : lwN p l e s m below meth c Q E sb x0 m0 o0 i cells slots) : W p l e room_1 s m #[Value.ref sb] below meth c H locs cells slots Q (F0 m 923 ls []) := by
  have B2 := B
  obtain ⟨⟨hx, hb, hml, hown, hts⟩, hK, -, -, -, hst, hG1, hG2, hG3⟩ := B2
  obtain ⟨fa, tb, st, jn, rs, lm, fh, ft, fv, kd, nz, T, V, n, b, S, J, w1, w2, w3, w4, L, F, k0, q0, t0, v0, c0, p0, s0, j0, r0, f0, g0, h0, cd, TT, VV, CC, OO, RR, z1, z2, z3, z4, SF, SM, FD, hR, hP, hD⟩ := hV
  have hA : ∀ q : Nat, s.heap.size ≤ q → lwA s q := fun q h => h
  have hn := Rl_n hR
  have hz := Rl_z hR
  have hk5 := Rl_k hR
  refine lv_aload_n hx hb dL_law_923 rfl (lv_at hl 1 rfl) ?_
  refine zs_arg B hS (lv_sub hl [0, 1, 2, 3, 4] rfl) 1 (by decide) hi dL_law_924 dL_law_925 dL_law_927 dL_law_928 dL_law_929 ?_
  refine zc_i (W.runV (As := [.int (xs (i + 1))]) (rest := []) ⟨hx, hb, hml, hown, hts⟩ (kX3_unlike l E x0 fa tb st jn rs lm fh ft fv kd nz T V n b S J w1 w2 w3 w4 L hn hz hk5 (xs (i + 1))) (cwV 1 hts (good_app gL_law_X3_unlike) rfl rfl rfl (by decide +kernel) ⟨Nat.le_of_ble_eq_true rfl, Nat.le_of_ble_eq_true rfl⟩) (z_preV (app_l hP) hK 0 rfl rfl) rfl rfl hl.1 rfl (lv_room (Nat.le_of_ble_eq_true rfl)) dL_law_930 ⟨Nat.le_trans hc (Nat.le_of_ble_eq_true rfl), Nat.le_trans hs (Nat.le_of_ble_eq_true rfl)⟩) ?_
  rw [← List.append_assoc] at hP hD
  refine lv_aload_n hx hb dL_law_933 rfl (lv_at hl 2 rfl) ?_
  refine zs_arg B hS (lv_sub hl [0, 1, 2, 3, 4] rfl) 1 (by decide) hi dL_law_934 dL_law_935 dL_law_937 dL_law_938 dL_law_939 ?_
  refine zL_mi (va_runV (As := [.int (xs (i + 1))]) (rest := [.int (aUnl n kd nz V (xs (i + 1)))]) ⟨hx, hb, hml, hown, hts⟩ (kX4_unlike l E _ m0 k0 q0 t0 v0 c0 p0 s0 j0 r0 f0 g0 h0 cd n kd nz TT VV CC OO b S J RR z1 z2 z3 z4 SF SM FD hn hz hk5 (xs (i + 1))) (cwV 1 hts (good_app gL_law_X4_unlike) rfl rfl rfl (by decide +kernel) ⟨Nat.le_of_ble_eq_true rfl, Nat.le_of_ble_eq_true rfl⟩) (z_preWV (app_r hP) (D_r hD) hK 0 rfl rfl) rfl rfl hl.1 rfl (lv_room (Nat.le_of_ble_eq_true rfl)) dL_law_940 ⟨Nat.le_trans hc (Nat.le_of_ble_eq_true rfl), Nat.le_trans hs (Nat.le_of_ble_eq_true rfl)⟩) hP hD hS hA (fun _ => rfl) (fun H locs u2 hP hD hS => ?_)
  rw [List.append_assoc] at hP hD
  refine lv_icmp_eq (tgt := 1196) hx hb dL_law_943 (by decide) (fun _ => ?_) (fun q => absurd (e_unl hR (xs (i + 1))) q)
  exact kk _ _ _ _ _ ⟨fa, tb, st, jn, rs, lm, fh, ft, fv, kd, nz, T, V, n, b, S, J, w1, w2, w3, w4, L, F, k0, q0, t0, v0, c0, p0, s0, j0, r0, f0, g0, h0, nI 0, TT, VV, CC, OO, RR, z1, z2, z3, z4, SF, SM, FD, hR, hP, hD⟩ hS (Nat.le_add_right _ _) (Nat.le_add_right _ _) hl
set_option maxHeartbeats 4000000 in
set_option maxRecDepth 100000 in
theorem lc_item (B : lwB p l s m c E sb Ln xs) (hV : lwV E x0 m0 o0 (lwA s) H) (hS : va_S (lwA s) s.heap H locs) (hc : cells ≤ 5000) (hs : slots ≤ 100000) (hi : i + 5 ≤ Ln) (hl : lv_has ls 8 (lvL sb x0 m0 o0 i)) (kk : lwN p l e s m below meth c Q E sb x0 m0 o0 i cells slots) : W p l e room_1 s m #[Value.ref sb] below meth c H locs cells slots Q (F0 m 948 ls []) := by
  have B2 := B
  obtain ⟨⟨hx, hb, hml, hown, hts⟩, hK, -, -, -, hst, hG1, hG2, hG3⟩ := B2
  obtain ⟨fa, tb, st, jn, rs, lm, fh, ft, fv, kd, nz, T, V, n, b, S, J, w1, w2, w3, w4, L, F, k0, q0, t0, v0, c0, p0, s0, j0, r0, f0, g0, h0, cd, TT, VV, CC, OO, RR, z1, z2, z3, z4, SF, SM, FD, hR, hP, hD⟩ := hV
  have hA : ∀ q : Nat, s.heap.size ≤ q → lwA s q := fun q h => h
  have hn := Rl_n hR
  have hz := Rl_z hR
  have hk5 := Rl_k hR
  refine lv_aload_n hx hb dL_law_948 rfl (lv_at hl 1 rfl) ?_
  refine zs_arg B hS (lv_sub hl [0, 1, 2, 3, 4] rfl) 1 (by decide) hi dL_law_949 dL_law_950 dL_law_952 dL_law_953 dL_law_954 ?_
  refine zs_arg B hS (lv_sub hl [0, 1, 2, 3, 4] rfl) 2 (by decide) hi dL_law_955 dL_law_956 dL_law_958 dL_law_959 dL_law_960 ?_
  refine zc_l (W.runV (As := [.int (xs (i + 1)), .int (xs (i + 2))]) (rest := []) ⟨hx, hb, hml, hown, hts⟩ (kX3_item l E x0 fa tb st jn rs lm fh ft fv kd nz T V n b S J w1 w2 w3 w4 L hn hz hk5 (xs (i + 1)) (xs (i + 2))) (cwV 2 hts (good_app gL_law_X3_item) rfl rfl rfl (by decide +kernel) ⟨Nat.le_of_ble_eq_true rfl, Nat.le_of_ble_eq_true rfl⟩) (z_preV (app_l hP) hK 0 rfl rfl) rfl rfl hl.1 rfl (lv_room (Nat.le_of_ble_eq_true rfl)) dL_law_961 ⟨Nat.le_trans hc (Nat.le_of_ble_eq_true rfl), Nat.le_trans hs (Nat.le_of_ble_eq_true rfl)⟩) ?_
  rw [← List.append_assoc] at hP hD
  refine lv_aload_n hx hb dL_law_964 rfl (lv_at hl 2 rfl) ?_
  refine zs_arg B hS (lv_sub hl [0, 1, 2, 3, 4] rfl) 1 (by decide) hi dL_law_965 dL_law_966 dL_law_968 dL_law_969 dL_law_970 ?_
  refine zs_arg B hS (lv_sub hl [0, 1, 2, 3, 4] rfl) 2 (by decide) hi dL_law_971 dL_law_972 dL_law_974 dL_law_975 dL_law_976 ?_
  refine zL_ml (va_runV (As := [.int (xs (i + 1)), .int (xs (i + 2))]) (rest := [.long (aItem n kd nz V (xs (i + 1)) (xs (i + 2)))]) ⟨hx, hb, hml, hown, hts⟩ (kX4_item l E _ m0 k0 q0 t0 v0 c0 p0 s0 j0 r0 f0 g0 h0 cd n kd nz TT VV CC OO b S J RR z1 z2 z3 z4 SF SM FD hn hz hk5 (xs (i + 1)) (xs (i + 2))) (cwV 2 hts (good_app gL_law_X4_item) rfl rfl rfl (by decide +kernel) ⟨Nat.le_of_ble_eq_true rfl, Nat.le_of_ble_eq_true rfl⟩) (z_preWV (app_r hP) (D_r hD) hK 0 rfl rfl) rfl rfl hl.1 rfl (lv_room (Nat.le_of_ble_eq_true rfl)) dL_law_977 ⟨Nat.le_trans hc (Nat.le_of_ble_eq_true rfl), Nat.le_trans hs (Nat.le_of_ble_eq_true rfl)⟩) hP hD hS hA (fun _ => rfl) (fun H locs u2 hP hD hS => ?_)
  rw [List.append_assoc] at hP hD
  refine zl_eq (tgt := 1196) hx hb dL_law_980 dL_law_981 (by decide) (fun _ => ?_) (fun q => absurd (e_item hR OO (xs (i + 1)) (xs (i + 2))) q)
  exact kk _ _ _ _ _ ⟨fa, tb, st, jn, rs, lm, fh, ft, fv, kd, nz, T, V, n, b, S, J, w1, w2, w3, w4, L, F, k0, q0, t0, v0, c0, p0, s0, j0, r0, f0, g0, h0, nI 0, TT, VV, CC, itO n kd nz TT VV OO (xs (i + 1)) (xs (i + 2)), RR, z1, z2, z3, z4, SF, SM, FD, hR, hP, hD⟩ hS (Nat.le_add_right _ _) (Nat.le_add_right _ _) hl
set_option maxHeartbeats 4000000 in
set_option maxRecDepth 100000 in
theorem lc_start (B : lwB p l s m c E sb Ln xs) (hV : lwV E x0 m0 o0 (lwA s) H) (hS : va_S (lwA s) s.heap H locs) (hc : cells ≤ 5000) (hs : slots ≤ 100000) (hi : i + 5 ≤ Ln) (hl : lv_has ls 8 (lvL sb x0 m0 o0 i)) (kk : lwN p l e s m below meth c Q E sb x0 m0 o0 i cells slots) : W p l e room_1 s m #[Value.ref sb] below meth c H locs cells slots Q (F0 m 986 ls []) := by
  have B2 := B
  obtain ⟨⟨hx, hb, hml, hown, hts⟩, hK, -, -, -, hst, hG1, hG2, hG3⟩ := B2
  obtain ⟨fa, tb, st, jn, rs, lm, fh, ft, fv, kd, nz, T, V, n, b, S, J, w1, w2, w3, w4, L, F, k0, q0, t0, v0, c0, p0, s0, j0, r0, f0, g0, h0, cd, TT, VV, CC, OO, RR, z1, z2, z3, z4, SF, SM, FD, hR, hP, hD⟩ := hV
  have hA : ∀ q : Nat, s.heap.size ≤ q → lwA s q := fun q h => h
  have hn := Rl_n hR
  have hz := Rl_z hR
  have hk5 := Rl_k hR
  refine lv_aload_n hx hb dL_law_986 rfl (lv_at hl 1 rfl) ?_
  refine zs_arg B hS (lv_sub hl [0, 1, 2, 3, 4] rfl) 1 (by decide) hi dL_law_987 dL_law_988 dL_law_990 dL_law_991 dL_law_992 ?_
  refine zL_xi (va_runV (As := [.int (xs (i + 1))]) (rest := []) ⟨hx, hb, hml, hown, hts⟩ (kX3_start l E _ x0 fa tb st jn rs lm fh ft fv kd nz T V n b S J w1 w2 w3 w4 L hn (Rl_b hR) (Rl_S hR) (Rl_J hR) (xs (i + 1))) (cwV 1 hts (good_app gL_law_X3_start) rfl rfl rfl (by decide +kernel) ⟨Nat.le_of_ble_eq_true rfl, Nat.le_of_ble_eq_true rfl⟩) (z_preWV (app_l hP) (D_l hD) hK 0 rfl rfl) rfl rfl hl.1 rfl (lv_room (Nat.le_of_ble_eq_true rfl)) dL_law_993 ⟨Nat.le_trans hc (Nat.le_of_ble_eq_true rfl), Nat.le_trans hs (Nat.le_of_ble_eq_true rfl)⟩) hP hD hS hA xf_fst (fun H locs hP hD hS => ?_)
  rw [← List.append_assoc] at hP hD
  refine lv_aload_n hx hb dL_law_996 rfl (lv_at hl 2 rfl) ?_
  refine zs_arg B hS (lv_sub hl [0, 1, 2, 3, 4] rfl) 1 (by decide) hi dL_law_997 dL_law_998 dL_law_1000 dL_law_1001 dL_law_1002 ?_
  refine zL_mi (va_runV (As := [.int (xs (i + 1))]) (rest := [.int (stA b (xs (i + 1)))]) ⟨hx, hb, hml, hown, hts⟩ (kX4_start l E _ m0 k0 q0 t0 v0 c0 p0 s0 j0 r0 f0 g0 h0 cd n kd nz TT VV CC OO b S J RR z1 z2 z3 z4 SF SM FD hn (xs (i + 1))) (cwV 1 hts (good_app gL_law_X4_start) rfl rfl rfl (by decide +kernel) ⟨Nat.le_of_ble_eq_true rfl, Nat.le_of_ble_eq_true rfl⟩) (z_preWV (app_r hP) (D_r hD) hK 0 rfl rfl) rfl rfl hl.1 rfl (lv_room (Nat.le_of_ble_eq_true rfl)) dL_law_1003 ⟨Nat.le_trans hc (Nat.le_of_ble_eq_true rfl), Nat.le_trans hs (Nat.le_of_ble_eq_true rfl)⟩) hP hD hS hA (fun _ => rfl) (fun H locs u2 hP hD hS => ?_)
  rw [List.append_assoc] at hP hD
  refine lv_icmp_eq (tgt := 1196) hx hb dL_law_1006 (by decide) (fun _ => ?_) (fun q => absurd (rfl) q)
  exact kk _ _ _ _ _ ⟨fa, tb, st, jn, rs, lm, fh, ft, fv, kd, nz, T, V, n, stB b (xs (i + 1)), S, J, w1, w2, w3, w4, L, F, k0, q0, t0, v0, c0, p0, s0, j0, r0, f0, g0, h0, nI 0, TT, VV, CC, OO, RR, z1, z2, z3, z4, SF, SM, FD, Rl_start hR (xs (i + 1)), hP, hD⟩ hS (Nat.le_add_right _ _) (Nat.le_add_right _ _) hl
set_option maxHeartbeats 4000000 in
set_option maxRecDepth 100000 in
theorem lc_step (B : lwB p l s m c E sb Ln xs) (hV : lwV E x0 m0 o0 (lwA s) H) (hS : va_S (lwA s) s.heap H locs) (hc : cells ≤ 5000) (hs : slots ≤ 100000) (hi : i + 5 ≤ Ln) (hl : lv_has ls 8 (lvL sb x0 m0 o0 i)) (kk : lwN p l e s m below meth c Q E sb x0 m0 o0 i cells slots) : W p l e room_1 s m #[Value.ref sb] below meth c H locs cells slots Q (F0 m 1011 ls []) := by
  have B2 := B
  obtain ⟨⟨hx, hb, hml, hown, hts⟩, hK, -, -, -, hst, hG1, hG2, hG3⟩ := B2
  obtain ⟨fa, tb, st, jn, rs, lm, fh, ft, fv, kd, nz, T, V, n, b, S, J, w1, w2, w3, w4, L, F, k0, q0, t0, v0, c0, p0, s0, j0, r0, f0, g0, h0, cd, TT, VV, CC, OO, RR, z1, z2, z3, z4, SF, SM, FD, hR, hP, hD⟩ := hV
  have hA : ∀ q : Nat, s.heap.size ≤ q → lwA s q := fun q h => h
  have hn := Rl_n hR
  have hz := Rl_z hR
  have hk5 := Rl_k hR
  refine lv_aload_n hx hb dL_law_1011 rfl (lv_at hl 1 rfl) ?_
  refine zs_arg B hS (lv_sub hl [0, 1, 2, 3, 4] rfl) 1 (by decide) hi dL_law_1012 dL_law_1013 dL_law_1015 dL_law_1016 dL_law_1017 ?_
  refine zs_arg B hS (lv_sub hl [0, 1, 2, 3, 4] rfl) 2 (by decide) hi dL_law_1018 dL_law_1019 dL_law_1021 dL_law_1022 dL_law_1023 ?_
  refine zs_arg B hS (lv_sub hl [0, 1, 2, 3, 4] rfl) 3 (by decide) hi dL_law_1024 dL_law_1025 dL_law_1027 dL_law_1028 dL_law_1029 ?_
  refine zL_xi (va_runV (As := [.int (xs (i + 1)), .int (xs (i + 2)), .int (xs (i + 3))]) (rest := []) ⟨hx, hb, hml, hown, hts⟩ (kX3_step l E _ x0 fa tb st jn rs lm fh ft fv kd nz T V n b S J w1 w2 w3 w4 L hn (Rl_b hR) (Rl_S hR) (Rl_J hR) (xs (i + 1)) (xs (i + 2)) (xs (i + 3))) (cwV 3 hts (good_app gL_law_X3_step) rfl rfl rfl (by decide +kernel) ⟨Nat.le_of_ble_eq_true rfl, Nat.le_of_ble_eq_true rfl⟩) (z_preWV (app_l hP) (D_l hD) hK 0 rfl rfl) rfl rfl hl.1 rfl (lv_room (Nat.le_of_ble_eq_true rfl)) dL_law_1030 ⟨Nat.le_trans hc (Nat.le_of_ble_eq_true rfl), Nat.le_trans hs (Nat.le_of_ble_eq_true rfl)⟩) hP hD hS hA xf_fst (fun H locs hP hD hS => ?_)
  rw [← List.append_assoc] at hP hD
  refine lv_aload_n hx hb dL_law_1033 rfl (lv_at hl 2 rfl) ?_
  refine zs_arg B hS (lv_sub hl [0, 1, 2, 3, 4] rfl) 1 (by decide) hi dL_law_1034 dL_law_1035 dL_law_1037 dL_law_1038 dL_law_1039 ?_
  refine zs_arg B hS (lv_sub hl [0, 1, 2, 3, 4] rfl) 2 (by decide) hi dL_law_1040 dL_law_1041 dL_law_1043 dL_law_1044 dL_law_1045 ?_
  refine zs_arg B hS (lv_sub hl [0, 1, 2, 3, 4] rfl) 3 (by decide) hi dL_law_1046 dL_law_1047 dL_law_1049 dL_law_1050 dL_law_1051 ?_
  refine zL_mi (va_runV (As := [.int (xs (i + 1)), .int (xs (i + 2)), .int (xs (i + 3))]) (rest := [.int (spA S (xs (i + 1)) (xs (i + 2)) (xs (i + 3)))]) ⟨hx, hb, hml, hown, hts⟩ (kX4_step l E _ m0 k0 q0 t0 v0 c0 p0 s0 j0 r0 f0 g0 h0 cd n kd nz TT VV CC OO b S J RR z1 z2 z3 z4 SF SM FD hn (xs (i + 1)) (xs (i + 2)) (xs (i + 3))) (cwV 3 hts (good_app gL_law_X4_step) rfl rfl rfl (by decide +kernel) ⟨Nat.le_of_ble_eq_true rfl, Nat.le_of_ble_eq_true rfl⟩) (z_preWV (app_r hP) (D_r hD) hK 0 rfl rfl) rfl rfl hl.1 rfl (lv_room (Nat.le_of_ble_eq_true rfl)) dL_law_1052 ⟨Nat.le_trans hc (Nat.le_of_ble_eq_true rfl), Nat.le_trans hs (Nat.le_of_ble_eq_true rfl)⟩) hP hD hS hA (fun _ => rfl) (fun H locs u2 hP hD hS => ?_)
  rw [List.append_assoc] at hP hD
  refine lv_icmp_eq (tgt := 1196) hx hb dL_law_1055 (by decide) (fun _ => ?_) (fun q => absurd (rfl) q)
  exact kk _ _ _ _ _ ⟨fa, tb, st, jn, rs, lm, fh, ft, fv, kd, nz, T, V, n, b, spS S (xs (i + 1)) (xs (i + 2)) (xs (i + 3)), J, w1, w2, w3, w4, L, F, k0, q0, t0, v0, c0, p0, s0, j0, r0, f0, g0, h0, nI 0, TT, VV, CC, OO, RR, z1, z2, z3, z4, SF, SM, FD, Rl_step hR (xs (i + 1)) (xs (i + 2)) (xs (i + 3)), hP, hD⟩ hS (Nat.le_add_right _ _) (Nat.le_add_right _ _) hl
set_option maxHeartbeats 4000000 in
set_option maxRecDepth 100000 in
theorem lc_join (B : lwB p l s m c E sb Ln xs) (hV : lwV E x0 m0 o0 (lwA s) H) (hS : va_S (lwA s) s.heap H locs) (hc : cells ≤ 5000) (hs : slots ≤ 100000) (hi : i + 5 ≤ Ln) (hl : lv_has ls 8 (lvL sb x0 m0 o0 i)) (kk : lwN p l e s m below meth c Q E sb x0 m0 o0 i cells slots) : W p l e room_1 s m #[Value.ref sb] below meth c H locs cells slots Q (F0 m 1060 ls []) := by
  have B2 := B
  obtain ⟨⟨hx, hb, hml, hown, hts⟩, hK, -, -, -, hst, hG1, hG2, hG3⟩ := B2
  obtain ⟨fa, tb, st, jn, rs, lm, fh, ft, fv, kd, nz, T, V, n, b, S, J, w1, w2, w3, w4, L, F, k0, q0, t0, v0, c0, p0, s0, j0, r0, f0, g0, h0, cd, TT, VV, CC, OO, RR, z1, z2, z3, z4, SF, SM, FD, hR, hP, hD⟩ := hV
  have hA : ∀ q : Nat, s.heap.size ≤ q → lwA s q := fun q h => h
  have hn := Rl_n hR
  have hz := Rl_z hR
  have hk5 := Rl_k hR
  refine lv_aload_n hx hb dL_law_1060 rfl (lv_at hl 1 rfl) ?_
  refine zs_arg B hS (lv_sub hl [0, 1, 2, 3, 4] rfl) 1 (by decide) hi dL_law_1061 dL_law_1062 dL_law_1064 dL_law_1065 dL_law_1066 ?_
  refine zs_arg B hS (lv_sub hl [0, 1, 2, 3, 4] rfl) 2 (by decide) hi dL_law_1067 dL_law_1068 dL_law_1070 dL_law_1071 dL_law_1072 ?_
  refine zs_arg B hS (lv_sub hl [0, 1, 2, 3, 4] rfl) 3 (by decide) hi dL_law_1073 dL_law_1074 dL_law_1076 dL_law_1077 dL_law_1078 ?_
  refine zL_xi (va_runV (As := [.int (xs (i + 1)), .int (xs (i + 2)), .int (xs (i + 3))]) (rest := []) ⟨hx, hb, hml, hown, hts⟩ (kX3_join l E _ x0 fa tb st jn rs lm fh ft fv kd nz T V n b S J w1 w2 w3 w4 L hn (Rl_b hR) (Rl_S hR) (Rl_J hR) (xs (i + 1)) (xs (i + 2)) (xs (i + 3))) (cwV 3 hts (good_app gL_law_X3_join) rfl rfl rfl (by decide +kernel) ⟨Nat.le_of_ble_eq_true rfl, Nat.le_of_ble_eq_true rfl⟩) (z_preWV (app_l hP) (D_l hD) hK 0 rfl rfl) rfl rfl hl.1 rfl (lv_room (Nat.le_of_ble_eq_true rfl)) dL_law_1079 ⟨Nat.le_trans hc (Nat.le_of_ble_eq_true rfl), Nat.le_trans hs (Nat.le_of_ble_eq_true rfl)⟩) hP hD hS hA xf_fst (fun H locs hP hD hS => ?_)
  rw [← List.append_assoc] at hP hD
  refine lv_aload_n hx hb dL_law_1082 rfl (lv_at hl 2 rfl) ?_
  refine zs_arg B hS (lv_sub hl [0, 1, 2, 3, 4] rfl) 1 (by decide) hi dL_law_1083 dL_law_1084 dL_law_1086 dL_law_1087 dL_law_1088 ?_
  refine zs_arg B hS (lv_sub hl [0, 1, 2, 3, 4] rfl) 2 (by decide) hi dL_law_1089 dL_law_1090 dL_law_1092 dL_law_1093 dL_law_1094 ?_
  refine zs_arg B hS (lv_sub hl [0, 1, 2, 3, 4] rfl) 3 (by decide) hi dL_law_1095 dL_law_1096 dL_law_1098 dL_law_1099 dL_law_1100 ?_
  refine zL_mi (va_runV (As := [.int (xs (i + 1)), .int (xs (i + 2)), .int (xs (i + 3))]) (rest := [.int (jnA J (xs (i + 1)) (xs (i + 2)) (xs (i + 3)))]) ⟨hx, hb, hml, hown, hts⟩ (kX4_join l E _ m0 k0 q0 t0 v0 c0 p0 s0 j0 r0 f0 g0 h0 cd n kd nz TT VV CC OO b S J RR z1 z2 z3 z4 SF SM FD hn (xs (i + 1)) (xs (i + 2)) (xs (i + 3))) (cwV 3 hts (good_app gL_law_X4_join) rfl rfl rfl (by decide +kernel) ⟨Nat.le_of_ble_eq_true rfl, Nat.le_of_ble_eq_true rfl⟩) (z_preWV (app_r hP) (D_r hD) hK 0 rfl rfl) rfl rfl hl.1 rfl (lv_room (Nat.le_of_ble_eq_true rfl)) dL_law_1101 ⟨Nat.le_trans hc (Nat.le_of_ble_eq_true rfl), Nat.le_trans hs (Nat.le_of_ble_eq_true rfl)⟩) hP hD hS hA (fun _ => rfl) (fun H locs u2 hP hD hS => ?_)
  rw [List.append_assoc] at hP hD
  refine lv_icmp_eq (tgt := 1196) hx hb dL_law_1104 (by decide) (fun _ => ?_) (fun q => absurd (rfl) q)
  exact kk _ _ _ _ _ ⟨fa, tb, st, jn, rs, lm, fh, ft, fv, kd, nz, T, V, n, b, S, jnJ J (xs (i + 1)) (xs (i + 2)) (xs (i + 3)), w1, w2, w3, w4, L, F, k0, q0, t0, v0, c0, p0, s0, j0, r0, f0, g0, h0, nI 0, TT, VV, CC, OO, RR, z1, z2, z3, z4, SF, SM, FD, Rl_join hR (xs (i + 1)) (xs (i + 2)) (xs (i + 3)), hP, hD⟩ hS (Nat.le_add_right _ _) (Nat.le_add_right _ _) hl
set_option maxHeartbeats 4000000 in
set_option maxRecDepth 100000 in
theorem lc_state (B : lwB p l s m c E sb Ln xs) (hV : lwV E x0 m0 o0 (lwA s) H) (hS : va_S (lwA s) s.heap H locs) (hc : cells ≤ 5000) (hs : slots ≤ 100000) (hi : i + 5 ≤ Ln) (hl : lv_has ls 8 (lvL sb x0 m0 o0 i)) (kk : lwN p l e s m below meth c Q E sb x0 m0 o0 i cells slots) : W p l e room_1 s m #[Value.ref sb] below meth c H locs cells slots Q (F0 m 1109 ls []) := by
  have B2 := B
  obtain ⟨⟨hx, hb, hml, hown, hts⟩, hK, -, -, -, hst, hG1, hG2, hG3⟩ := B2
  obtain ⟨fa, tb, st, jn, rs, lm, fh, ft, fv, kd, nz, T, V, n, b, S, J, w1, w2, w3, w4, L, F, k0, q0, t0, v0, c0, p0, s0, j0, r0, f0, g0, h0, cd, TT, VV, CC, OO, RR, z1, z2, z3, z4, SF, SM, FD, hR, hP, hD⟩ := hV
  have hA : ∀ q : Nat, s.heap.size ≤ q → lwA s q := fun q h => h
  have hn := Rl_n hR
  have hz := Rl_z hR
  have hk5 := Rl_k hR
  refine lv_aload_n hx hb dL_law_1109 rfl (lv_at hl 1 rfl) ?_
  refine zs_arg B hS (lv_sub hl [0, 1, 2, 3, 4] rfl) 1 (by decide) hi dL_law_1110 dL_law_1111 dL_law_1113 dL_law_1114 dL_law_1115 ?_
  refine zc_i (W.runV (As := [.int (xs (i + 1))]) (rest := []) ⟨hx, hb, hml, hown, hts⟩ (kX3_state l E x0 fa tb st jn rs lm fh ft fv kd nz T V n b S J w1 w2 w3 w4 L hn hz hk5 (Rl_b hR) (Rl_S hR) (Rl_J hR) (Rl_o hR) (xs (i + 1))) (cwV 1 hts (good_app gL_law_X3_state) rfl rfl rfl (by decide +kernel) ⟨Nat.le_of_ble_eq_true rfl, Nat.le_of_ble_eq_true rfl⟩) (z_preV (app_l hP) hK 0 rfl rfl) rfl rfl hl.1 rfl (lv_room (Nat.le_of_ble_eq_true rfl)) dL_law_1116 ⟨Nat.le_trans hc (Nat.le_of_ble_eq_true rfl), Nat.le_trans hs (Nat.le_of_ble_eq_true rfl)⟩) ?_
  rw [← List.append_assoc] at hP hD
  refine lv_aload_n hx hb dL_law_1119 rfl (lv_at hl 2 rfl) ?_
  refine zs_arg B hS (lv_sub hl [0, 1, 2, 3, 4] rfl) 1 (by decide) hi dL_law_1120 dL_law_1121 dL_law_1123 dL_law_1124 dL_law_1125 ?_
  refine zL_mi (va_runV (As := [.int (xs (i + 1))]) (rest := [.int (aState n kd nz V b S (xs (i + 1)))]) ⟨hx, hb, hml, hown, hts⟩ (kX4_state l E _ m0 k0 q0 t0 v0 c0 p0 s0 j0 r0 f0 g0 h0 cd n kd nz TT VV CC OO b S J RR z1 z2 z3 z4 SF SM FD hn hz hk5 (Rl_b hR) (Rl_S hR) (Rl_J hR) (Rl_ov hR) (xs (i + 1))) (cwV 1 hts (good_app gL_law_X4_state) rfl rfl rfl (by decide +kernel) ⟨Nat.le_of_ble_eq_true rfl, Nat.le_of_ble_eq_true rfl⟩) (z_preWV (app_r hP) (D_r hD) hK 0 rfl rfl) rfl rfl hl.1 rfl (lv_room (Nat.le_of_ble_eq_true rfl)) dL_law_1126 ⟨Nat.le_trans hc (Nat.le_of_ble_eq_true rfl), Nat.le_trans hs (Nat.le_of_ble_eq_true rfl)⟩) hP hD hS hA (fun _ => rfl) (fun H locs u2 hP hD hS => ?_)
  rw [List.append_assoc] at hP hD
  refine lv_icmp_eq (tgt := 1196) hx hb dL_law_1129 (by decide) (fun _ => ?_) (fun q => absurd (e_state hR OO (xs (i + 1))) q)
  exact kk _ _ _ _ _ ⟨fa, tb, st, jn, rs, lm, fh, ft, fv, kd, nz, T, V, n, b, S, J, w1, w2, w3, w4, L, F, k0, q0, t0, v0, c0, p0, s0, j0, r0, f0, g0, h0, nI 0, TT, VV, CC, smO n kd nz TT VV OO (xs (i + 1)), RR, z1, z2, z3, z4, SF, SM, FD, hR, hP, hD⟩ hS (Nat.le_add_right _ _) (Nat.le_add_right _ _) hl
set_option maxHeartbeats 4000000 in
set_option maxRecDepth 100000 in
theorem lc_check (B : lwB p l s m c E sb Ln xs) (hV : lwV E x0 m0 o0 (lwA s) H) (hS : va_S (lwA s) s.heap H locs) (hc : cells ≤ 5000) (hs : slots ≤ 100000) (hi : i + 5 ≤ Ln) (hl : lv_has ls 8 (lvL sb x0 m0 o0 i)) (kk : lwN p l e s m below meth c Q E sb x0 m0 o0 i cells slots) : W p l e room_1 s m #[Value.ref sb] below meth c H locs cells slots Q (F0 m 1134 ls []) := by
  have B2 := B
  obtain ⟨⟨hx, hb, hml, hown, hts⟩, hK, -, -, -, hst, hG1, hG2, hG3⟩ := B2
  obtain ⟨fa, tb, st, jn, rs, lm, fh, ft, fv, kd, nz, T, V, n, b, S, J, w1, w2, w3, w4, L, F, k0, q0, t0, v0, c0, p0, s0, j0, r0, f0, g0, h0, cd, TT, VV, CC, OO, RR, z1, z2, z3, z4, SF, SM, FD, hR, hP, hD⟩ := hV
  have hA : ∀ q : Nat, s.heap.size ≤ q → lwA s q := fun q h => h
  have hn := Rl_n hR
  have hz := Rl_z hR
  have hk5 := Rl_k hR
  refine lv_aload_n hx hb dL_law_1134 rfl (lv_at hl 1 rfl) ?_
  refine zs_arg B hS (lv_sub hl [0, 1, 2, 3, 4] rfl) 1 (by decide) hi dL_law_1135 dL_law_1136 dL_law_1138 dL_law_1139 dL_law_1140 ?_
  refine zL_xi (va_runV (As := [.int (xs (i + 1))]) (rest := []) ⟨hx, hb, hml, hown, hts⟩ (kX3_check l E _ x0 fa tb st jn rs lm fh ft fv kd nz T V n b S J w1 w2 w3 w4 L hn (Rl_b hR) (Rl_S hR) (Rl_J hR) (xs (i + 1))) (cwV 1 hts (good_app gL_law_X3_check) rfl rfl rfl (by decide +kernel) ⟨Nat.le_of_ble_eq_true rfl, Nat.le_of_ble_eq_true rfl⟩) (z_preWV (app_l hP) (D_l hD) hK 0 rfl rfl) rfl rfl hl.1 rfl (lv_room (Nat.le_of_ble_eq_true rfl)) dL_law_1141 ⟨Nat.le_trans hc (Nat.le_of_ble_eq_true rfl), Nat.le_trans hs (Nat.le_of_ble_eq_true rfl)⟩) hP hD hS hA xf_fst (fun H locs hP hD hS => ?_)
  rw [← List.append_assoc] at hP hD
  refine lv_aload_n hx hb dL_law_1144 rfl (lv_at hl 2 rfl) ?_
  refine zs_arg B hS (lv_sub hl [0, 1, 2, 3, 4] rfl) 1 (by decide) hi dL_law_1145 dL_law_1146 dL_law_1148 dL_law_1149 dL_law_1150 ?_
  refine zL_mi (va_runV (As := [.int (xs (i + 1))]) (rest := [.int (ckA S J b (xs (i + 1)))]) ⟨hx, hb, hml, hown, hts⟩ (kX4_check l E _ m0 k0 q0 t0 v0 c0 p0 s0 j0 r0 f0 g0 h0 cd n kd nz TT VV CC OO b S J RR z1 z2 z3 z4 SF SM FD hn (Rl_b hR) (Rl_S hR) (Rl_J hR) (xs (i + 1))) (cwV 1 hts (good_app gL_law_X4_check) rfl rfl rfl (by decide +kernel) ⟨Nat.le_of_ble_eq_true rfl, Nat.le_of_ble_eq_true rfl⟩) (z_preWV (app_r hP) (D_r hD) hK 0 rfl rfl) rfl rfl hl.1 rfl (lv_room (Nat.le_of_ble_eq_true rfl)) dL_law_1151 ⟨Nat.le_trans hc (Nat.le_of_ble_eq_true rfl), Nat.le_trans hs (Nat.le_of_ble_eq_true rfl)⟩) hP hD hS hA (fun _ => rfl) (fun H locs u2 hP hD hS => ?_)
  rw [List.append_assoc] at hP hD
  refine lv_icmp_eq (tgt := 1196) hx hb dL_law_1154 (by decide) (fun _ => ?_) (fun q => absurd (e_check hR RR (z1, z2, z3, z4) (xs (i + 1))) q)
  exact kk _ _ _ _ _ ⟨fa, tb, st, jn, rs, lm, fh, ft, fv, kd, nz, T, V, n, b, S, J, (ckW S J b (w1, w2, w3, w4) (xs (i + 1))).1, (ckW S J b (w1, w2, w3, w4) (xs (i + 1))).2.1, (ckW S J b (w1, w2, w3, w4) (xs (i + 1))).2.2.1, (ckW S J b (w1, w2, w3, w4) (xs (i + 1))).2.2.2, L, F, k0, q0, t0, v0, c0, p0, s0, j0, r0, f0, g0, h0, nI 0, TT, VV, CC, OO, mckR S b RR (xs (i + 1)), (mckW S J b RR (z1, z2, z3, z4) (xs (i + 1))).1, (mckW S J b RR (z1, z2, z3, z4) (xs (i + 1))).2.1, (mckW S J b RR (z1, z2, z3, z4) (xs (i + 1))).2.2.1, (mckW S J b RR (z1, z2, z3, z4) (xs (i + 1))).2.2.2, SF, SM, FD, hR, hP, hD⟩ hS (Nat.le_add_right _ _) (Nat.le_add_right _ _) hl
set_option maxHeartbeats 4000000 in
set_option maxRecDepth 100000 in
theorem lc_joined (B : lwB p l s m c E sb Ln xs) (hV : lwV E x0 m0 o0 (lwA s) H) (hS : va_S (lwA s) s.heap H locs) (hc : cells ≤ 5000) (hs : slots ≤ 100000) (hi : i + 5 ≤ Ln) (hl : lv_has ls 8 (lvL sb x0 m0 o0 i)) (kk : lwN p l e s m below meth c Q E sb x0 m0 o0 i cells slots) : W p l e room_1 s m #[Value.ref sb] below meth c H locs cells slots Q (F0 m 1159 ls []) := by
  have B2 := B
  obtain ⟨⟨hx, hb, hml, hown, hts⟩, hK, -, -, -, hst, hG1, hG2, hG3⟩ := B2
  obtain ⟨fa, tb, st, jn, rs, lm, fh, ft, fv, kd, nz, T, V, n, b, S, J, w1, w2, w3, w4, L, F, k0, q0, t0, v0, c0, p0, s0, j0, r0, f0, g0, h0, cd, TT, VV, CC, OO, RR, z1, z2, z3, z4, SF, SM, FD, hR, hP, hD⟩ := hV
  have hA : ∀ q : Nat, s.heap.size ≤ q → lwA s q := fun q h => h
  have hn := Rl_n hR
  have hz := Rl_z hR
  have hk5 := Rl_k hR
  refine lv_aload_n hx hb dL_law_1159 rfl (lv_at hl 1 rfl) ?_
  refine zs_arg B hS (lv_sub hl [0, 1, 2, 3, 4] rfl) 1 (by decide) hi dL_law_1160 dL_law_1161 dL_law_1163 dL_law_1164 dL_law_1165 ?_
  refine zs_arg B hS (lv_sub hl [0, 1, 2, 3, 4] rfl) 2 (by decide) hi dL_law_1166 dL_law_1167 dL_law_1169 dL_law_1170 dL_law_1171 ?_
  refine zc_i (W.runV (As := [.int (xs (i + 1)), .int (xs (i + 2))]) (rest := []) ⟨hx, hb, hml, hown, hts⟩ (kX3_joined l E x0 fa tb st jn rs lm fh ft fv kd nz T V n b S J w1 w2 w3 w4 L hn hz hk5 (Rl_b hR) (Rl_S hR) (Rl_J hR) (Rl_o hR) (xs (i + 1)) (xs (i + 2))) (cwV 2 hts (good_app gL_law_X3_joined) rfl rfl rfl (by decide +kernel) ⟨Nat.le_of_ble_eq_true rfl, Nat.le_of_ble_eq_true rfl⟩) (z_preV (app_l hP) hK 0 rfl rfl) rfl rfl hl.1 rfl (lv_room (Nat.le_of_ble_eq_true rfl)) dL_law_1172 ⟨Nat.le_trans hc (Nat.le_of_ble_eq_true rfl), Nat.le_trans hs (Nat.le_of_ble_eq_true rfl)⟩) ?_
  rw [← List.append_assoc] at hP hD
  refine lv_aload_n hx hb dL_law_1175 rfl (lv_at hl 2 rfl) ?_
  refine zs_arg B hS (lv_sub hl [0, 1, 2, 3, 4] rfl) 1 (by decide) hi dL_law_1176 dL_law_1177 dL_law_1179 dL_law_1180 dL_law_1181 ?_
  refine zs_arg B hS (lv_sub hl [0, 1, 2, 3, 4] rfl) 2 (by decide) hi dL_law_1182 dL_law_1183 dL_law_1185 dL_law_1186 dL_law_1187 ?_
  refine zL_mi (va_runV (As := [.int (xs (i + 1)), .int (xs (i + 2))]) (rest := [.int (aJoined n kd nz V b S J (xs (i + 1)) (xs (i + 2)))]) ⟨hx, hb, hml, hown, hts⟩ (kX4_joined l E _ m0 k0 q0 t0 v0 c0 p0 s0 j0 r0 f0 g0 h0 cd n kd nz TT VV CC OO b S J RR z1 z2 z3 z4 SF SM FD hn hz hk5 (Rl_b hR) (Rl_S hR) (Rl_J hR) (Rl_ov hR) (xs (i + 1)) (xs (i + 2))) (cwV 2 hts (good_app gL_law_X4_joined) rfl rfl rfl (by decide +kernel) ⟨Nat.le_of_ble_eq_true rfl, Nat.le_of_ble_eq_true rfl⟩) (z_preWV (app_r hP) (D_r hD) hK 0 rfl rfl) rfl rfl hl.1 rfl (lv_room (Nat.le_of_ble_eq_true rfl)) dL_law_1188 ⟨Nat.le_trans hc (Nat.le_of_ble_eq_true rfl), Nat.le_trans hs (Nat.le_of_ble_eq_true rfl)⟩) hP hD hS hA (fun _ => rfl) (fun H locs u2 hP hD hS => ?_)
  rw [List.append_assoc] at hP hD
  refine lv_icmp_eq (tgt := 1196) hx hb dL_law_1191 (by decide) (fun _ => ?_) (fun q => absurd (e_joined hR OO (xs (i + 1)) (xs (i + 2))) q)
  exact kk _ _ _ _ _ ⟨fa, tb, st, jn, rs, lm, fh, ft, fv, kd, nz, T, V, n, b, S, J, w1, w2, w3, w4, L, F, k0, q0, t0, v0, c0, p0, s0, j0, r0, f0, g0, h0, nI 0, TT, VV, CC, smJ n kd nz TT VV OO (xs (i + 1)) (xs (i + 2)), RR, z1, z2, z3, z4, u2.1, u2.2.1, u2.2.2, hR, hP, hD⟩ hS (Nat.le_add_right _ _) (Nat.le_add_right _ _) hl
end CASES
