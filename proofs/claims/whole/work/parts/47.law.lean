/-! the law: what stands throughout, the script, calls on either side -/
def wsL_all : List Cond := wsL_law ++ (Cond.classLink RL 13 RJx00060 :: wsIOB)
theorem wsL_all_in : ∀ w ∈ wsL_all, w ∈ lw_tbl := by
  intro w hw
  rcases List.mem_append.mp hw with h | h
  · exact wsL_law_in w h
  · revert w; decide +kernel
theorem gL_law_L_limbT : GoodIn wsL_all (va_wsS RL 65 yL_limb wsL_limbT) := by
  intro w hw
  rcases List.mem_append.mp hw with h | h
  · exact good_app gL_law_L_limb w (List.mem_append_left _ h)
  · rcases List.mem_append.mp h with h | h
    · exact good_app gL_law_L_limb w (List.mem_append_right _ h)
    · refine ⟨List.mem_append_right _ h, good_of_word ?_⟩
      rcases List.mem_cons.mp h with h | h
      · rw [h]; decide +kernel
      · exact (List.mem_filter.mp h).2
def lwA (s : State) : Nat → Prop := fun q => s.heap.size ≤ q
def lwB (p : Program) (l : Launch) (s : State) (m : MethodId) (c : Code) (E : zE) (sb Ln : Nat) (xs : Nat → Int32) : Prop := CallFix p m c cL_law 8 s #[Value.ref sb] wsL_all RL ∧ zK E s ∧ va_X sb Ln xs s s.heap ∧ sb < s.heap.size ∧ Ln ≤ 2560 ∧ l.stackTraces = false ∧ gTh 73 RJx00060 tIOB yIOB (lwA s) s ∧ gTh 90 cAE "no rows, no mean" yAE (lwA s) s ∧ gTh 101 cAE "no rows, no spread" yAE (lwA s) s
abbrev lvL (sb x0 m0 o0 i : Nat) : List (Nat × Value) := [(0, .ref sb), (1, .ref x0), (2, .ref m0), (3, .ref o0), (4, .int (nI i))]
/-- the class, the row of one long, the model; both hold the same rows -/
def lwV (E : zE) (x0 m0 o0 : Nat) (A : Nat → Prop) (H : Heap) : Prop := ∃ (fa tb st jn rs lm : Nat) (fh ft fv kd nz : Nat → Nat) (T : Nat → Nat → Int32) (V : Nat → Nat → Int64) (n b : Nat) (S J : Nat → Nat) (w1 w2 w3 w4 : Int32) (L : Nat → Int64) (F : Nat → Int64) (k0 q0 t0 v0 c0 p0 s0 j0 r0 f0 g0 h0 : Nat) (cd : Int32) (TT : Nat → Int32) (VV CC : Nat → Int64) (OO : Nat → Nat) (RR : Nat → Bool) (z1 z2 z3 z4 : Int32) (SF SM FD : Nat → Nat), Rl n kd nz T V TT VV b S J ∧ va_P E.1 vwCl ((xB E x0 fa tb st jn rs lm fh n b S J w1 w2 w3 w4 L ++ fP E fh ft fv kd nz T V n) ++ (oW E o0 F ++ mW E m0 k0 q0 t0 v0 c0 p0 s0 j0 r0 f0 g0 h0 cd n kd nz TT VV CC OO b S J RR z1 z2 z3 z4 SF SM FD)) H ∧ va_D A ((xB E x0 fa tb st jn rs lm fh n b S J w1 w2 w3 w4 L ++ fP E fh ft fv kd nz T V n) ++ (oW E o0 F ++ mW E m0 k0 q0 t0 v0 c0 p0 s0 j0 r0 f0 g0 h0 cd n kd nz TT VV CC OO b S J RR z1 z2 z3 z4 SF SM FD))
def lgv (xs : Nat → Int32) (j : Nat) : Int64 := jshl (xs j).toInt64 (nI 32) ||| ((xs (j + 1)).toInt64 &&& 4294967295)
theorem xf_fst {E : zE} {x0 fa tb st jn rs lm : Nat} {fh ft fv kd nz kd' nz' : Nat → Nat} {T T' : Nat → Nat → Int32} {V V' : Nat → Nat → Int64} {n b b' : Nat} {S J S' J' : Nat → Nat} {w1 w2 w3 w4 w1' w2' w3' w4' : Int32} {L L' : Nat → Int64} : (xB E x0 fa tb st jn rs lm fh n b' S' J' w1' w2' w3' w4' L' ++ fP E fh ft fv kd' nz' T' V' n).map Prod.fst = (xB E x0 fa tb st jn rs lm fh n b S J w1 w2 w3 w4 L ++ fP E fh ft fv kd nz T V n).map Prod.fst := by
  rw [List.map_append, List.map_append, fP_fst (kd := kd) (sz := nz) (T := T) (V := V)]
  exact congrArg (fun z => z ++ (fP E fh ft fv kd nz T V n).map Prod.fst) rfl
section LAW
variable {p : Program} {l : Launch} {e : Env} {R : Room} {s : State} {m : MethodId} {args : Array Value} {below : List Frame} {meth : Method} {c : Code} {H : Heap} {locs : List Loc} {cells slots : Nat} {Q : State → Prop} {ls : Array Slot} {pc : Nat} {rest st0 : List Value} {E : zE} {A : Nat → Prop} {a : Array Value} {sb Ln x0 m0 o0 i : Nat} {xs : Nat → Int32}
theorem zL_xi {mc ms : Nat} {X X' Y : va_W} {v : Int32} (hr : va_Run p l e R s m args below meth c H locs cells slots mc ms (F0 m pc ls st0) rest (va_Qi (fun (r : Int32) (_ : Unit) => r = v) (fun _ t => zW E X' t) (va_A X H.size) a) (va_A X H.size)) (hP : va_P E.1 vwCl (X ++ Y) H) (hD : va_D A (X ++ Y)) (hS : va_S A s.heap H locs) (hA : ∀ q : Nat, s.heap.size ≤ q → A q) (he : X'.map Prod.fst = X.map Prod.fst) (kk : ∀ (H1 : Heap) (locs1 : List Loc), va_P E.1 vwCl (X' ++ Y) H1 → va_D A (X' ++ Y) → va_S A s.heap H1 locs1 → W p l e R s m args below meth c H1 locs1 (cells + mc) (slots + ms) Q (F0 m (pc + 3) ls (.int v :: rest))) : W p l e R s m args below meth c H locs cells slots Q (F0 m pc ls st0) := by
  have hFc : ∀ q, va_A X H.size q → A q := x_free hD hS hA (fun k q h => ⟨k, (x_l h).1⟩)
  refine va_calli hr hS (fun q _ h => hFc q h) hFc (fun r u t H1 locs1 ht hvm hw hB hz1 hk1 hS1 => ?_)
  have hDx : va_D (va_A X H.size) X := ⟨(D_l hD).1, fun k q h => Or.inl ⟨k, q.2, h⟩⟩
  obtain ⟨hP2, hD2⟩ := z_app1 hP hD hk1 hFc (by rw [← ht]; exact hB.1) (z_Da hDx he)
  subst hw
  exact kk H1 locs1 hP2 hD2 hS1
theorem zL_xl {mc ms : Nat} {X X' Y : va_W} {v : Int64} (hr : va_Run p l e R s m args below meth c H locs cells slots mc ms (F0 m pc ls st0) rest (va_Ql (fun (r : Int64) (_ : Unit) => r = v) (fun _ t => zW E X' t) (va_A X H.size) a) (va_A X H.size)) (hP : va_P E.1 vwCl (X ++ Y) H) (hD : va_D A (X ++ Y)) (hS : va_S A s.heap H locs) (hA : ∀ q : Nat, s.heap.size ≤ q → A q) (he : X'.map Prod.fst = X.map Prod.fst) (kk : ∀ (H1 : Heap) (locs1 : List Loc), va_P E.1 vwCl (X' ++ Y) H1 → va_D A (X' ++ Y) → va_S A s.heap H1 locs1 → W p l e R s m args below meth c H1 locs1 (cells + mc) (slots + ms) Q (F0 m (pc + 3) ls (.long v :: rest))) : W p l e R s m args below meth c H locs cells slots Q (F0 m pc ls st0) := by
  have hFc : ∀ q, va_A X H.size q → A q := x_free hD hS hA (fun k q h => ⟨k, (x_l h).1⟩)
  refine va_calll hr hS (fun q _ h => hFc q h) hFc (fun r u t H1 locs1 ht hvm hw hB hz1 hk1 hS1 => ?_)
  have hDx : va_D (va_A X H.size) X := ⟨(D_l hD).1, fun k q h => Or.inl ⟨k, q.2, h⟩⟩
  obtain ⟨hP2, hD2⟩ := z_app1 hP hD hk1 hFc (by rw [← ht]; exact hB.1) (z_Da hDx he)
  subst hw
  exact kk H1 locs1 hP2 hD2 hS1
theorem zL_xf {α : Type} {mc ms : Nat} {X Y : va_W} {X' : α → va_W} {v : Int32} (hr : va_Run p l e R s m args below meth c H locs cells slots mc ms (F0 m pc ls st0) rest (va_Qi (fun (r : Int32) (_ : α) => r = v) (fun u t => zW E (X' u) t ∧ va_D (va_A X H.size) (X' u)) (va_A X H.size) a) (va_A X H.size)) (hP : va_P E.1 vwCl (X ++ Y) H) (hD : va_D A (X ++ Y)) (hS : va_S A s.heap H locs) (hA : ∀ q : Nat, s.heap.size ≤ q → A q) (kk : ∀ (H1 : Heap) (locs1 : List Loc) (u : α), va_P E.1 vwCl (X' u ++ Y) H1 → va_D A (X' u ++ Y) → va_S A s.heap H1 locs1 → W p l e R s m args below meth c H1 locs1 (cells + mc) (slots + ms) Q (F0 m (pc + 3) ls (.int v :: rest))) : W p l e R s m args below meth c H locs cells slots Q (F0 m pc ls st0) := by
  have hFc : ∀ q, va_A X H.size q → A q := x_free hD hS hA (fun k q h => ⟨k, (x_l h).1⟩)
  refine va_calli hr hS (fun q _ h => hFc q h) hFc (fun r u t H1 locs1 ht hvm hw hB hz1 hk1 hS1 => ?_)
  obtain ⟨hP2, hD2⟩ := z_app1 hP hD hk1 hFc (by rw [← ht]; exact hB.1.1) hB.2
  subst hw
  exact kk H1 locs1 u hP2 hD2 hS1
theorem zL_mi {α : Type} {Y X : va_W} {X' : α → va_W} {v : Int32} (hr : va_Run p l e R s m args below meth c H locs cells slots 0 0 (F0 m pc ls st0) rest (va_Qi (fun (r : Int32) (_ : α) => r = v) (fun u t => zW E (X' u) t) (va_A X H.size) a) (va_A X H.size)) (hP : va_P E.1 vwCl (Y ++ X) H) (hD : va_D A (Y ++ X)) (hS : va_S A s.heap H locs) (hA : ∀ q : Nat, s.heap.size ≤ q → A q) (he : ∀ u, (X' u).map Prod.fst = X.map Prod.fst) (kk : ∀ (H1 : Heap) (locs1 : List Loc) (u : α), va_P E.1 vwCl (Y ++ X' u) H1 → va_D A (Y ++ X' u) → va_S A s.heap H1 locs1 → W p l e R s m args below meth c H1 locs1 cells slots Q (F0 m (pc + 3) ls (.int v :: rest))) : W p l e R s m args below meth c H locs cells slots Q (F0 m pc ls st0) := by
  have hFc : ∀ q, va_A X H.size q → A q := x_free hD hS hA (fun k q h => ⟨Y.length + k, by rw [List.getElem?_append_right (by omega), show Y.length + k - Y.length = k by omega]; exact h⟩)
  refine va_calli hr hS (fun q _ h => hFc q h) hFc (fun r u t H1 locs1 ht hvm hw hB hz1 hk1 hS1 => ?_)
  have hDx : va_D (va_A X H.size) X := ⟨(D_r hD).1, fun k q h => Or.inl ⟨k, q.2, h⟩⟩
  obtain ⟨hP2, hD2⟩ := z_app2 hP hD hk1 hFc (by rw [← ht]; exact hB.1) (z_Da hDx (he u))
  subst hw
  exact kk H1 locs1 u hP2 hD2 hS1
theorem zL_ml {α : Type} {Y X : va_W} {X' : α → va_W} {v : Int64} (hr : va_Run p l e R s m args below meth c H locs cells slots 0 0 (F0 m pc ls st0) rest (va_Ql (fun (r : Int64) (_ : α) => r = v) (fun u t => zW E (X' u) t) (va_A X H.size) a) (va_A X H.size)) (hP : va_P E.1 vwCl (Y ++ X) H) (hD : va_D A (Y ++ X)) (hS : va_S A s.heap H locs) (hA : ∀ q : Nat, s.heap.size ≤ q → A q) (he : ∀ u, (X' u).map Prod.fst = X.map Prod.fst) (kk : ∀ (H1 : Heap) (locs1 : List Loc) (u : α), va_P E.1 vwCl (Y ++ X' u) H1 → va_D A (Y ++ X' u) → va_S A s.heap H1 locs1 → W p l e R s m args below meth c H1 locs1 cells slots Q (F0 m (pc + 3) ls (.long v :: rest))) : W p l e R s m args below meth c H locs cells slots Q (F0 m pc ls st0) := by
  have hFc : ∀ q, va_A X H.size q → A q := x_free hD hS hA (fun k q h => ⟨Y.length + k, by rw [List.getElem?_append_right (by omega), show Y.length + k - Y.length = k by omega]; exact h⟩)
  refine va_calll hr hS (fun q _ h => hFc q h) hFc (fun r u t H1 locs1 ht hvm hw hB hz1 hk1 hS1 => ?_)
  have hDx : va_D (va_A X H.size) X := ⟨(D_r hD).1, fun k q h => Or.inl ⟨k, q.2, h⟩⟩
  obtain ⟨hP2, hD2⟩ := z_app2 hP hD hk1 hFc (by rw [← ht]; exact hB.1) (z_Da hDx (he u))
  subst hw
  exact kk H1 locs1 u hP2 hD2 hS1
/-- one int of the script -/
theorem zs_arg (B : lwB p l s m c E sb Ln xs) (hS : va_S (lwA s) s.heap H locs) (hl : lv_has ls 8 (lvL sb x0 m0 o0 i)) (k : Nat) (hk : k < 5) (hi : i + 5 ≤ Ln) (d0 : decode cL_law pc = .ok (.aload_n 0, 1)) (d1 : decode cL_law (pc + 1) = .ok (.iload 4, 2)) (d2 : decode cL_law (pc + 3) = .ok (.iconst (k : Int), 1)) (d3 : decode cL_law (pc + 4) = .ok (.iadd, 1)) (d4 : decode cL_law (pc + 5) = .ok (.iaload, 1)) (kk : W p l e R s m args below meth c H locs cells slots Q (F0 m (pc + 6) ls (.int (xs (i + k)) :: rest))) : W p l e R s m args below meth c H locs cells slots Q (F0 m pc ls rest) := by
  obtain ⟨⟨hx, hb, hml, hown, hts⟩, hK, hX, hbl, hL, -⟩ := B
  have hbA : ¬ lwA s sb := fun q => Nat.not_lt.mpr q hbl
  refine lv_aload_n hx hb d0 rfl (lv_at hl 0 rfl) ?_
  refine lv_iload hx hb d1 (lv_at hl 4 rfl) ?_
  refine lv_iconst (v := nI k) hx hb d2 (z_ofInt k) ?_
  refine zn_iadd hx hb d3 ?_
  refine va_sld hx hb hX hbl hbA hS (vp_in_nI (by omega) (by omega)) d4 ?_
  rw [nI_clamp (by omega)]
  exact kk
/-- two ints of the script: one long -/
theorem zs_long (B : lwB p l s m c E sb Ln xs) (hS : va_S (lwA s) s.heap H locs) (hl : lv_has ls 8 (lvL sb x0 m0 o0 i)) (k : Nat) (hk : k < 4) (hi : i + 5 ≤ Ln) (d0 : decode cL_law pc = .ok (.aload_n 0, 1)) (d1 : decode cL_law (pc + 1) = .ok (.iload 4, 2)) (d2 : decode cL_law (pc + 3) = .ok (.iconst (k : Int), 1)) (d3 : decode cL_law (pc + 4) = .ok (.iadd, 1)) (d4 : decode cL_law (pc + 5) = .ok (.iaload, 1)) (d5 : decode cL_law (pc + 6) = .ok (.i2l, 1)) (d6 : decode cL_law (pc + 7) = .ok (.bipush 32, 2)) (d7 : decode cL_law (pc + 9) = .ok (.lshl, 1)) (d8 : decode cL_law (pc + 10) = .ok (.aload_n 0, 1)) (d9 : decode cL_law (pc + 11) = .ok (.iload 4, 2)) (da : decode cL_law (pc + 13) = .ok (.iconst ((k + 1 : Nat) : Int), 1)) (db : decode cL_law (pc + 14) = .ok (.iadd, 1)) (dc : decode cL_law (pc + 15) = .ok (.iaload, 1)) (dd : decode cL_law (pc + 16) = .ok (.i2l, 1)) (de : decode cL_law (pc + 17) = .ok (.ldc2_w 33, 3)) (df : decode cL_law (pc + 20) = .ok (.land, 1)) (dg : decode cL_law (pc + 21) = .ok (.lor, 1)) (hargs : args = #[Value.ref sb]) (kk : W p l e R s m args below meth c H locs cells slots Q (F0 m (pc + 22) ls (.long (lgv xs (i + k)) :: rest))) : W p l e R s m args below meth c H locs cells slots Q (F0 m pc ls rest) := by
  refine zs_arg B hS hl k (by omega) hi d0 d1 d2 d3 d4 ?_
  have B2 := B
  obtain ⟨⟨hx, hb, hml, hown, hts⟩, hK, hX, hbl, hL, -⟩ := B
  refine lv_i2l hx hb d5 rfl ?_
  refine lv_bipush (v := nI 32) hx hb d6 (by decide) ?_
  refine lv_lshl (v := jshl (xs (i + k)).toInt64 (nI 32)) hx hb d7 rfl ?_
  refine zs_arg B2 hS hl (k + 1) (by omega) hi d8 d9 da db dc ?_
  refine lv_i2l hx hb dd rfl ?_
  subst hargs
  refine lv_ldc2 (v := 4294967295) hx hb hown (hts (.constantLong RL 33 (4294967295)) (List.mem_append_left _ (by decide +kernel))) de ?_
  refine lv_land hx hb df ?_
  refine lv_lor hx hb dg ?_
  exact kk
end LAW
