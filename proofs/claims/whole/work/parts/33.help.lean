/-! the law's helpers: what the class throws is caught -/
abbrev oW (E : zE) (o : Nat) (F : Nat → Int64) : va_W := [(o, .inl (E.2.2.1, 1, .inr (.inl F)))]
def oF (F : Nat → Int64) (thr : Int32) (v : Int64) : Nat → Int64 := if thr = nI 1 then F else vp_updL F 0 v
theorem z_ofHi {l : Launch} {y : MethodName} {ws ws' : List Cond} {fr mc ms : Nat} {E : zE} {wc wc' : va_W} {av : List Value} {G : Nat → State → Prop} {sz : Nat} {v : Int32} {cc : ByteArray} {maxL : Nat} {own : String} {hh : List (Nat × Nat × Nat × Nat)} (hy : plainName y.cls = true) (hw : ws = Cond.codeWith y cc maxL (some .int) hh :: ws') (hown : y.cls = own) (hlen : (lg_sl av).length ≤ maxL)
    (body : ∀ (p : Program) (e : Env) (s : State) (m : MethodId) (args : Array Value) (below : List Frame) (meth : Method) (c : Code) (R : Room) (Q : State → Prop) (A : Nat → Prop), R = rmC fr mc ms → zB p s m c args cc maxL own ws E R (rmC fr mc ms) → c.exceptionTable.toList = tableOf hh → A = va_A wc s.heap.size → G s.heap.size s → va_P E.1 vwCl wc s.heap → va_D A wc → (∀ q : Nat, s.heap.size ≤ q → A q) →
      (∀ (pc : Nat) (ls : Array Slot) (H : Heap) (locs : List Loc), va_P E.1 vwCl wc' H → va_S A s.heap H locs → decode cc pc = .ok (.ireturn, 1) → W p l e R s m args below meth c H locs mc ms Q (F0 m pc ls [.int v])) →
      ∀ ls : Array Slot, lv_has ls maxL (lv_args 0 av) → W p l e R s m args below meth c s.heap [] 0 0 Q (F0 m 0 ls [])) :
    Met l y ws (rmC fr mc ms) (va_Pc av (fun U => zS E wc sz U ∧ G sz U)) (va_Qi (fun (r : Int32) (_ : Unit) => r = v) (fun _ t => zW E wc' t) (va_A wc sz)) mc ms (va_A wc sz) := by
  refine va_MetW (cc := cc) (maxL := maxL) (ret := some .int) (hh := hh) hy hw ?_
  intro p e s m args below meth c s₁ B hml hv
  obtain ⟨rfl, ⟨hsz, ⟨hP, hK⟩, hD0⟩, hG⟩ := hv
  have hl := lv_entry av (n := maxL) hlen
  rw [lg_entry_eq]
  subst hsz
  have hts : ∀ w ∈ ws, w.before _ s = true := atoms_spec (ws := ws) B.pre
  refine body p e s m _ below meth c _ _ (va_A wc s.heap.size) rfl ⟨B.exec, B.bytes, hml, ?_, hts, hK, Nat.le_refl _, Nat.le_refl _⟩ (vx_table (x := y) B (hts _ (by rw [hw]; exact List.mem_cons_self))) rfl hG hP (hD0.self (sz := s.heap.size)) (fun q h => Or.inr h) ?_ _ hl
  · rw [← hown]; exact findClass_of_methodNamed B.named
  · intro pc ls H1 locs1 hP1 hS1 hd
    exact W.iret B.exec B.bytes B.returns (fun t ht hW => ⟨⟨v, (), rfl, rfl, by rw [ht]; exact hP1, hK.warm hW⟩, hS1.F ht⟩) hS1.2.2 hd (hlocks := B.notSynchronized)
def wsL_limbT : List Cond := wsL_limb ++ (Cond.classLink RL 13 RJx00060 :: wsIOB)
theorem gL_limbT_X3_limb : GoodIn wsL_limbT (wsV RL 7 RX3 yX3_limb wsX3_limbT) := by
  intro w hw
  rcases List.mem_append.mp hw with h | h
  · exact good_app gL_limb_X3_limb w (List.mem_append_left _ h)
  · rcases List.mem_append.mp h with h | h
    · exact good_app gL_limb_X3_limb w (List.mem_append_right _ h)
    · exact ⟨List.mem_append_right _ (List.mem_cons_of_mem _ h), good_of_word (List.mem_filter.mp h).2⟩
theorem A_mono {v1 v2 : va_W} {n : Nat} : ∀ q, va_A v1 n q → va_A (v1 ++ v2) n q := by
  rintro q (⟨k, e, h⟩ | h)
  · exact Or.inl ⟨k, e, (x_l h).1⟩
  · exact Or.inr h
theorem lmC_01 {n : Nat} {kd : Nat → Nat} {f k : Int32} (_ : Unit) : lmC n kd f k = nI 0 ∨ lmC n kd f k = nI 1 := by
  unfold lmC
  cases fok n kd f 0 with
  | none => exact Or.inl rfl
  | some j =>
    show (if k < 0 ∨ nI 2 < k then nI 1 else nI 0) = nI 0 ∨ (if k < 0 ∨ nI 2 < k then nI 1 else nI 0) = nI 1
    split
    · exact Or.inr rfl
    · exact Or.inl rfl
theorem mnC_01 {n : Nat} {kd nz : Nat → Nat} {f k : Int32} (_ : Unit) : mnC n kd nz f k = nI 0 ∨ mnC n kd nz f k = nI 1 := by
  unfold mnC
  cases fok n kd f 2 with
  | none => exact Or.inl rfl
  | some j =>
    show (if k < 0 ∨ nI 1 < k then nI 0 else if nz j = 0 then nI 1 else nI 0) = nI 0 ∨ (if k < 0 ∨ nI 1 < k then nI 0 else if nz j = 0 then nI 1 else nI 0) = nI 1
    split
    · exact Or.inl rfl
    · split
      · exact Or.inr rfl
      · exact Or.inl rfl
set_option maxHeartbeats 4000000 in
set_option maxRecDepth 100000 in
theorem kL_limb (l : Launch) (hst : l.stackTraces = false) (E : zE) (sz : Nat) (x0 fa tb st jn rs lm : Nat) (fh ft fv kd nz : Nat → Nat) (T : Nat → Nat → Int32) (V : Nat → Nat → Int64) (n b : Nat) (S J : Nat → Nat) (w1 w2 w3 w4 : Int32) (L : Nat → Int64) (hn : n ≤ 12) (hz : ∀ j, j < n → nz j ≤ 64) (hk5 : ∀ j, j < n → kd j < 5) (f k : Int32) (o : Nat) (F : Nat → Int64) : Met l yL_limb wsL_limbT (rmC 11 1 6) (va_Pc [.ref x0, .int f, .int k, .ref o] (fun U => zS E ((xB E x0 fa tb st jn rs lm fh n b S J w1 w2 w3 w4 L ++ fP E fh ft fv kd nz T V n) ++ oW E o F) sz U ∧ gTh 73 RJx00060 tIOB yIOB (va_A ((xB E x0 fa tb st jn rs lm fh n b S J w1 w2 w3 w4 L ++ fP E fh ft fv kd nz T V n) ++ oW E o F) sz) U)) (va_Qi (fun (r9 : Int32) (_ : Unit) => r9 = lmC n kd f k) (fun _ t9 => zW E ((xB E x0 fa tb st jn rs lm fh n b S J w1 w2 w3 w4 L ++ fP E fh ft fv kd nz T V n) ++ oW E o (oF F (lmC n kd f k) ((lmA n kd nz V f k).toInt64))) t9) (va_A ((xB E x0 fa tb st jn rs lm fh n b S J w1 w2 w3 w4 L ++ fP E fh ft fv kd nz T V n) ++ oW E o F) sz)) 1 6 (va_A ((xB E x0 fa tb st jn rs lm fh n b S J w1 w2 w3 w4 L ++ fP E fh ft fv kd nz T V n) ++ oW E o F) sz) := by
  refine z_ofHi (G := fun z U => gTh 73 RJx00060 tIOB yIOB (va_A ((xB E x0 fa tb st jn rs lm fh n b S J w1 w2 w3 w4 L ++ fP E fh ft fv kd nz T V n) ++ oW E o F) z) U) (cc := cL_limb) (maxL := 5) (own := RL) (hh := [(0, 10, 13, 13)]) (by decide) rfl rfl (Nat.le_of_ble_eq_true rfl) ?_
  intro p e s m args below meth c R Q A hR B htab hAe hG hP hD hA ret ls hl
  subst hR
  obtain ⟨hx, hb, hml, hown, hts, hK, hRf, hRl⟩ := B
  have hS : va_S A s.heap s.heap [] := va_S.rf
  have hl : lv_has ls 5 [(0, .ref x0), (1, .int f), (2, .int k), (3, .ref o)] := hl
  refine lv_aload_n hx hb dL_limb_0 rfl (lv_at hl 3 rfl) ?_
  refine lv_iconst (v := nI 0) hx hb dL_limb_1 (by decide) ?_
  refine lv_aload_n hx hb dL_limb_2 rfl (lv_at hl 0 rfl) ?_
  refine lv_iload_n hx hb dL_limb_3 rfl (lv_at hl 1 rfl) ?_
  refine lv_iload_n hx hb dL_limb_4 rfl (lv_at hl 2 rfl) ?_
  have hFc : ∀ q, va_A (xB E x0 fa tb st jn rs lm fh n b S J w1 w2 w3 w4 L ++ fP E fh ft fv kd nz T V n) s.heap.size q → A q := by rw [hAe]; exact A_mono
  refine vx_calli (vx_runV (As := [.int f, .int k]) (rest := [.int (nI 0), .ref o]) ⟨hx, hb, hml, hown, hts⟩ (kX3_limb l hst E s.heap.size x0 fa tb st jn rs lm fh ft fv kd nz T V n b S J w1 w2 w3 w4 L hn hz hk5 f k) (cwV 2 hts gL_limbT_X3_limb rfl rfl rfl (by decide +kernel) ⟨Nat.le_of_ble_eq_true rfl, Nat.le_of_ble_eq_true rfl⟩) (z_preXV gTh_call (fun U hU hW => gTh_warm hU hW (fun a _ _ => rfl) hFc (hAe ▸ hG)) (app_l hP) (D_l hD) hK 0 rfl rfl) rfl rfl hl.1 rfl (lv_room (Nat.le_of_ble_eq_true rfl)) dL_limb_5 ⟨Nat.le_of_ble_eq_true rfl, Nat.le_of_ble_eq_true rfl⟩) hS (fun q _ h => hFc q h) hFc (fun q _ h => hFc q h) ?_ ?_
  · intro E9 ce q9 u9 t9 H1 locs1 ht hvm hbad hBX hz1 hk1 hS1 hce hcv hcl
    obtain ⟨rfl, hP9⟩ := hBX
    rw [ht] at hP9
    have hDx : va_D (va_A (xB E x0 fa tb st jn rs lm fh n b S J w1 w2 w3 w4 L ++ fP E fh ft fv kd nz T V n) s.heap.size) (xB E x0 fa tb st jn rs lm fh n b S J w1 w2 w3 w4 L ++ fP E fh ft fv kd nz T V n) := ⟨(D_l hD).1, fun k9 q9 h9 => Or.inl ⟨k9, q9.2, h9⟩⟩
    obtain ⟨hP2, hD2⟩ := z_app1 hP hD hk1 hFc hP9 hDx
    refine vx_catch (name := RJx00060) (E := RJx00060) hown [] ⟨0, 10, 13, 13⟩ [] htab (fun z hz9 => by cases hz9) rfl (by decide) (hts (.classLink RL 13 RJx00060) (by decide +kernel)) (hG.2.2.1.use rfl) hce hcv hcl ?_
    refine W.eq (g2 := F0 m 13 ls [.ref q9]) rfl ?_
    refine lv_astore (lv' := [(4, .ref q9), (0, .ref x0), (1, .int f), (2, .int k), (3, .ref o)]) hx hb dL_limb_13 hl (by decide) rfl (fun ls hl => ?_)
    refine lv_iconst (v := nI 1) hx hb dL_limb_15 (by decide) ?_
    exact z_reti hbad.symm (ret _ _ _ _ (by rw [show oF F (lmC n kd f k) ((lmA n kd nz V f k).toInt64) = F from by unfold oF; rw [if_pos hbad]]; exact hP2) hS1 dL_limb_16)
  · intro r9 u9 t9 H1 locs1 ht hvm hpo hB hz1 hk1 hS1
    obtain ⟨rfl, hnb⟩ := hpo
    have hP9 : va_P E.1 vwCl (xB E x0 fa tb st jn rs lm fh n b S J w1 w2 w3 w4 L ++ fP E fh ft fv kd nz T V n) H1 := by rw [← ht]; exact hB.1
    have hDx : va_D (va_A (xB E x0 fa tb st jn rs lm fh n b S J w1 w2 w3 w4 L ++ fP E fh ft fv kd nz T V n) s.heap.size) (xB E x0 fa tb st jn rs lm fh n b S J w1 w2 w3 w4 L ++ fP E fh ft fv kd nz T V n) := ⟨(D_l hD).1, fun k9 q9 h9 => Or.inl ⟨k9, q9.2, h9⟩⟩
    obtain ⟨hP2, hD2⟩ := z_app1 hP hD hk1 hFc hP9 hDx
    have hix : ((xB E x0 fa tb st jn rs lm fh n b S J w1 w2 w3 w4 L ++ fP E fh ft fv kd nz T V n) ++ oW E o F)[7 + 3 * n]? = some (o, .inl (E.2.2.1, 1, .inr (.inl F))) := by
      rw [List.getElem?_append_right (by rw [List.length_append, fP_len]; exact Nat.le_refl _), List.length_append, fP_len, show 7 + 3 * n - ((xB E x0 fa tb st jn rs lm fh n b S J w1 w2 w3 w4 L).length + 3 * n) = 0 from Nat.sub_self _]; rfl
    refine lv_i2l hx hb dL_limb_8 rfl ?_
    refine zn_last (a := o) (n := 1) (j := 0) hx hb hK.1 hP2 hD2 hS1 (7 + 3 * n) 1 hix rfl (by decide) (by decide) dL_limb_9 (fun H locs hP hD hS => ?_)
    have hthr : lmC n kd f k = nI 0 := (lmC_01 ()).resolve_right hnb
    have hset : ((xB E x0 fa tb st jn rs lm fh n b S J w1 w2 w3 w4 L ++ fP E fh ft fv kd nz T V n) ++ oW E o F).set (7 + 3 * n) (o, .inl (E.2.2.1, 1, .inr (.inl (vp_updL F 0 ((lmA n kd nz V f k).toInt64))))) = (xB E x0 fa tb st jn rs lm fh n b S J w1 w2 w3 w4 L ++ fP E fh ft fv kd nz T V n) ++ oW E o (oF F (lmC n kd f k) ((lmA n kd nz V f k).toInt64)) := by
      rw [List.set_append_right _ _ (by rw [List.length_append, fP_len]; exact Nat.le_refl _), List.length_append, fP_len, show 7 + 3 * n - ((xB E x0 fa tb st jn rs lm fh n b S J w1 w2 w3 w4 L).length + 3 * n) = 0 from Nat.sub_self _]
      unfold oF; rw [if_neg hnb]; rfl
    rw [hset] at hP
    refine lv_goto (tgt := 17) hx hb dL_limb_10 (by decide) ?_
    refine lv_iconst (v := nI 0) hx hb dL_limb_17 (by decide) ?_
    exact z_reti hthr.symm (ret _ _ _ _ hP hS dL_limb_18)
set_option maxHeartbeats 4000000 in
set_option maxRecDepth 100000 in
theorem kL_mean (l : Launch) (hst : l.stackTraces = false) (E : zE) (sz : Nat) (x0 fa tb st jn rs lm : Nat) (fh ft fv kd nz : Nat → Nat) (T : Nat → Nat → Int32) (V : Nat → Nat → Int64) (n b : Nat) (S J : Nat → Nat) (w1 w2 w3 w4 : Int32) (L : Nat → Int64) (hn : n ≤ 12) (hz : ∀ j, j < n → nz j ≤ 64) (hk5 : ∀ j, j < n → kd j < 5) (hsp : ∀ j, j < n → kd j = 2 → isSp (V j) (nz j)) (f k : Int32) (o : Nat) (F : Nat → Int64) : Met l yL_mean wsL_mean (rmC 11 1 6) (va_Pc [.ref x0, .int f, .int k, .ref o] (fun U => zS E ((xB E x0 fa tb st jn rs lm fh n b S J w1 w2 w3 w4 L ++ fP E fh ft fv kd nz T V n) ++ oW E o F) sz U ∧ gTh 90 cAE "no rows, no mean" yAE (va_A ((xB E x0 fa tb st jn rs lm fh n b S J w1 w2 w3 w4 L ++ fP E fh ft fv kd nz T V n) ++ oW E o F) sz) U)) (va_Qi (fun (r9 : Int32) (_ : Unit) => r9 = mnC n kd nz f k) (fun _ t9 => zW E ((xB E x0 fa tb st jn rs lm fh n b S J w1 w2 w3 w4 L ++ fP E fh ft fv kd nz T V n) ++ oW E o (oF F (mnC n kd nz f k) (mnA n kd nz V f k))) t9) (va_A ((xB E x0 fa tb st jn rs lm fh n b S J w1 w2 w3 w4 L ++ fP E fh ft fv kd nz T V n) ++ oW E o F) sz)) 1 6 (va_A ((xB E x0 fa tb st jn rs lm fh n b S J w1 w2 w3 w4 L ++ fP E fh ft fv kd nz T V n) ++ oW E o F) sz) := by
  refine z_ofHi (G := fun z U => gTh 90 cAE "no rows, no mean" yAE (va_A ((xB E x0 fa tb st jn rs lm fh n b S J w1 w2 w3 w4 L ++ fP E fh ft fv kd nz T V n) ++ oW E o F) z) U) (cc := cL_mean) (maxL := 5) (own := RL) (hh := [(0, 9, 12, 19)]) (by decide) rfl rfl (Nat.le_of_ble_eq_true rfl) ?_
  intro p e s m args below meth c R Q A hR B htab hAe hG hP hD hA ret ls hl
  subst hR
  obtain ⟨hx, hb, hml, hown, hts, hK, hRf, hRl⟩ := B
  have hS : va_S A s.heap s.heap [] := va_S.rf
  have hl : lv_has ls 5 [(0, .ref x0), (1, .int f), (2, .int k), (3, .ref o)] := hl
  refine lv_aload_n hx hb dL_mean_0 rfl (lv_at hl 3 rfl) ?_
  refine lv_iconst (v := nI 0) hx hb dL_mean_1 (by decide) ?_
  refine lv_aload_n hx hb dL_mean_2 rfl (lv_at hl 0 rfl) ?_
  refine lv_iload_n hx hb dL_mean_3 rfl (lv_at hl 1 rfl) ?_
  refine lv_iload_n hx hb dL_mean_4 rfl (lv_at hl 2 rfl) ?_
  have hFc : ∀ q, va_A (xB E x0 fa tb st jn rs lm fh n b S J w1 w2 w3 w4 L ++ fP E fh ft fv kd nz T V n) s.heap.size q → A q := by rw [hAe]; exact A_mono
  refine vx_calll (vx_runV (As := [.int f, .int k]) (rest := [.int (nI 0), .ref o]) ⟨hx, hb, hml, hown, hts⟩ (kX3_mean l hst E s.heap.size x0 fa tb st jn rs lm fh ft fv kd nz T V n b S J w1 w2 w3 w4 L hn hz hk5 hsp f k) (cwV 2 hts gL_mean_X3_mean rfl rfl rfl (by decide +kernel) ⟨Nat.le_of_ble_eq_true rfl, Nat.le_of_ble_eq_true rfl⟩) (z_preXV gTh_call (fun U hU hW => gTh_warm hU hW (fun a _ _ => rfl) hFc (hAe ▸ hG)) (app_l hP) (D_l hD) hK 0 rfl rfl) rfl rfl hl.1 rfl (lv_room (Nat.le_of_ble_eq_true rfl)) dL_mean_5 ⟨Nat.le_of_ble_eq_true rfl, Nat.le_of_ble_eq_true rfl⟩) hS (fun q _ h => hFc q h) hFc (fun q _ h => hFc q h) ?_ ?_
  · intro E9 ce q9 u9 t9 H1 locs1 ht hvm hbad hBX hz1 hk1 hS1 hce hcv hcl
    obtain ⟨rfl, hP9⟩ := hBX
    rw [ht] at hP9
    have hDx : va_D (va_A (xB E x0 fa tb st jn rs lm fh n b S J w1 w2 w3 w4 L ++ fP E fh ft fv kd nz T V n) s.heap.size) (xB E x0 fa tb st jn rs lm fh n b S J w1 w2 w3 w4 L ++ fP E fh ft fv kd nz T V n) := ⟨(D_l hD).1, fun k9 q9 h9 => Or.inl ⟨k9, q9.2, h9⟩⟩
    obtain ⟨hP2, hD2⟩ := z_app1 hP hD hk1 hFc hP9 hDx
    refine vx_catch (name := cAE) (E := cAE) hown [] ⟨0, 9, 12, 19⟩ [] htab (fun z hz9 => by cases hz9) rfl (by decide) (hts (.classLink RL 19 cAE) (by decide +kernel)) (hG.2.2.1.use rfl) hce hcv hcl ?_
    refine W.eq (g2 := F0 m 12 ls [.ref q9]) rfl ?_
    refine lv_astore (lv' := [(4, .ref q9), (0, .ref x0), (1, .int f), (2, .int k), (3, .ref o)]) hx hb dL_mean_12 hl (by decide) rfl (fun ls hl => ?_)
    refine lv_iconst (v := nI 1) hx hb dL_mean_14 (by decide) ?_
    exact z_reti hbad.symm (ret _ _ _ _ (by rw [show oF F (mnC n kd nz f k) (mnA n kd nz V f k) = F from by unfold oF; rw [if_pos hbad]]; exact hP2) hS1 dL_mean_15)
  · intro r9 u9 t9 H1 locs1 ht hvm hpo hB hz1 hk1 hS1
    obtain ⟨rfl, hnb⟩ := hpo
    have hP9 : va_P E.1 vwCl (xB E x0 fa tb st jn rs lm fh n b S J w1 w2 w3 w4 L ++ fP E fh ft fv kd nz T V n) H1 := by rw [← ht]; exact hB.1
    have hDx : va_D (va_A (xB E x0 fa tb st jn rs lm fh n b S J w1 w2 w3 w4 L ++ fP E fh ft fv kd nz T V n) s.heap.size) (xB E x0 fa tb st jn rs lm fh n b S J w1 w2 w3 w4 L ++ fP E fh ft fv kd nz T V n) := ⟨(D_l hD).1, fun k9 q9 h9 => Or.inl ⟨k9, q9.2, h9⟩⟩
    obtain ⟨hP2, hD2⟩ := z_app1 hP hD hk1 hFc hP9 hDx
    have hix : ((xB E x0 fa tb st jn rs lm fh n b S J w1 w2 w3 w4 L ++ fP E fh ft fv kd nz T V n) ++ oW E o F)[7 + 3 * n]? = some (o, .inl (E.2.2.1, 1, .inr (.inl F))) := by
      rw [List.getElem?_append_right (by rw [List.length_append, fP_len]; exact Nat.le_refl _), List.length_append, fP_len, show 7 + 3 * n - ((xB E x0 fa tb st jn rs lm fh n b S J w1 w2 w3 w4 L).length + 3 * n) = 0 from Nat.sub_self _]; rfl
    refine zn_last (a := o) (n := 1) (j := 0) hx hb hK.1 hP2 hD2 hS1 (7 + 3 * n) 1 hix rfl (by decide) (by decide) dL_mean_8 (fun H locs hP hD hS => ?_)
    have hthr : mnC n kd nz f k = nI 0 := (mnC_01 ()).resolve_right hnb
    have hset : ((xB E x0 fa tb st jn rs lm fh n b S J w1 w2 w3 w4 L ++ fP E fh ft fv kd nz T V n) ++ oW E o F).set (7 + 3 * n) (o, .inl (E.2.2.1, 1, .inr (.inl (vp_updL F 0 (mnA n kd nz V f k))))) = (xB E x0 fa tb st jn rs lm fh n b S J w1 w2 w3 w4 L ++ fP E fh ft fv kd nz T V n) ++ oW E o (oF F (mnC n kd nz f k) (mnA n kd nz V f k)) := by
      rw [List.set_append_right _ _ (by rw [List.length_append, fP_len]; exact Nat.le_refl _), List.length_append, fP_len, show 7 + 3 * n - ((xB E x0 fa tb st jn rs lm fh n b S J w1 w2 w3 w4 L).length + 3 * n) = 0 from Nat.sub_self _]
      unfold oF; rw [if_neg hnb]; rfl
    rw [hset] at hP
    refine lv_goto (tgt := 16) hx hb dL_mean_9 (by decide) ?_
    refine lv_iconst (v := nI 0) hx hb dL_mean_16 (by decide) ?_
    exact z_reti hthr.symm (ret _ _ _ _ hP hS dL_mean_17)
set_option maxHeartbeats 4000000 in
set_option maxRecDepth 100000 in
theorem kL_spread (l : Launch) (hst : l.stackTraces = false) (E : zE) (sz : Nat) (x0 fa tb st jn rs lm : Nat) (fh ft fv kd nz : Nat → Nat) (T : Nat → Nat → Int32) (V : Nat → Nat → Int64) (n b : Nat) (S J : Nat → Nat) (w1 w2 w3 w4 : Int32) (L : Nat → Int64) (hn : n ≤ 12) (hz : ∀ j, j < n → nz j ≤ 64) (hk5 : ∀ j, j < n → kd j < 5) (hsp : ∀ j, j < n → kd j = 2 → isSp (V j) (nz j)) (f k : Int32) (o : Nat) (F : Nat → Int64) : Met l yL_spread wsL_spread (rmC 11 1 6) (va_Pc [.ref x0, .int f, .int k, .ref o] (fun U => zS E ((xB E x0 fa tb st jn rs lm fh n b S J w1 w2 w3 w4 L ++ fP E fh ft fv kd nz T V n) ++ oW E o F) sz U ∧ gTh 101 cAE "no rows, no spread" yAE (va_A ((xB E x0 fa tb st jn rs lm fh n b S J w1 w2 w3 w4 L ++ fP E fh ft fv kd nz T V n) ++ oW E o F) sz) U)) (va_Qi (fun (r9 : Int32) (_ : Unit) => r9 = mnC n kd nz f k) (fun _ t9 => zW E ((xB E x0 fa tb st jn rs lm fh n b S J w1 w2 w3 w4 L ++ fP E fh ft fv kd nz T V n) ++ oW E o (oF F (mnC n kd nz f k) (sdA n kd nz V f k))) t9) (va_A ((xB E x0 fa tb st jn rs lm fh n b S J w1 w2 w3 w4 L ++ fP E fh ft fv kd nz T V n) ++ oW E o F) sz)) 1 6 (va_A ((xB E x0 fa tb st jn rs lm fh n b S J w1 w2 w3 w4 L ++ fP E fh ft fv kd nz T V n) ++ oW E o F) sz) := by
  refine z_ofHi (G := fun z U => gTh 101 cAE "no rows, no spread" yAE (va_A ((xB E x0 fa tb st jn rs lm fh n b S J w1 w2 w3 w4 L ++ fP E fh ft fv kd nz T V n) ++ oW E o F) z) U) (cc := cL_spread) (maxL := 5) (own := RL) (hh := [(0, 9, 12, 19)]) (by decide) rfl rfl (Nat.le_of_ble_eq_true rfl) ?_
  intro p e s m args below meth c R Q A hR B htab hAe hG hP hD hA ret ls hl
  subst hR
  obtain ⟨hx, hb, hml, hown, hts, hK, hRf, hRl⟩ := B
  have hS : va_S A s.heap s.heap [] := va_S.rf
  have hl : lv_has ls 5 [(0, .ref x0), (1, .int f), (2, .int k), (3, .ref o)] := hl
  refine lv_aload_n hx hb dL_spread_0 rfl (lv_at hl 3 rfl) ?_
  refine lv_iconst (v := nI 0) hx hb dL_spread_1 (by decide) ?_
  refine lv_aload_n hx hb dL_spread_2 rfl (lv_at hl 0 rfl) ?_
  refine lv_iload_n hx hb dL_spread_3 rfl (lv_at hl 1 rfl) ?_
  refine lv_iload_n hx hb dL_spread_4 rfl (lv_at hl 2 rfl) ?_
  have hFc : ∀ q, va_A (xB E x0 fa tb st jn rs lm fh n b S J w1 w2 w3 w4 L ++ fP E fh ft fv kd nz T V n) s.heap.size q → A q := by rw [hAe]; exact A_mono
  refine vx_calll (vx_runV (As := [.int f, .int k]) (rest := [.int (nI 0), .ref o]) ⟨hx, hb, hml, hown, hts⟩ (kX3_spread l hst E s.heap.size x0 fa tb st jn rs lm fh ft fv kd nz T V n b S J w1 w2 w3 w4 L hn hz hk5 hsp f k) (cwV 2 hts gL_spread_X3_spread rfl rfl rfl (by decide +kernel) ⟨Nat.le_of_ble_eq_true rfl, Nat.le_of_ble_eq_true rfl⟩) (z_preXV gTh_call (fun U hU hW => gTh_warm hU hW (fun a _ _ => rfl) hFc (hAe ▸ hG)) (app_l hP) (D_l hD) hK 0 rfl rfl) rfl rfl hl.1 rfl (lv_room (Nat.le_of_ble_eq_true rfl)) dL_spread_5 ⟨Nat.le_of_ble_eq_true rfl, Nat.le_of_ble_eq_true rfl⟩) hS (fun q _ h => hFc q h) hFc (fun q _ h => hFc q h) ?_ ?_
  · intro E9 ce q9 u9 t9 H1 locs1 ht hvm hbad hBX hz1 hk1 hS1 hce hcv hcl
    obtain ⟨rfl, hP9⟩ := hBX
    rw [ht] at hP9
    have hDx : va_D (va_A (xB E x0 fa tb st jn rs lm fh n b S J w1 w2 w3 w4 L ++ fP E fh ft fv kd nz T V n) s.heap.size) (xB E x0 fa tb st jn rs lm fh n b S J w1 w2 w3 w4 L ++ fP E fh ft fv kd nz T V n) := ⟨(D_l hD).1, fun k9 q9 h9 => Or.inl ⟨k9, q9.2, h9⟩⟩
    obtain ⟨hP2, hD2⟩ := z_app1 hP hD hk1 hFc hP9 hDx
    refine vx_catch (name := cAE) (E := cAE) hown [] ⟨0, 9, 12, 19⟩ [] htab (fun z hz9 => by cases hz9) rfl (by decide) (hts (.classLink RL 19 cAE) (by decide +kernel)) (hG.2.2.1.use rfl) hce hcv hcl ?_
    refine W.eq (g2 := F0 m 12 ls [.ref q9]) rfl ?_
    refine lv_astore (lv' := [(4, .ref q9), (0, .ref x0), (1, .int f), (2, .int k), (3, .ref o)]) hx hb dL_spread_12 hl (by decide) rfl (fun ls hl => ?_)
    refine lv_iconst (v := nI 1) hx hb dL_spread_14 (by decide) ?_
    exact z_reti hbad.symm (ret _ _ _ _ (by rw [show oF F (mnC n kd nz f k) (sdA n kd nz V f k) = F from by unfold oF; rw [if_pos hbad]]; exact hP2) hS1 dL_spread_15)
  · intro r9 u9 t9 H1 locs1 ht hvm hpo hB hz1 hk1 hS1
    obtain ⟨rfl, hnb⟩ := hpo
    have hP9 : va_P E.1 vwCl (xB E x0 fa tb st jn rs lm fh n b S J w1 w2 w3 w4 L ++ fP E fh ft fv kd nz T V n) H1 := by rw [← ht]; exact hB.1
    have hDx : va_D (va_A (xB E x0 fa tb st jn rs lm fh n b S J w1 w2 w3 w4 L ++ fP E fh ft fv kd nz T V n) s.heap.size) (xB E x0 fa tb st jn rs lm fh n b S J w1 w2 w3 w4 L ++ fP E fh ft fv kd nz T V n) := ⟨(D_l hD).1, fun k9 q9 h9 => Or.inl ⟨k9, q9.2, h9⟩⟩
    obtain ⟨hP2, hD2⟩ := z_app1 hP hD hk1 hFc hP9 hDx
    have hix : ((xB E x0 fa tb st jn rs lm fh n b S J w1 w2 w3 w4 L ++ fP E fh ft fv kd nz T V n) ++ oW E o F)[7 + 3 * n]? = some (o, .inl (E.2.2.1, 1, .inr (.inl F))) := by
      rw [List.getElem?_append_right (by rw [List.length_append, fP_len]; exact Nat.le_refl _), List.length_append, fP_len, show 7 + 3 * n - ((xB E x0 fa tb st jn rs lm fh n b S J w1 w2 w3 w4 L).length + 3 * n) = 0 from Nat.sub_self _]; rfl
    refine zn_last (a := o) (n := 1) (j := 0) hx hb hK.1 hP2 hD2 hS1 (7 + 3 * n) 1 hix rfl (by decide) (by decide) dL_spread_8 (fun H locs hP hD hS => ?_)
    have hthr : mnC n kd nz f k = nI 0 := (mnC_01 ()).resolve_right hnb
    have hset : ((xB E x0 fa tb st jn rs lm fh n b S J w1 w2 w3 w4 L ++ fP E fh ft fv kd nz T V n) ++ oW E o F).set (7 + 3 * n) (o, .inl (E.2.2.1, 1, .inr (.inl (vp_updL F 0 (sdA n kd nz V f k))))) = (xB E x0 fa tb st jn rs lm fh n b S J w1 w2 w3 w4 L ++ fP E fh ft fv kd nz T V n) ++ oW E o (oF F (mnC n kd nz f k) (sdA n kd nz V f k)) := by
      rw [List.set_append_right _ _ (by rw [List.length_append, fP_len]; exact Nat.le_refl _), List.length_append, fP_len, show 7 + 3 * n - ((xB E x0 fa tb st jn rs lm fh n b S J w1 w2 w3 w4 L).length + 3 * n) = 0 from Nat.sub_self _]
      unfold oF; rw [if_neg hnb]; rfl
    rw [hset] at hP
    refine lv_goto (tgt := 16) hx hb dL_spread_9 (by decide) ?_
    refine lv_iconst (v := nI 0) hx hb dL_spread_16 (by decide) ?_
    exact z_reti hthr.symm (ret _ _ _ _ hP hS dL_spread_17)
