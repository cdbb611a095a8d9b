/-! what is thrown, and what the law catches -/
abbrev nIOB : List String := ["java/lang/IndexOutOfBoundsException", "java/lang/RuntimeException", "java/lang/Exception"]
abbrev nAE : List String := ["java/lang/RuntimeException", "java/lang/Exception"]
abbrev cAE : String := "java/lang/ArithmeticException"
abbrev tIOB : String := "a sum has the limbs 0 to 2"
abbrev yIOB : List MethodName := [⟨"java/lang/IndexOutOfBoundsException", "<init>", "(Ljava/lang/String;)V"⟩, ⟨"java/lang/RuntimeException", "<init>", "(Ljava/lang/String;)V"⟩, ⟨"java/lang/Exception", "<init>", "(Ljava/lang/String;)V"⟩, ⟨"java/lang/Throwable", "<init>", "(Ljava/lang/String;)V"⟩]
abbrev yAE : List MethodName := [⟨"java/lang/RuntimeException", "<init>", "(Ljava/lang/String;)V"⟩, ⟨"java/lang/Exception", "<init>", "(Ljava/lang/String;)V"⟩, ⟨"java/lang/Throwable", "<init>", "(Ljava/lang/String;)V"⟩]
def gTh (is : Nat) (cls text : String) (ys : List MethodName) (A : Nat → Prop) (U : State) : Prop := (vx_Zq Bundle.tN "UNASSIGNED_STACK" Bundle.steD A U U.heap ∧ vx_Zq Bundle.tN "SUPPRESSED_SENTINEL" Bundle.listD A U U.heap) ∧ (∀ y ∈ ys, va_Nw (.declares y) U) ∧ va_Nw (.castable cls cls) U ∧ ∃ sa, vk_R RX3 is text sa U
theorem gTh_call {is : Nat} {cls text : String} {ys : List MethodName} {A : Nat → Prop} : ∀ (U : State) (g : JFrame) (mk : MethodId) (a : Array Value), gTh is cls text ys A U → gTh is cls text ys A (U.calling g mk a) := fun U g mk a h => ⟨⟨vx_Zq.moved (u := U) (U := U.calling g mk a) (Vm.Alike.refl U.vm) h.1.1, vx_Zq.moved (u := U) (U := U.calling g mk a) (Vm.Alike.refl U.vm) h.1.2⟩, fun y hy => (h.2.1 y hy).same rfl (u := U) rfl, h.2.2.1.same rfl (u := U) rfl, h.2.2.2.elim (fun sa hs => ⟨sa, hs.same (u := U) rfl⟩)⟩
theorem gTh_warm {is : Nat} {cls text : String} {ys : List MethodName} {A B : Nat → Prop} {s U : State} {H : Heap} (hU : U.heap = H) (hW : s.WarmedH U.vm) (hk : ∀ a : Nat, a < s.heap.size → ¬ A a → H[a]? = s.heap[a]?) (hAB : ∀ q, B q → A q) (h : gTh is cls text ys A s) : gTh is cls text ys B U := ⟨⟨by rw [hU]; exact vx_Zq.moved hW.alike ((h.1.1.kept hk).narrow hAB), by rw [hU]; exact vx_Zq.moved hW.alike ((h.1.2.kept hk).narrow hAB)⟩, fun y hy => (h.2.1 y hy).warmD hW, h.2.2.1.warmC hW, h.2.2.2.elim (fun sa hs => ⟨sa, hs.warm hW⟩)⟩
theorem z_preXV {E : zE} {wc : va_W} {s : State} {H : Heap} {A : Nat → Prop} {As : List Value} {b ci : Nat} {fs : List Value} {q : vw_C} {G : State → Prop} (hG : ∀ (U : State) (g : JFrame) (mk : MethodId) (a : Array Value), G U → G (U.calling g mk a)) (hGs : ∀ U : State, U.heap = H → s.WarmedH U.vm → G U) (hP : va_P E.1 vwCl wc H) (hD : va_D A wc) (hK : zK E s) (q0 : Nat) (he : wc[q0]? = some (b, .inr (ci, fs))) (hc : vwCl[ci]? = some q) : PreV s H q.1 b (va_Pc (.ref b :: As) (fun U => zS E wc H.size U ∧ G U)) As :=
  ⟨z_blG hG, va_recv hK.1 hP hc he, fun U hU hW => ⟨rfl, ⟨by rw [hU], zW.of hP hK hU hW, hD.weaken (fun _ _ _ _ => trivial)⟩, hGs U hU hW⟩⟩
theorem z_ofXi {l : Launch} {y : MethodName} {ws ws' : List Cond} {fr : Nat} {E : zE} {wc : va_W} {av : List Value} {sz : Nat} {v : Int32} {bad : Prop} {cls text : String} {ys : List MethodName} {names : List String} {ik is ic : Nat} {cc : ByteArray} {maxL : Nat} (hst : l.stackTraces = false) (hy : plainName y.cls = true) (hw : ws = Cond.code y cc maxL (some .int) :: ws') (hown : y.cls = RX3) (hlen : (lg_sl av).length ≤ maxL)
    (hcls : Bundle.fit cls = true) (hnames : ∀ n ∈ names, Bundle.fit n = true) (hgood : ∀ w ∈ Cond.classLink RX3 ik cls :: Cond.initialized cls :: vx_atS RX3 ic cls names, vx_ot w = true) (hW1 : ∀ w ∈ (vx_atS RX3 ic cls names).filter goodWord, w ∈ ws) (hW2 : ∀ w ∈ (vx_atS RX3 ic cls names).filter (fun w => !goodWord w), w ∈ ys.map Cond.declares ++ [.castable cls cls]) (hk : Cond.classLink RX3 ik cls ∈ ws) (hi : Cond.initialized cls ∈ ws) (hfr : names.length + 3 < fr) (hlo : 13 * (names.length + 1) + 43 ≤ 64 * fr)
    (body : ∀ (p : Program) (e : Env) (s : State) (m : MethodId) (args : Array Value) (below : List Frame) (meth : Method) (c : Code) (R : Room) (Q : State → Prop), zB p s m c args cc maxL RX3 ws E R (rmC fr 1 6) → va_P E.1 vwCl wc s.heap →
      (∀ (pc : Nat) (ls : Array Slot), ¬ bad → decode cc pc = .ok (.ireturn, 1) → W p l e R s m args below meth c s.heap [] 0 0 Q (F0 m pc ls [.int v])) →
      (∀ (pc : Nat) (ls : Array Slot), bad → ls.size = maxL → decode cc pc = .ok (.new ik, 3) → decode cc (pc + 3) = .ok (.dup, 1) → decode cc (pc + 4) = .ok (.ldc is, 2) → decode cc (pc + 6) = .ok (.invokespecial ic, 3) → decode cc (pc + 9) = .ok (.athrow, 1) → W p l e R s m args below meth c s.heap [] 0 0 Q (F0 m pc ls [])) →
      ∀ ls : Array Slot, lv_has ls maxL (lv_args 0 av) → W p l e R s m args below meth c s.heap [] 0 0 Q (F0 m 0 ls [])) :
    vx_Met l y ws (rmC fr 1 6) (va_Pc av (fun U => zS E wc sz U ∧ gTh is cls text ys (va_A wc sz) U)) (va_Qi (fun (r : Int32) (_ : Unit) => r = v ∧ ¬ bad) (fun _ t => zW E wc t) (va_A wc sz)) (vx_X (fun (_ : Unit) => bad) (fun E9 _ t => E9 = cls ∧ va_P E.1 vwCl wc t.heap) (va_A wc sz)) 1 6 (va_A wc sz) := by
  refine vx_ofW (cc := cc) (maxL := maxL) (ret := some .int) hy hw ?_
  intro p e s m args below meth c s₁ B hml htab hv
  obtain ⟨rfl, ⟨hsz, ⟨hP, hK⟩, hD0⟩, hG⟩ := hv
  have hl := lv_entry av (n := maxL) hlen
  rw [lg_entry_eq]
  subst hsz
  have hts : ∀ w ∈ ws, w.before _ s = true := atoms_spec (ws := ws) B.pre
  have hown2 : s.vm.findClass RX3 = some m.cls := by rw [← hown]; exact findClass_of_methodNamed B.named
  refine body p e s m _ below meth c _ _ ⟨B.exec, B.bytes, hml, hown2, hts, hK, Nat.le_refl _, Nat.le_refl _⟩ hP ?_ ?_ _ hl
  · intro pc ls hnb hd
    refine W.widen (k := 1) (n := 6) (by decide) (by decide) (vx_ret ?_)
    exact W.iret B.exec B.bytes B.returns (fun t ht hW => ⟨⟨v, (), rfl, ⟨rfl, hnb⟩, by rw [ht]; exact hP, hK.warm hW⟩, va_S.rf.F ht⟩) (fun q h => by cases h) hd (hlocks := B.notSynchronized)
  · intro pc ls hb hsz d0 d3 d4 d6 d9
    obtain ⟨sa, hsa⟩ := hG.2.2.2
    refine vx_throwS (A := va_A wc s.heap.size) (names := names) (cls := cls) B.exec B.bytes hst hown2 hcls hnames (hts _ hk) (hts _ hi) hsa ?_ hgood hG.1.1 hG.1.2 va_S.rf (hsz.trans hml.symm) d0 d3 d4 d6 d9 (fun x hx => (htab x hx).elim) hfr ?_ ?_ ?_ B.notSynchronized ?_ (fun z h => by cases h) (by decide) (by decide)
    · refine vx_hat (fun w hw => hts w (hW1 w hw)) hW2 (fun w hw => ?_)
      rcases List.mem_append.mp hw with h | h
      · obtain ⟨z, hz, rfl⟩ := List.mem_map.mp h
        exact (hG.2.1 z hz).use rfl
      · rw [List.mem_singleton.mp h]; exact hG.2.2.1.use rfl
    · show 0 + (13 * (names.length + 1) + 43) ≤ 64 * fr; omega
    · show 0 + 1 ≤ 1; decide
    · show 0 + 6 ≤ 6; decide
    · intro t _ h1 h2
      exact ⟨(), hb, ⟨rfl, hP.kept (fun k x hx => h2 x.1 ((hP k x hx).lt))⟩, h1, fun q hq _ => h2 q hq⟩
theorem z_ofXl {l : Launch} {y : MethodName} {ws ws' : List Cond} {fr : Nat} {E : zE} {wc : va_W} {av : List Value} {sz : Nat} {v : Int64} {bad : Prop} {cls text : String} {ys : List MethodName} {names : List String} {ik is ic : Nat} {cc : ByteArray} {maxL : Nat} (hst : l.stackTraces = false) (hy : plainName y.cls = true) (hw : ws = Cond.code y cc maxL (some .long) :: ws') (hown : y.cls = RX3) (hlen : (lg_sl av).length ≤ maxL)
    (hcls : Bundle.fit cls = true) (hnames : ∀ n ∈ names, Bundle.fit n = true) (hgood : ∀ w ∈ Cond.classLink RX3 ik cls :: Cond.initialized cls :: vx_atS RX3 ic cls names, vx_ot w = true) (hW1 : ∀ w ∈ (vx_atS RX3 ic cls names).filter goodWord, w ∈ ws) (hW2 : ∀ w ∈ (vx_atS RX3 ic cls names).filter (fun w => !goodWord w), w ∈ ys.map Cond.declares ++ [.castable cls cls]) (hk : Cond.classLink RX3 ik cls ∈ ws) (hi : Cond.initialized cls ∈ ws) (hfr : names.length + 3 < fr) (hlo : 13 * (names.length + 1) + 43 ≤ 64 * fr)
    (body : ∀ (p : Program) (e : Env) (s : State) (m : MethodId) (args : Array Value) (below : List Frame) (meth : Method) (c : Code) (R : Room) (Q : State → Prop), zB p s m c args cc maxL RX3 ws E R (rmC fr 1 6) → va_P E.1 vwCl wc s.heap →
      (∀ (pc : Nat) (ls : Array Slot), ¬ bad → decode cc pc = .ok (.lreturn, 1) → W p l e R s m args below meth c s.heap [] 0 0 Q (F0 m pc ls [.long v])) →
      (∀ (pc : Nat) (ls : Array Slot), bad → ls.size = maxL → decode cc pc = .ok (.new ik, 3) → decode cc (pc + 3) = .ok (.dup, 1) → decode cc (pc + 4) = .ok (.ldc is, 2) → decode cc (pc + 6) = .ok (.invokespecial ic, 3) → decode cc (pc + 9) = .ok (.athrow, 1) → W p l e R s m args below meth c s.heap [] 0 0 Q (F0 m pc ls [])) →
      ∀ ls : Array Slot, lv_has ls maxL (lv_args 0 av) → W p l e R s m args below meth c s.heap [] 0 0 Q (F0 m 0 ls [])) :
    vx_Met l y ws (rmC fr 1 6) (va_Pc av (fun U => zS E wc sz U ∧ gTh is cls text ys (va_A wc sz) U)) (va_Ql (fun (r : Int64) (_ : Unit) => r = v ∧ ¬ bad) (fun _ t => zW E wc t) (va_A wc sz)) (vx_X (fun (_ : Unit) => bad) (fun E9 _ t => E9 = cls ∧ va_P E.1 vwCl wc t.heap) (va_A wc sz)) 1 6 (va_A wc sz) := by
  refine vx_ofW (cc := cc) (maxL := maxL) (ret := some .long) hy hw ?_
  intro p e s m args below meth c s₁ B hml htab hv
  obtain ⟨rfl, ⟨hsz, ⟨hP, hK⟩, hD0⟩, hG⟩ := hv
  have hl := lv_entry av (n := maxL) hlen
  rw [lg_entry_eq]
  subst hsz
  have hts : ∀ w ∈ ws, w.before _ s = true := atoms_spec (ws := ws) B.pre
  have hown2 : s.vm.findClass RX3 = some m.cls := by rw [← hown]; exact findClass_of_methodNamed B.named
  refine body p e s m _ below meth c _ _ ⟨B.exec, B.bytes, hml, hown2, hts, hK, Nat.le_refl _, Nat.le_refl _⟩ hP ?_ ?_ _ hl
  · intro pc ls hnb hd
    refine W.widen (k := 1) (n := 6) (by decide) (by decide) (vx_ret ?_)
    exact W.lret B.exec B.bytes B.returns (fun t ht hW => ⟨⟨v, (), rfl, ⟨rfl, hnb⟩, by rw [ht]; exact hP, hK.warm hW⟩, va_S.rf.F ht⟩) (fun q h => by cases h) hd (hlocks := B.notSynchronized)
  · intro pc ls hb hsz d0 d3 d4 d6 d9
    obtain ⟨sa, hsa⟩ := hG.2.2.2
    refine vx_throwS (A := va_A wc s.heap.size) (names := names) (cls := cls) B.exec B.bytes hst hown2 hcls hnames (hts _ hk) (hts _ hi) hsa ?_ hgood hG.1.1 hG.1.2 va_S.rf (hsz.trans hml.symm) d0 d3 d4 d6 d9 (fun x hx => (htab x hx).elim) hfr ?_ ?_ ?_ B.notSynchronized ?_ (fun z h => by cases h) (by decide) (by decide)
    · refine vx_hat (fun w hw => hts w (hW1 w hw)) hW2 (fun w hw => ?_)
      rcases List.mem_append.mp hw with h | h
      · obtain ⟨z, hz, rfl⟩ := List.mem_map.mp h
        exact (hG.2.1 z hz).use rfl
      · rw [List.mem_singleton.mp h]; exact hG.2.2.1.use rfl
    · show 0 + (13 * (names.length + 1) + 43) ≤ 64 * fr; omega
    · show 0 + 1 ≤ 1; decide
    · show 0 + 6 ≤ 6; decide
    · intro t _ h1 h2
      exact ⟨(), hb, ⟨rfl, hP.kept (fun k x hx => h2 x.1 ((hP k x hx).lt))⟩, h1, fun q hq _ => h2 q hq⟩
theorem good_app {a b ws : List Cond} (h : GoodIn a ws) : GoodIn (a ++ b) ws := fun w hw => ⟨List.mem_append_left _ (h w hw).1, (h w hw).2⟩
abbrev wsIOB : List Cond := (vx_atS RX3 75 RJx00060 nIOB).filter goodWord
def wsX3_limbT : List Cond := wsX3_limb ++ wsIOB
theorem gX3_limbT_X3_foldOfKind : GoodIn wsX3_limbT (wsV RX3 67 RX3 yX3_foldOfKind wsX3_foldOfKind) := good_app gX3_limb_X3_foldOfKind
theorem gX3_limbT_X0_limbOfSum : GoodIn wsX3_limbT (wsV RX3 78 RX0 yX0_limbOfSum wsX0_limbOfSum) := good_app gX3_limb_X0_limbOfSum
theorem thIOB : ∀ w ∈ Cond.classLink RX3 71 RJx00060 :: Cond.initialized RJx00060 :: vx_atS RX3 75 RJx00060 nIOB, vx_ot w = true := by decide +kernel
theorem thAE : ∀ w ∈ Cond.classLink RX3 88 cAE :: Cond.initialized cAE :: vx_atS RX3 92 cAE nAE, vx_ot w = true := by decide +kernel
theorem dcIOB : ∀ w ∈ (vx_atS RX3 75 RJx00060 nIOB).filter (fun w => !goodWord w), w ∈ yIOB.map Cond.declares ++ [.castable RJx00060 RJx00060] := by decide +kernel
theorem dcAE : ∀ w ∈ (vx_atS RX3 92 cAE nAE).filter (fun w => !goodWord w), w ∈ yAE.map Cond.declares ++ [.castable cAE cAE] := by decide +kernel
theorem ftIOB : Bundle.fit RJx00060 = true ∧ ∀ n ∈ nIOB, Bundle.fit n = true := by decide +kernel
theorem ftAE : Bundle.fit cAE = true ∧ ∀ n ∈ nAE, Bundle.fit n = true := by decide +kernel
set_option maxHeartbeats 4000000 in
set_option maxRecDepth 100000 in
theorem kX3_limb (l : Launch) (hst : l.stackTraces = false) (E : zE) (sz : Nat) (x0 fa tb st jn rs lm : Nat) (fh ft fv kd nz : Nat → Nat) (T : Nat → Nat → Int32) (V : Nat → Nat → Int64) (n b : Nat) (S J : Nat → Nat) (w1 w2 w3 w4 : Int32) (L : Nat → Int64) (hn : n ≤ 12) (hz : ∀ j, j < n → nz j ≤ 64) (hk5 : ∀ j, j < n → kd j < 5) (f k : Int32) : vx_Met l yX3_limb wsX3_limbT (rmC 9 1 6) (va_Pc [.ref x0, .int f, .int k] (fun U => zS E (xB E x0 fa tb st jn rs lm fh n b S J w1 w2 w3 w4 L ++ fP E fh ft fv kd nz T V n) sz U ∧ gTh 73 RJx00060 tIOB yIOB (va_A (xB E x0 fa tb st jn rs lm fh n b S J w1 w2 w3 w4 L ++ fP E fh ft fv kd nz T V n) sz) U)) (va_Qi (fun (r9 : Int32) (_ : Unit) => r9 = lmA n kd nz V f k ∧ ¬ (lmC n kd f k = nI 1)) (fun _ t => zW E (xB E x0 fa tb st jn rs lm fh n b S J w1 w2 w3 w4 L ++ fP E fh ft fv kd nz T V n) t) (va_A (xB E x0 fa tb st jn rs lm fh n b S J w1 w2 w3 w4 L ++ fP E fh ft fv kd nz T V n) sz)) (vx_X (fun (_ : Unit) => (lmC n kd f k = nI 1)) (fun E9 _ t => E9 = RJx00060 ∧ va_P E.1 vwCl (xB E x0 fa tb st jn rs lm fh n b S J w1 w2 w3 w4 L ++ fP E fh ft fv kd nz T V n) t.heap) (va_A (xB E x0 fa tb st jn rs lm fh n b S J w1 w2 w3 w4 L ++ fP E fh ft fv kd nz T V n) sz)) 1 6 (va_A (xB E x0 fa tb st jn rs lm fh n b S J w1 w2 w3 w4 L ++ fP E fh ft fv kd nz T V n) sz) := by
  refine z_ofXi (cc := cX3_limb) (maxL := 4) (names := nIOB) (ik := 71) (ic := 75) hst (by decide) rfl rfl (Nat.le_of_ble_eq_true rfl) ftIOB.1 ftIOB.2 thIOB (fun w h => List.mem_append_right _ h) dcIOB (by decide +kernel) (by decide +kernel) (by decide) (by decide) ?_
  intro p e s m args below meth c R Q B hP ret thr ls hl
  obtain ⟨hx, hb, hml, hown, hts, hK, hRf, hRl⟩ := B
  have hl : lv_has ls 4 [(0, .ref x0), (1, .int f), (2, .int k)] := hl
  refine lv_aload_n hx hb dX3_limb_0 rfl (lv_at hl 0 rfl) ?_
  refine lv_iload_n hx hb dX3_limb_1 rfl (lv_at hl 1 rfl) ?_
  refine lv_iconst (v := nI 0) hx hb dX3_limb_2 (by decide) ?_
  refine zc_q (W.runV ⟨hx, hb, hml, hown, hts⟩ (kX3_foldOfKind l E x0 fa tb st jn rs lm fh ft fv kd nz T V n b S J w1 w2 w3 w4 L hn hk5 f 0 (by decide)) (cwV 2 hts gX3_limbT_X3_foldOfKind rfl rfl rfl (by decide +kernel) ⟨Nat.le_trans (Nat.le_of_ble_eq_true rfl) hRf, Nat.le_trans (Nat.le_of_ble_eq_true rfl) hRl⟩) (z_preV (As := [.int f, .int (nI 0)]) hP hK 0 rfl rfl) rfl rfl hl.1 rfl (lv_room (Nat.le_of_ble_eq_true rfl)) dX3_limb_3 ⟨Nat.zero_le _, Nat.zero_le _⟩) ?_
  rcases fok_cases n kd f 0 (by omega) with hfij | ⟨j, hjj, rfl, hkdj, hfij⟩
  · rw [hfij]
    refine W.eq (g2 := F0 m 6 ls ([.null])) rfl ?_
    refine lv_astore_nN (lv' := [(3, .null), (0, .ref x0), (1, .int f), (2, .int k)]) hx hb dX3_limb_6 rfl hl (by decide) rfl (fun ls hl => ?_)
    refine lv_aload_nN hx hb dX3_limb_7 rfl (lv_at hl 0 rfl) ?_
    refine lv_ifnonnullN hx hb dX3_limb_8 ?_
    refine lv_iconst (v := nI 0) hx hb dX3_limb_11 (by decide) ?_
    have hnb : ¬ lmC n kd f k = nI 1 := by unfold lmC; rw [hfij]; show ¬ nI 0 = nI 1; decide
    exact z_reti (by unfold lmA; rw [hfij]; rfl) (ret _ _ hnb dX3_limb_12)
  · rw [hfij]
    refine W.eq (g2 := F0 m 6 ls ([.ref (fh j)])) rfl ?_
    have hPfj : va_P E.1 vwCl (fW E (fh j) (ft j) (fv j) (kd j) (nz j) (T j) (V j)) _ := P_fP (app_r hP) hjj
    refine lv_astore_n (lv' := [(3, .ref (fh j)), (0, .ref x0), (1, .int (nI j)), (2, .int k)]) hx hb dX3_limb_6 rfl hl (by decide) rfl (fun ls hl => ?_)
    refine lv_aload_n hx hb dX3_limb_7 rfl (lv_at hl 0 rfl) ?_
    refine lv_ifnonnull (tgt := 13) hx hb dX3_limb_8 (by decide) ?_
    refine lv_iload_n hx hb dX3_limb_13 rfl (lv_at hl 3 rfl) ?_
    refine lv_if_lt (tgt := 22) hx hb dX3_limb_14 (by decide) (fun c_1 => ?_) (fun c_1 => ?_)
    · have hkb : k < 0 ∨ nI 2 < k := Or.inl c_1
      exact thr _ _ (by unfold lmC; rw [hfij]; show (if k < 0 ∨ nI 2 < k then nI 1 else nI 0) = nI 1; rw [if_pos hkb]) hl.1 dX3_limb_22 dX3_limb_25 dX3_limb_26 dX3_limb_28 dX3_limb_31
    · refine lv_iload_n hx hb dX3_limb_17 rfl (lv_at hl 3 rfl) ?_
      refine lv_iconst (v := nI 2) hx hb dX3_limb_18 (by decide) ?_
      refine lv_icmp_le (tgt := 32) hx hb dX3_limb_19 (by decide) (fun c_2 => ?_) (fun c_2 => ?_)
      · have hkno : ¬ (k < 0 ∨ nI 2 < k) := fun q => q.elim c_1 (nlt_of_le c_2)
        refine lv_aload_n hx hb dX3_limb_32 rfl (lv_at hl 0 rfl) ?_
        refine lv_iload_n hx hb dX3_limb_33 rfl (lv_at hl 3 rfl) ?_
        refine zc_i (W.runV ⟨hx, hb, hml, hown, hts⟩ (kX0_limbOfSum l E (fh j) (ft j) (fv j) (nI (kd j)) (nz j) (T j) (V j) (hz j hjj) k) (cwV 1 hts gX3_limbT_X0_limbOfSum rfl rfl rfl (by decide +kernel) ⟨Nat.le_trans (Nat.le_of_ble_eq_true rfl) hRf, Nat.le_trans (Nat.le_of_ble_eq_true rfl) hRl⟩) (z_preV (As := [.int k]) hPfj hK 0 rfl rfl) rfl rfl hl.1 rfl (lv_room (Nat.le_of_ble_eq_true rfl)) dX3_limb_34 ⟨Nat.zero_le _, Nat.zero_le _⟩) ?_
        have hnb : ¬ lmC n kd (nI j) k = nI 1 := by unfold lmC; rw [hfij]; show ¬ (if k < 0 ∨ nI 2 < k then nI 1 else nI 0) = nI 1; rw [if_neg hkno]; decide
        exact z_reti (by unfold lmA; rw [hfij]; show _ = (if k < 0 ∨ nI 2 < k then 0 else limbF (V j) (nz j) k); rw [if_neg hkno]) (ret _ _ hnb dX3_limb_37)
      · have hkb : k < 0 ∨ nI 2 < k := Or.inr (gt_of_nle c_2)
        exact thr _ _ (by unfold lmC; rw [hfij]; show (if k < 0 ∨ nI 2 < k then nI 1 else nI 0) = nI 1; rw [if_pos hkb]) hl.1 dX3_limb_22 dX3_limb_25 dX3_limb_26 dX3_limb_28 dX3_limb_31
set_option maxHeartbeats 4000000 in
set_option maxRecDepth 100000 in
theorem kX3_mean (l : Launch) (hst : l.stackTraces = false) (E : zE) (sz : Nat) (x0 fa tb st jn rs lm : Nat) (fh ft fv kd nz : Nat → Nat) (T : Nat → Nat → Int32) (V : Nat → Nat → Int64) (n b : Nat) (S J : Nat → Nat) (w1 w2 w3 w4 : Int32) (L : Nat → Int64) (hn : n ≤ 12) (hz : ∀ j, j < n → nz j ≤ 64) (hk5 : ∀ j, j < n → kd j < 5) (hsp : ∀ j, j < n → kd j = 2 → isSp (V j) (nz j)) (f w : Int32) : vx_Met l yX3_mean wsX3_mean (rmC 9 1 6) (va_Pc [.ref x0, .int f, .int w] (fun U => zS E (xB E x0 fa tb st jn rs lm fh n b S J w1 w2 w3 w4 L ++ fP E fh ft fv kd nz T V n) sz U ∧ gTh 90 cAE "no rows, no mean" yAE (va_A (xB E x0 fa tb st jn rs lm fh n b S J w1 w2 w3 w4 L ++ fP E fh ft fv kd nz T V n) sz) U)) (va_Ql (fun (r9 : Int64) (_ : Unit) => r9 = mnA n kd nz V f w ∧ ¬ (mnC n kd nz f w = nI 1)) (fun _ t => zW E (xB E x0 fa tb st jn rs lm fh n b S J w1 w2 w3 w4 L ++ fP E fh ft fv kd nz T V n) t) (va_A (xB E x0 fa tb st jn rs lm fh n b S J w1 w2 w3 w4 L ++ fP E fh ft fv kd nz T V n) sz)) (vx_X (fun (_ : Unit) => (mnC n kd nz f w = nI 1)) (fun E9 _ t => E9 = cAE ∧ va_P E.1 vwCl (xB E x0 fa tb st jn rs lm fh n b S J w1 w2 w3 w4 L ++ fP E fh ft fv kd nz T V n) t.heap) (va_A (xB E x0 fa tb st jn rs lm fh n b S J w1 w2 w3 w4 L ++ fP E fh ft fv kd nz T V n) sz)) 1 6 (va_A (xB E x0 fa tb st jn rs lm fh n b S J w1 w2 w3 w4 L ++ fP E fh ft fv kd nz T V n) sz) := by
  refine z_ofXl (cc := cX3_mean) (maxL := 4) (names := nAE) (ik := 88) (ic := 92) hst (by decide) rfl rfl (Nat.le_of_ble_eq_true rfl) ftAE.1 ftAE.2 thAE (fun w h => List.mem_cons_of_mem _ (List.mem_append_right _ h)) dcAE (by decide +kernel) (by decide +kernel) (by decide) (by decide) ?_
  intro p e s m args below meth c R Q B hP ret thr ls hl
  obtain ⟨hx, hb, hml, hown, hts, hK, hRf, hRl⟩ := B
  have hiX0 : ∀ w ∈ wsX00, w ∈ wsX3_mean := by decide +kernel
  have hf56 := hts (.fieldLink RX3 56 "ExactFolds$Fold" "size" "I") (by decide +kernel)
  have hl : lv_has ls 4 [(0, .ref x0), (1, .int f), (2, .int w)] := hl
  refine lv_aload_n hx hb dX3_mean_0 rfl (lv_at hl 0 rfl) ?_
  refine lv_iload_n hx hb dX3_mean_1 rfl (lv_at hl 1 rfl) ?_
  refine lv_iconst (v := nI 2) hx hb dX3_mean_2 (by decide) ?_
  refine zc_q (W.runV ⟨hx, hb, hml, hown, hts⟩ (kX3_foldOfKind l E x0 fa tb st jn rs lm fh ft fv kd nz T V n b S J w1 w2 w3 w4 L hn hk5 f 2 (by decide)) (cwV 2 hts gX3_mean_X3_foldOfKind rfl rfl rfl (by decide +kernel) ⟨Nat.le_trans (Nat.le_of_ble_eq_true rfl) hRf, Nat.le_trans (Nat.le_of_ble_eq_true rfl) hRl⟩) (z_preV (As := [.int f, .int (nI 2)]) hP hK 0 rfl rfl) rfl rfl hl.1 rfl (lv_room (Nat.le_of_ble_eq_true rfl)) dX3_mean_3 ⟨Nat.zero_le _, Nat.zero_le _⟩) ?_
  rcases fok_cases n kd f 2 (by omega) with hfij | ⟨j, hjj, rfl, hkdj, hfij⟩
  · rw [hfij]
    refine W.eq (g2 := F0 m 6 ls ([.null])) rfl ?_
    refine lv_astore_nN (lv' := [(3, .null), (0, .ref x0), (1, .int f), (2, .int w)]) hx hb dX3_mean_6 rfl hl (by decide) rfl (fun ls hl => ?_)
    refine lv_aload_nN hx hb dX3_mean_7 rfl (lv_at hl 0 rfl) ?_
    refine lv_ifnullN (tgt := 20) hx hb dX3_mean_8 (by decide) ?_
    refine lv_ldc2 (v := (-9223372036854775808)) hx hb hown (hts (.constantLong RX3 86 (-9223372036854775808)) (by decide +kernel)) dX3_mean_20 ?_
    have hnb : ¬ mnC n kd nz f w = nI 1 := by unfold mnC; rw [hfij]; show ¬ nI 0 = nI 1; decide
    exact z_retl (by unfold mnA; rw [hfij]; rfl) (ret _ _ hnb dX3_mean_23)
  · rw [hfij]
    refine W.eq (g2 := F0 m 6 ls ([.ref (fh j)])) rfl ?_
    have hPfj : va_P E.1 vwCl (fW E (fh j) (ft j) (fv j) (kd j) (nz j) (T j) (V j)) _ := P_fP (app_r hP) hjj
    refine lv_astore_n (lv' := [(3, .ref (fh j)), (0, .ref x0), (1, .int (nI j)), (2, .int w)]) hx hb dX3_mean_6 rfl hl (by decide) rfl (fun ls hl => ?_)
    refine lv_aload_n hx hb dX3_mean_7 rfl (lv_at hl 0 rfl) ?_
    refine lv_ifnull hx hb dX3_mean_8 ?_
    refine lv_iload_n hx hb dX3_mean_11 rfl (lv_at hl 3 rfl) ?_
    refine lv_if_lt (tgt := 20) hx hb dX3_mean_12 (by decide) (fun c_1 => ?_) (fun c_1 => ?_)
    · have hwb : w < 0 ∨ nI 1 < w := Or.inl c_1
      refine lv_ldc2 (v := (-9223372036854775808)) hx hb hown (hts (.constantLong RX3 86 (-9223372036854775808)) (by decide +kernel)) dX3_mean_20 ?_
      have hnb : ¬ mnC n kd nz (nI j) w = nI 1 := by unfold mnC; rw [hfij]; show ¬ (if w < 0 ∨ nI 1 < w then nI 0 else if nz j = 0 then nI 1 else nI 0) = nI 1; rw [if_pos hwb]; decide
      exact z_retl (by unfold mnA; rw [hfij]; show _ = (if w < 0 ∨ nI 1 < w then (-9223372036854775808) else if nz j = 0 then 0 else pof (sumV (V j) (nz j)) (nz j) w); rw [if_pos hwb]) (ret _ _ hnb dX3_mean_23)
    · refine lv_iload_n hx hb dX3_mean_15 rfl (lv_at hl 3 rfl) ?_
      refine lv_iconst (v := nI 1) hx hb dX3_mean_16 (by decide) ?_
      refine lv_icmp_le (tgt := 24) hx hb dX3_mean_17 (by decide) (fun c_2 => ?_) (fun c_2 => ?_)
      · have hwno : ¬ (w < 0 ∨ nI 1 < w) := fun q => q.elim c_1 (nlt_of_le c_2)
        have hzj := hz j hjj
        refine lv_aload_n hx hb dX3_mean_24 rfl (lv_at hl 0 rfl) ?_
        refine va_get (D := E.1) (ci := 1) (C := RX0) (T := TX0) (N := 4) hx hb hts hiX0 hown hK.1 hPfj 0 rfl rfl 3 (by decide) hf56 (fun _ h9 => h9) rfl dX3_mean_25 ?_
        refine zn_if_ne (tgt := 41) hx hb dX3_mean_28 (by decide) (by have := hz j hjj; omega) (fun c_3 => ?_) (fun c_3 => ?_)
        · have hspj := hsp j hjj hkdj
          refine lv_aload_n hx hb dX3_mean_41 rfl (lv_at hl 0 rfl) ?_
          refine zc_l (W.runV ⟨hx, hb, hml, hown, hts⟩ (kX0_sumOfValues l E (fh j) (ft j) (fv j) (nI (kd j)) (nz j) (T j) (V j) (hz j hjj)) (cwV 0 hts gX3_mean_X0_sumOfValues rfl rfl rfl (by decide +kernel) ⟨Nat.le_trans (Nat.le_of_ble_eq_true rfl) hRf, Nat.le_trans (Nat.le_of_ble_eq_true rfl) hRl⟩) (z_preV (As := []) hPfj hK 0 rfl rfl) rfl rfl hl.1 rfl (lv_room (Nat.le_of_ble_eq_true rfl)) dX3_mean_42 ⟨Nat.zero_le _, Nat.zero_le _⟩) ?_
          refine lv_aload_n hx hb dX3_mean_45 rfl (lv_at hl 0 rfl) ?_
          refine va_get (D := E.1) (ci := 1) (C := RX0) (T := TX0) (N := 4) hx hb hts hiX0 hown hK.1 hPfj 0 rfl rfl 3 (by decide) hf56 (fun _ h9 => h9) rfl dX3_mean_46 ?_
          refine lv_i2l (v := lN (nz j)) hx hb dX3_mean_49 (nI_l (by omega)) ?_
          refine lv_iload_n hx hb dX3_mean_50 rfl (lv_at hl 3 rfl) ?_
          refine zc_l (W.runS ⟨hx, hb, hml, hown, hts⟩ (kX3_partOfFraction l E (sumV (V j) (nz j)) (nz j) w (sumV_ne (hz j hjj) hspj) (hz j hjj |> fun h9 => by omega) (by omega)) (cwS 3 hts gX3_mean_X3_partOfFraction rfl rfl rfl (by decide +kernel) ⟨Nat.le_trans (Nat.le_of_ble_eq_true rfl) hRf, Nat.le_trans (Nat.le_of_ble_eq_true rfl) hRl⟩) (z_preR (av := [.long (sumV (V j) (nz j)), .long (lN (nz j)), .int w]) (hP.sub (ws' := []) [] rfl) hK) rfl rfl hl.1 rfl (lv_room (Nat.le_of_ble_eq_true rfl)) dX3_mean_51 ⟨Nat.zero_le _, Nat.zero_le _⟩) ?_
          have hnb : ¬ mnC n kd nz (nI j) w = nI 1 := by unfold mnC; rw [hfij]; show ¬ (if w < 0 ∨ nI 1 < w then nI 0 else if nz j = 0 then nI 1 else nI 0) = nI 1; rw [if_neg hwno, if_neg c_3]; decide
          exact z_retl (by unfold mnA; rw [hfij]; show _ = (if w < 0 ∨ nI 1 < w then (-9223372036854775808) else if nz j = 0 then 0 else pof (sumV (V j) (nz j)) (nz j) w); rw [if_neg hwno, if_neg c_3]) (ret _ _ hnb dX3_mean_54)
        · exact thr _ _ (by unfold mnC; rw [hfij]; show (if w < 0 ∨ nI 1 < w then nI 0 else if nz j = 0 then nI 1 else nI 0) = nI 1; rw [if_neg hwno, if_pos c_3]) hl.1 dX3_mean_31 dX3_mean_34 dX3_mean_35 dX3_mean_37 dX3_mean_40
      · have hwb : w < 0 ∨ nI 1 < w := Or.inr (gt_of_nle c_2)
        refine lv_ldc2 (v := (-9223372036854775808)) hx hb hown (hts (.constantLong RX3 86 (-9223372036854775808)) (by decide +kernel)) dX3_mean_20 ?_
        have hnb : ¬ mnC n kd nz (nI j) w = nI 1 := by unfold mnC; rw [hfij]; show ¬ (if w < 0 ∨ nI 1 < w then nI 0 else if nz j = 0 then nI 1 else nI 0) = nI 1; rw [if_pos hwb]; decide
        exact z_retl (by unfold mnA; rw [hfij]; show _ = (if w < 0 ∨ nI 1 < w then (-9223372036854775808) else if nz j = 0 then 0 else pof (sumV (V j) (nz j)) (nz j) w); rw [if_pos hwb]) (ret _ _ hnb dX3_mean_23)
set_option maxHeartbeats 4000000 in
set_option maxRecDepth 100000 in
theorem kX3_spread (l : Launch) (hst : l.stackTraces = false) (E : zE) (sz : Nat) (x0 fa tb st jn rs lm : Nat) (fh ft fv kd nz : Nat → Nat) (T : Nat → Nat → Int32) (V : Nat → Nat → Int64) (n b : Nat) (S J : Nat → Nat) (w1 w2 w3 w4 : Int32) (L : Nat → Int64) (hn : n ≤ 12) (hz : ∀ j, j < n → nz j ≤ 64) (hk5 : ∀ j, j < n → kd j < 5) (hsp : ∀ j, j < n → kd j = 2 → isSp (V j) (nz j)) (f w : Int32) : vx_Met l yX3_spread wsX3_spread (rmC 9 1 6) (va_Pc [.ref x0, .int f, .int w] (fun U => zS E (xB E x0 fa tb st jn rs lm fh n b S J w1 w2 w3 w4 L ++ fP E fh ft fv kd nz T V n) sz U ∧ gTh 101 cAE "no rows, no spread" yAE (va_A (xB E x0 fa tb st jn rs lm fh n b S J w1 w2 w3 w4 L ++ fP E fh ft fv kd nz T V n) sz) U)) (va_Ql (fun (r9 : Int64) (_ : Unit) => r9 = sdA n kd nz V f w ∧ ¬ (mnC n kd nz f w = nI 1)) (fun _ t => zW E (xB E x0 fa tb st jn rs lm fh n b S J w1 w2 w3 w4 L ++ fP E fh ft fv kd nz T V n) t) (va_A (xB E x0 fa tb st jn rs lm fh n b S J w1 w2 w3 w4 L ++ fP E fh ft fv kd nz T V n) sz)) (vx_X (fun (_ : Unit) => (mnC n kd nz f w = nI 1)) (fun E9 _ t => E9 = cAE ∧ va_P E.1 vwCl (xB E x0 fa tb st jn rs lm fh n b S J w1 w2 w3 w4 L ++ fP E fh ft fv kd nz T V n) t.heap) (va_A (xB E x0 fa tb st jn rs lm fh n b S J w1 w2 w3 w4 L ++ fP E fh ft fv kd nz T V n) sz)) 1 6 (va_A (xB E x0 fa tb st jn rs lm fh n b S J w1 w2 w3 w4 L ++ fP E fh ft fv kd nz T V n) sz) := by
  refine z_ofXl (cc := cX3_spread) (maxL := 8) (names := nAE) (ik := 88) (ic := 92) hst (by decide) rfl rfl (Nat.le_of_ble_eq_true rfl) ftAE.1 ftAE.2 thAE (fun w h => List.mem_cons_of_mem _ (List.mem_append_right _ h)) dcAE (by decide +kernel) (by decide +kernel) (by decide) (by decide) ?_
  intro p e s m args below meth c R Q B hP ret thr ls hl
  obtain ⟨hx, hb, hml, hown, hts, hK, hRf, hRl⟩ := B
  have hiX0 : ∀ w ∈ wsX00, w ∈ wsX3_spread := by decide +kernel
  have hf56 := hts (.fieldLink RX3 56 "ExactFolds$Fold" "size" "I") (by decide +kernel)
  have hl : lv_has ls 8 [(0, .ref x0), (1, .int f), (2, .int w)] := hl
  refine lv_aload_n hx hb dX3_spread_0 rfl (lv_at hl 0 rfl) ?_
  refine lv_iload_n hx hb dX3_spread_1 rfl (lv_at hl 1 rfl) ?_
  refine lv_iconst (v := nI 2) hx hb dX3_spread_2 (by decide) ?_
  refine zc_q (W.runV ⟨hx, hb, hml, hown, hts⟩ (kX3_foldOfKind l E x0 fa tb st jn rs lm fh ft fv kd nz T V n b S J w1 w2 w3 w4 L hn hk5 f 2 (by decide)) (cwV 2 hts gX3_spread_X3_foldOfKind rfl rfl rfl (by decide +kernel) ⟨Nat.le_trans (Nat.le_of_ble_eq_true rfl) hRf, Nat.le_trans (Nat.le_of_ble_eq_true rfl) hRl⟩) (z_preV (As := [.int f, .int (nI 2)]) hP hK 0 rfl rfl) rfl rfl hl.1 rfl (lv_room (Nat.le_of_ble_eq_true rfl)) dX3_spread_3 ⟨Nat.zero_le _, Nat.zero_le _⟩) ?_
  rcases fok_cases n kd f 2 (by omega) with hfij | ⟨j, hjj, rfl, hkdj, hfij⟩
  · rw [hfij]
    refine W.eq (g2 := F0 m 6 ls ([.null])) rfl ?_
    refine lv_astore_nN (lv' := [(3, .null), (0, .ref x0), (1, .int f), (2, .int w)]) hx hb dX3_spread_6 rfl hl (by decide) rfl (fun ls hl => ?_)
    refine lv_aload_nN hx hb dX3_spread_7 rfl (lv_at hl 0 rfl) ?_
    refine lv_ifnullN (tgt := 20) hx hb dX3_spread_8 (by decide) ?_
    refine lv_ldc2 (v := (-9223372036854775808)) hx hb hown (hts (.constantLong RX3 86 (-9223372036854775808)) (by decide +kernel)) dX3_spread_20 ?_
    have hnb : ¬ mnC n kd nz f w = nI 1 := by unfold mnC; rw [hfij]; show ¬ nI 0 = nI 1; decide
    exact z_retl (by unfold sdA; rw [hfij]; rfl) (ret _ _ hnb dX3_spread_23)
  · rw [hfij]
    refine W.eq (g2 := F0 m 6 ls ([.ref (fh j)])) rfl ?_
    have hPfj : va_P E.1 vwCl (fW E (fh j) (ft j) (fv j) (kd j) (nz j) (T j) (V j)) _ := P_fP (app_r hP) hjj
    refine lv_astore_n (lv' := [(3, .ref (fh j)), (0, .ref x0), (1, .int (nI j)), (2, .int w)]) hx hb dX3_spread_6 rfl hl (by decide) rfl (fun ls hl => ?_)
    refine lv_aload_n hx hb dX3_spread_7 rfl (lv_at hl 0 rfl) ?_
    refine lv_ifnull hx hb dX3_spread_8 ?_
    refine lv_iload_n hx hb dX3_spread_11 rfl (lv_at hl 3 rfl) ?_
    refine lv_if_lt (tgt := 20) hx hb dX3_spread_12 (by decide) (fun c_1 => ?_) (fun c_1 => ?_)
    · have hwb : w < 0 ∨ nI 1 < w := Or.inl c_1
      refine lv_ldc2 (v := (-9223372036854775808)) hx hb hown (hts (.constantLong RX3 86 (-9223372036854775808)) (by decide +kernel)) dX3_spread_20 ?_
      have hnb : ¬ mnC n kd nz (nI j) w = nI 1 := by unfold mnC; rw [hfij]; show ¬ (if w < 0 ∨ nI 1 < w then nI 0 else if nz j = 0 then nI 1 else nI 0) = nI 1; rw [if_pos hwb]; decide
      exact z_retl (by unfold sdA; rw [hfij]; show _ = (if w < 0 ∨ nI 1 < w then (-9223372036854775808) else if nz j = 0 then 0 else pof (spU (V j) (nz j)) (nz j * nz j) w); rw [if_pos hwb]) (ret _ _ hnb dX3_spread_23)
    · refine lv_iload_n hx hb dX3_spread_15 rfl (lv_at hl 3 rfl) ?_
      refine lv_iconst (v := nI 1) hx hb dX3_spread_16 (by decide) ?_
      refine lv_icmp_le (tgt := 24) hx hb dX3_spread_17 (by decide) (fun c_2 => ?_) (fun c_2 => ?_)
      · have hwno : ¬ (w < 0 ∨ nI 1 < w) := fun q => q.elim c_1 (nlt_of_le c_2)
        have hzj := hz j hjj
        refine lv_aload_n hx hb dX3_spread_24 rfl (lv_at hl 0 rfl) ?_
        refine va_get (D := E.1) (ci := 1) (C := RX0) (T := TX0) (N := 4) hx hb hts hiX0 hown hK.1 hPfj 0 rfl rfl 3 (by decide) hf56 (fun _ h9 => h9) rfl dX3_spread_25 ?_
        refine zn_if_ne (tgt := 41) hx hb dX3_spread_28 (by decide) (by have := hz j hjj; omega) (fun c_3 => ?_) (fun c_3 => ?_)
        · have hspj := hsp j hjj hkdj
          refine lv_aload_n hx hb dX3_spread_41 rfl (lv_at hl 0 rfl) ?_
          refine va_get (D := E.1) (ci := 1) (C := RX0) (T := TX0) (N := 4) hx hb hts hiX0 hown hK.1 hPfj 0 rfl rfl 3 (by decide) hf56 (fun _ h9 => h9) rfl dX3_spread_42 ?_
          refine lv_i2l (v := lN (nz j)) hx hb dX3_spread_45 (nI_l (by omega)) ?_
          refine lv_lstore (lv' := [(4, .long (lN (nz j))), (3, .ref (fh j)), (0, .ref x0), (1, .int (nI j)), (2, .int w)]) hx hb dX3_spread_46 hl (by decide) rfl (fun ls hl => ?_)
          refine lv_aload_n hx hb dX3_spread_48 rfl (lv_at hl 1 rfl) ?_
          refine zc_l (W.runV ⟨hx, hb, hml, hown, hts⟩ (kX0_sumOfValues l E (fh j) (ft j) (fv j) (nI (kd j)) (nz j) (T j) (V j) (hz j hjj)) (cwV 0 hts gX3_spread_X0_sumOfValues rfl rfl rfl (by decide +kernel) ⟨Nat.le_trans (Nat.le_of_ble_eq_true rfl) hRf, Nat.le_trans (Nat.le_of_ble_eq_true rfl) hRl⟩) (z_preV (As := []) hPfj hK 0 rfl rfl) rfl rfl hl.1 rfl (lv_room (Nat.le_of_ble_eq_true rfl)) dX3_spread_49 ⟨Nat.zero_le _, Nat.zero_le _⟩) ?_
          refine lv_lstore (lv' := [(6, .long (sumV (V j) (nz j))), (4, .long (lN (nz j))), (3, .ref (fh j)), (0, .ref x0), (1, .int (nI j)), (2, .int w)]) hx hb dX3_spread_52 hl (by decide) rfl (fun ls hl => ?_)
          refine lv_lload hx hb dX3_spread_54 (lv_at hl 1 rfl) ?_
          refine lv_aload_n hx hb dX3_spread_56 rfl (lv_at hl 2 rfl) ?_
          refine zc_l (W.runV ⟨hx, hb, hml, hown, hts⟩ (kX0_sumOfSquares l E (fh j) (ft j) (fv j) (nI (kd j)) (nz j) (T j) (V j) (hz j hjj)) (cwV 0 hts gX3_spread_X0_sumOfSquares rfl rfl rfl (by decide +kernel) ⟨Nat.le_trans (Nat.le_of_ble_eq_true rfl) hRf, Nat.le_trans (Nat.le_of_ble_eq_true rfl) hRl⟩) (z_preV (As := []) hPfj hK 0 rfl rfl) rfl rfl hl.1 rfl (lv_room (Nat.le_of_ble_eq_true rfl)) dX3_spread_57 ⟨Nat.zero_le _, Nat.zero_le _⟩) ?_
          refine lv_lmul hx hb dX3_spread_60 ?_
          refine lv_lload hx hb dX3_spread_61 (lv_at hl 0 rfl) ?_
          refine lv_lload hx hb dX3_spread_63 (lv_at hl 0 rfl) ?_
          refine lv_lmul hx hb dX3_spread_65 ?_
          refine lv_lsub hx hb dX3_spread_66 ?_
          refine lv_lload hx hb dX3_spread_67 (lv_at hl 1 rfl) ?_
          refine lv_lload hx hb dX3_spread_69 (lv_at hl 1 rfl) ?_
          refine lv_lmul hx hb dX3_spread_71 ?_
          refine W.eq (g2 := F0 m 72 ls ([.long (lN (nz j * nz j)), .long (((lN (nz j)) * (sumQ (V j) (nz j))) - ((sumV (V j) (nz j)) * (sumV (V j) (nz j))))])) (by rw [show ((lN (nz j)) * (lN (nz j)) : Int64) = lN (nz j * nz j) from lN_mul (nz j) (nz j)]) ?_
          refine lv_iload_n hx hb dX3_spread_72 rfl (lv_at hl 5 rfl) ?_
          refine zc_l (W.runS ⟨hx, hb, hml, hown, hts⟩ (kX3_partOfFraction l E (spU (V j) (nz j)) (nz j * nz j) w (spU_ne (hz j hjj) hspj) (Nat.le_trans (Nat.mul_le_mul (hz j hjj) (hz j hjj)) (by decide)) (Nat.mul_pos (by omega) (by omega))) (cwS 3 hts gX3_spread_X3_partOfFraction rfl rfl rfl (by decide +kernel) ⟨Nat.le_trans (Nat.le_of_ble_eq_true rfl) hRf, Nat.le_trans (Nat.le_of_ble_eq_true rfl) hRl⟩) (z_preR (av := [.long (((lN (nz j)) * (sumQ (V j) (nz j))) - ((sumV (V j) (nz j)) * (sumV (V j) (nz j)))), .long (lN (nz j * nz j)), .int w]) (hP.sub (ws' := []) [] rfl) hK) rfl rfl hl.1 rfl (lv_room (Nat.le_of_ble_eq_true rfl)) dX3_spread_73 ⟨Nat.zero_le _, Nat.zero_le _⟩) ?_
          have hnb : ¬ mnC n kd nz (nI j) w = nI 1 := by unfold mnC; rw [hfij]; show ¬ (if w < 0 ∨ nI 1 < w then nI 0 else if nz j = 0 then nI 1 else nI 0) = nI 1; rw [if_neg hwno, if_neg c_3]; decide
          exact z_retl (by unfold sdA; rw [hfij]; show _ = (if w < 0 ∨ nI 1 < w then (-9223372036854775808) else if nz j = 0 then 0 else pof (spU (V j) (nz j)) (nz j * nz j) w); rw [if_neg hwno, if_neg c_3]) (ret _ _ hnb dX3_spread_76)
        · exact thr _ _ (by unfold mnC; rw [hfij]; show (if w < 0 ∨ nI 1 < w then nI 0 else if nz j = 0 then nI 1 else nI 0) = nI 1; rw [if_neg hwno, if_pos c_3]) hl.1 dX3_spread_31 dX3_spread_34 dX3_spread_35 dX3_spread_37 dX3_spread_40
      · have hwb : w < 0 ∨ nI 1 < w := Or.inr (gt_of_nle c_2)
        refine lv_ldc2 (v := (-9223372036854775808)) hx hb hown (hts (.constantLong RX3 86 (-9223372036854775808)) (by decide +kernel)) dX3_spread_20 ?_
        have hnb : ¬ mnC n kd nz (nI j) w = nI 1 := by unfold mnC; rw [hfij]; show ¬ (if w < 0 ∨ nI 1 < w then nI 0 else if nz j = 0 then nI 1 else nI 0) = nI 1; rw [if_pos hwb]; decide
        exact z_retl (by unfold sdA; rw [hfij]; show _ = (if w < 0 ∨ nI 1 < w then (-9223372036854775808) else if nz j = 0 then 0 else pof (spU (V j) (nz j)) (nz j * nz j) w); rw [if_pos hwb]) (ret _ _ hnb dX3_spread_23)
