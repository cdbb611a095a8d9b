/-! the law: what the tables and the start give; its entry -/
set_option maxRecDepth 20000 in
theorem lw_E {args : Array Value} {s : State} (hts : ∀ w ∈ lw_tbl, w.before args s = true) : ∃ E : zE, zK E s := by
  obtain ⟨c0, i0, k0⟩ := u_known hts inJx00060 (hts (.instantiable RJx00060 6) (by decide +kernel))
  obtain ⟨c1, i1, k1⟩ := u_known hts inX0 (hts (.instantiable RX0 4) (by decide +kernel))
  obtain ⟨c2, i2, k2⟩ := u_known hts inX1 (hts (.instantiable RX1 1) (by decide +kernel))
  obtain ⟨c3, i3, k3⟩ := u_known hts inX2 (hts (.instantiable RX2 7) (by decide +kernel))
  obtain ⟨c4, i4, k4⟩ := u_known hts inX3 (hts (.instantiable RX3 4) (by decide +kernel))
  obtain ⟨c5, i5, k5⟩ := u_known hts inX4 (hts (.instantiable RX4 19) (by decide +kernel))
  obtain ⟨a1, ka1, co1, e1, f1, g1⟩ := Cond.arrayClass_spec (hts (.arrayClass .int) (by decide +kernel))
  obtain ⟨a2, ka2, co2, e2, f2, g2⟩ := Cond.arrayClass_spec (hts (.arrayClass .long) (by decide +kernel))
  obtain ⟨a3, ka3, co3, e3, f3, g3⟩ := Cond.arrayClass_spec (hts (.arrayClass .boolean) (by decide +kernel))
  obtain ⟨co4, a4, ka4, e4, -, f4, g4, h4⟩ := Cond.arrayOver_spec (hts (.arrayOver (.object RX0)) (by decide +kernel))
  refine ⟨((fun c => if c = 0 then c0 else if c = 1 then c1 else if c = 2 then c2 else if c = 3 then c3 else if c = 4 then c4 else c5, fun c => if c = 0 then i0 else if c = 1 then i1 else if c = 2 then i2 else if c = 3 then i3 else if c = 4 then i4 else i5), a1, a2, a3, a4), ⟨fun c q hq => ?_, fun k q hq => ?_⟩, va_Nw.of rfl (hts (.methodLinkNest RX2 88 yX3_isState RX3) (by decide +kernel))⟩
  · have hc : c < 6 := (List.getElem?_eq_some_iff.mp hq).1
    rcases (show c = 0 ∨ c = 1 ∨ c = 2 ∨ c = 3 ∨ c = 4 ∨ c = 5 by omega) with rfl | rfl | rfl | rfl | rfl | rfl
    · obtain rfl : _ = q := Option.some.inj hq; exact k0
    · obtain rfl : _ = q := Option.some.inj hq; exact k1
    · obtain rfl : _ = q := Option.some.inj hq; exact k2
    · obtain rfl : _ = q := Option.some.inj hq; exact k3
    · obtain rfl : _ = q := Option.some.inj hq; exact k4
    · obtain rfl : _ = q := Option.some.inj hq; exact k5
  · have hk : k < 4 := (List.getElem?_eq_some_iff.mp hq).1
    rcases (show k = 0 ∨ k = 1 ∨ k = 2 ∨ k = 3 by omega) with rfl | rfl | rfl | rfl
    · obtain rfl : _ = q := Option.some.inj hq
      exact ⟨fun n z => ⟨fun k h => (by cases h), ka1, f1, co1, g1⟩, e1⟩
    · obtain rfl : _ = q := Option.some.inj hq
      exact ⟨fun n z => ⟨fun k h => (by cases h), ka2, f2, co2, g2⟩, e2⟩
    · obtain rfl : _ = q := Option.some.inj hq
      exact ⟨fun n z => ⟨fun k h => (by cases h), ka3, f3, co3, g3⟩, e3⟩
    · obtain rfl : _ = q := Option.some.inj hq
      exact ⟨fun n z => ⟨fun k h => (by cases h), ka4, f4, co4, g4⟩, ka4, co4, f4, g4, e4, h4⟩
set_option maxRecDepth 20000 in
theorem lw_g {args : Array Value} {s : State} {E : zE} (hts : ∀ w ∈ lw_tbl, w.before args s = true) (hgv : (Jvm.Cond.and given_1 narrow_1).before args s = true) (hK : zK E s) {is : Nat} {cls text : String} {ys : List MethodName} (h1 : ∀ y ∈ ys, Cond.declares y ∈ lw_tbl) (h2 : Cond.castable cls cls ∈ lw_tbl) (h3 : Cond.stringRef RX3 is text ∈ lw_tbl) : gTh is cls text ys (lwA s) s := by
  have hf := flat_of_before _ hgv
  have hA : ∀ a : Nat, a < s.heap.size → ¬ lwA s a := fun a h q => Nat.not_lt.mpr q h
  obtain ⟨-, -, -, sa, -, -, -, -, -, hev⟩ := Cond.stringRef_spec (hK.1.1 4 _ rfl).2.1 (hts _ h3)
  exact ⟨⟨vx_Zqof (hts (.laysStatic Bundle.tN "UNASSIGNED_STACK" Bundle.steD) (by decide +kernel)) (hts (.initialized Bundle.tN) (by decide +kernel)) (hf (.isRef (.static Bundle.tN "UNASSIGNED_STACK" Bundle.steD)) (by decide +kernel)) hA, vx_Zqof (hts (.laysStatic Bundle.tN "SUPPRESSED_SENTINEL" Bundle.listD) (by decide +kernel)) (hts (.initialized Bundle.tN) (by decide +kernel)) (hf (.isRef (.static Bundle.tN "SUPPRESSED_SENTINEL" Bundle.listD)) (by decide +kernel)) hA⟩, fun y hy => va_Nw.of rfl (hts _ (h1 y hy)), va_Nw.of rfl (hts _ h2), sa, vk_R.of (hts _ h3) hev⟩
set_option maxRecDepth 20000 in
theorem lw_g1 : (∀ y ∈ yIOB, Cond.declares y ∈ lw_tbl) ∧ Cond.castable RJx00060 RJx00060 ∈ lw_tbl ∧ Cond.stringRef RX3 73 tIOB ∈ lw_tbl := ⟨by decide +kernel, by decide +kernel, by decide +kernel⟩
set_option maxRecDepth 20000 in
theorem lw_g2 : (∀ y ∈ yAE, Cond.declares y ∈ lw_tbl) ∧ Cond.castable cAE cAE ∈ lw_tbl ∧ Cond.stringRef RX3 90 "no rows, no mean" ∈ lw_tbl ∧ Cond.stringRef RX3 101 "no rows, no spread" ∈ lw_tbl := ⟨by decide +kernel, by decide +kernel, by decide +kernel, by decide +kernel⟩
set_option maxRecDepth 20000 in
theorem lw_gX {args : Array Value} {s : State} (hts : ∀ w ∈ lw_tbl, w.before args s = true) : gX3 s := ⟨va_AO.of (hts (.arrayOver (.object RX0)) (by decide +kernel)), va_Nw.of rfl (hts (.methodLinkNest RX3 23 yX2_init RX3) (by decide +kernel)), va_Nw.of rfl (hts (.methodLinkNest RX3 30 yX1_init RX3) (by decide +kernel))⟩
section ENTRY
variable {p : Program} {l : Launch} {e : Env} {s : State} {m : MethodId} {below : List Frame} {meth : Method} {c : Code} {Q : State → Prop} {ls : Array Slot} {E : zE} {sb Ln : Nat} {xs : Nat → Int32}
set_option maxHeartbeats 4000000 in
set_option maxRecDepth 100000 in
theorem lw_entry (B : lwB p l s m c E sb Ln xs) (hG : gX3 s) (hl : lv_has ls 8 [(0, .ref sb)]) (fin : ∀ (H1 : Heap) (locs1 : List Loc) (ls1 : Array Slot) (c1 s1 : Nat), va_S (lwA s) s.heap H1 locs1 → c1 ≤ 5000 → s1 ≤ 100000 → W p l e room_1 s m #[Value.ref sb] below meth c H1 locs1 c1 s1 Q (F0 m 1202 ls1 [])) : W p l e room_1 s m #[Value.ref sb] below meth c s.heap [] 0 0 Q (F0 m 0 ls []) := by
  have B2 := B
  obtain ⟨⟨hx, hb, hml, hown, hts⟩, hK, -, -, hL, -⟩ := B2
  have hw : ∀ w ∈ wsL_law, w.before #[Value.ref sb] s = true := fun w h => hts w (List.mem_append_left _ h)
  have hA : ∀ q : Nat, s.heap.size ≤ q → lwA s q := fun q h => h
  have hS : va_S (lwA s) s.heap s.heap [] := va_S.rf
  have hP : va_P E.1 vwCl ([] : va_W) s.heap := fun k q h => by cases h
  have hD : va_D (lwA s) ([] : va_W) := ⟨fun _ _ _ _ h => (by cases h), fun _ _ h => (by cases h)⟩
  refine va_new (ci := 4) (fs := [.null, .int 0, .null, .null]) (C := RX3) (T := TX3) (N := 4) hx hb hw inlX3 tyX3 tyX3_ok hown (hw (.classLink RL 8 RX3) (by decide +kernel)) (hw (.instantiable RX3 4) (by decide +kernel)) (hw (.initialized RX3) (by decide +kernel)) hK.1 hP hD hS hA rfl (fun j hj => by rcases (show j = 0 ∨ j = 1 ∨ j = 2 ∨ j = 3 by omega) with rfl | rfl | rfl | rfl <;> rfl) (Nat.le_of_ble_eq_true rfl) (Nat.le_of_ble_eq_true rfl) dL_law_0 (fun x0 H hP hD hS => ?_)
  refine lv_dup hx hb dL_law_3 rfl ?_
  refine znw_v (va_runI (As := []) (rest := [.ref x0]) ⟨hx, hb, hml, hown, hts⟩ (kX3_init l E H.size x0) (cwI 0 hts (good_app gL_law_X3_init) rfl rfl rfl (hw (.initialized RX3) (by decide +kernel)) (hw (.methodLink RL 24 yX3_init) (by decide +kernel)) (hw (.instanceMethod yX3_init) (by decide +kernel)) rfl (by decide +kernel) ⟨Nat.le_of_ble_eq_true rfl, Nat.le_of_ble_eq_true rfl⟩) (z_preN gX3_call (fun U hU hW => gX3_warm hW hG) (app_r hP) (D_r hD) hK) rfl rfl hl.1 rfl (lv_room (Nat.le_of_ble_eq_true rfl)) dL_law_4 ⟨Nat.le_of_ble_eq_true rfl, Nat.le_of_ble_eq_true rfl⟩) hP hD hS hA (fun H locs u hP hD hS => ?_)
  refine lv_astore_n (lv' := [(1, .ref x0), (0, .ref sb)]) hx hb dL_law_7 rfl hl (by decide) rfl (fun ls hl => ?_)
  refine va_new (ci := 5) (fs := [.int 0, .int 0, .null, .null, .null, .null, .null, .null, .int 0, .null, .null, .null, .int 0, .int 0, .int 0, .int 0, .null, .null, .null]) (C := RX4) (T := TX4) (N := 19) hx hb hw inlX4 tyX4 tyX4_ok hown (hw (.classLink RL 25 RX4) (by decide +kernel)) (hw (.instantiable RX4 19) (by decide +kernel)) (hw (.initialized RX4) (by decide +kernel)) hK.1 hP hD hS hA rfl (fun j hj => by rcases (show j = 0 ∨ j = 1 ∨ j = 2 ∨ j = 3 ∨ j = 4 ∨ j = 5 ∨ j = 6 ∨ j = 7 ∨ j = 8 ∨ j = 9 ∨ j = 10 ∨ j = 11 ∨ j = 12 ∨ j = 13 ∨ j = 14 ∨ j = 15 ∨ j = 16 ∨ j = 17 ∨ j = 18 by omega) with rfl | rfl | rfl | rfl | rfl | rfl | rfl | rfl | rfl | rfl | rfl | rfl | rfl | rfl | rfl | rfl | rfl | rfl | rfl <;> rfl) (Nat.le_of_ble_eq_true rfl) (Nat.le_of_ble_eq_true rfl) dL_law_8 (fun m0 H hP hD hS => ?_)
  refine lv_dup hx hb dL_law_11 rfl ?_
  refine znw_v (va_runI (As := []) (rest := [.ref m0]) ⟨hx, hb, hml, hown, hts⟩ (kX4_init l E H.size m0) (cwI 0 hts (good_app gL_law_X4_init) rfl rfl rfl (hw (.initialized RX4) (by decide +kernel)) (hw (.methodLink RL 27 yX4_init) (by decide +kernel)) (hw (.instanceMethod yX4_init) (by decide +kernel)) rfl (by decide +kernel) ⟨Nat.le_of_ble_eq_true rfl, Nat.le_of_ble_eq_true rfl⟩) (z_preN gT_call (fun _ _ _ => trivial) (app_r hP) (D_r hD) hK) rfl rfl hl.1 rfl (lv_room (Nat.le_of_ble_eq_true rfl)) dL_law_12 ⟨Nat.le_of_ble_eq_true rfl, Nat.le_of_ble_eq_true rfl⟩) hP hD hS hA (fun H locs v hP hD hS => ?_)
  refine lv_astore_n (lv' := [(2, .ref m0), (1, .ref x0), (0, .ref sb)]) hx hb dL_law_15 rfl hl (by decide) rfl (fun ls hl => ?_)
  refine lv_iconst (v := nI 1) hx hb dL_law_16 (by decide) ?_
  refine z_newl hx hb (hw (.arrayClass .long) (by decide +kernel)) hK hP hD hS hA (n := 1) (by decide) (Nat.le_of_ble_eq_true rfl) (Nat.le_of_ble_eq_true rfl) dL_law_17 (fun o0 H hP hD hS => ?_)
  refine lv_astore_n (lv' := [(3, .ref o0), (2, .ref m0), (1, .ref x0), (0, .ref sb)]) hx hb dL_law_19 rfl hl (by decide) rfl (fun ls hl => ?_)
  refine lv_iconst (v := nI 0) hx hb dL_law_20 (by decide) ?_
  refine lv_istore (lv' := [(4, .int (nI 0)), (3, .ref o0), (2, .ref m0), (1, .ref x0), (0, .ref sb)]) hx hb dL_law_21 hl (by decide) rfl (fun ls hl => ?_)
  refine lw_loop (x0 := x0) (m0 := m0) (o0 := o0) B fin (Ln + 1) 0 H _ ls _ _ (by omega) (by omega) ?_ hS (Nat.le_of_ble_eq_true rfl) (Nat.le_of_ble_eq_true rfl) (lv_sub hl [4, 3, 2, 1, 0] rfl)
  exact ⟨u.1, u.2.1, u.2.2.1, u.2.2.2.1, u.2.2.2.2.1, u.2.2.2.2.2, fun _ => 0, fun _ => 0, fun _ => 0, fun _ => 0, fun _ => 0, fun _ _ => 0, fun _ _ => 0, 0, 0, fun _ => 0, fun _ => 0, nI 0, -3, -3, -3, fun _ => 0, fun _ => 0, v.1, v.2.1, v.2.2.1, v.2.2.2.1, v.2.2.2.2.1, v.2.2.2.2.2.1, v.2.2.2.2.2.2.1, v.2.2.2.2.2.2.2.1, v.2.2.2.2.2.2.2.2.1, v.2.2.2.2.2.2.2.2.2.1, v.2.2.2.2.2.2.2.2.2.2.1, v.2.2.2.2.2.2.2.2.2.2.2, 0, fun _ => nI 0, fun _ => 0, fun _ => 0, fun _ => 0, fun _ => false, 0, 0, 0, 0, fun _ => 0, fun _ => 0, fun _ => 0, Rl_0, hP.sub [0, 1, 2, 3, 4, 5, 6, 20, 7, 8, 9, 10, 11, 12, 13, 14, 15, 16, 17, 18, 19] rfl, hD.sub [0, 1, 2, 3, 4, 5, 6, 20, 7, 8, 9, 10, 11, 12, 13, 14, 15, 16, 17, 18, 19] (by decide) rfl⟩
end ENTRY
