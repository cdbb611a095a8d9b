/-! fold: a new Fold -/
noncomputable def fdX {α : Type} (F : Nat → α) (n : Nat) (k : Int32) (x : α) : Nat → α := @ite _ (fdOk n k) (Classical.propDecidable _) (updN F n x) F
theorem fdX_y {α : Type} {F : Nat → α} {n : Nat} {k : Int32} {x : α} (h : fdOk n k) : fdX F n k x = updN F n x := by unfold fdX; rw [if_pos h]
theorem fdX_n {α : Type} {F : Nat → α} {n : Nat} {k : Int32} {x : α} (h : ¬ fdOk n k) : fdX F n k x = F := by unfold fdX; rw [if_neg h]
theorem fdN_y {n : Nat} {k : Int32} (h : fdOk n k) : fdN n k = n + 1 := by unfold fdN; rw [if_pos h]
theorem fdN_n {n : Nat} {k : Int32} (h : ¬ fdOk n k) : fdN n k = n := by unfold fdN; rw [if_neg h]
def xG (E : zE) (x0 fa tb st jn rs lm : Nat) (g : Nat → Option Nat) (n b : Nat) (S J : Nat → Nat) (w1 w2 w3 w4 : Int32) (L : Nat → Int64) : va_W := [(x0, .inr (4, [.ref fa, .int (nI n), .ref tb, .ref rs])), (fa, .inl (E.2.2.2.2, 12, .inr (.inr (.inr (.inr g))))), (tb, .inr (3, [.int (nI b), .ref st, .ref jn, .int w1, .int w2, .int w3, .int w4])), (st, .inl (E.2.1, 32, .inl (fun j => nI (S j)))), (jn, .inl (E.2.1, 64, .inl (fun j => nI (J j)))), (rs, .inr (2, [.ref lm])), (lm, .inl (E.2.2.1, 67, .inr (.inl L)))]
theorem fRef_up (fh : Nat → Nat) (n q : Nat) : va_up (fRef fh n) n (some q) = fRef (updN fh n q) (n + 1) := by
  funext j
  unfold va_up fRef updN
  by_cases e : j = n
  · rw [if_pos e, if_pos (by omega), if_pos e]
  · rw [if_neg e]
    by_cases h : j < n
    · rw [if_pos h, if_pos (by omega), if_neg e]
    · rw [if_neg h, if_neg (by omega)]
theorem fP_cg {E : zE} {fh ft fv kd sz fh' ft' fv' kd' sz' : Nat → Nat} {T T' : Nat → Nat → Int32} {V V' : Nat → Nat → Int64} {n : Nat} (h : ∀ j, j < n → fh' j = fh j ∧ ft' j = ft j ∧ fv' j = fv j ∧ kd' j = kd j ∧ sz' j = sz j ∧ T' j = T j ∧ V' j = V j) : fP E fh' ft' fv' kd' sz' T' V' n = fP E fh ft fv kd sz T V n := by
  induction n with
  | zero => rfl
  | succ n ih =>
    obtain ⟨a1, a2, a3, a4, a5, a6, a7⟩ := h n (by omega)
    rw [fP_succ, fP_succ, ih (fun j hj => h j (by omega)), a1, a2, a3, a4, a5, a6, a7]
theorem fP_push (E : zE) (fh ft fv kd nz : Nat → Nat) (T : Nat → Nat → Int32) (V : Nat → Nat → Int64) (n a1 a2 a3 a4 a5 : Nat) (t : Nat → Int32) (v : Nat → Int64) : fP E fh ft fv kd nz T V n ++ fW E a1 a2 a3 a4 a5 t v = fP E (updN fh n a1) (updN ft n a2) (updN fv n a3) (updN kd n a4) (updN nz n a5) (updN T n t) (updN V n v) (n + 1) := by
  rw [fP_succ]
  congr 1
  · refine (fP_cg (fun j hj => ?_)).symm
    have e : j ≠ n := by omega
    exact ⟨updN_ne _ _ e, updN_ne _ _ e, updN_ne _ _ e, updN_ne _ _ e, updN_ne _ _ e, updN_ne _ _ e, updN_ne _ _ e⟩
  · simp only [updN_self]
theorem k4_of {k : Int32} (c1 : ¬ k < 0) (c2 : k ≤ nI 4) : ∃ j : Nat, j < 5 ∧ k = nI j := fi_of (by decide) c1 (nle5 c2)
set_option maxHeartbeats 4000000 in
set_option maxRecDepth 100000 in
theorem kX3_fold (l : Launch) (E : zE) (sz : Nat) (x0 fa tb st jn rs lm : Nat) (fh ft fv kd nz : Nat → Nat) (T : Nat → Nat → Int32) (V : Nat → Nat → Int64) (n b : Nat) (S J : Nat → Nat) (w1 w2 w3 w4 : Int32) (L : Nat → Int64) (hn : n ≤ 12) (k : Int32) : Met l yX3_fold wsX3_fold (rmC 3 3 132) (va_Pc [.ref x0, .int k] (zS E (xB E x0 fa tb st jn rs lm fh n b S J w1 w2 w3 w4 L ++ fP E fh ft fv kd nz T V n) sz)) (va_Qi (fun (r9 : Int32) (_ : Nat × Nat × Nat) => r9 = fdA n k) (fun u t9 => zW E (xB E x0 fa tb st jn rs lm (fdX fh n k u.1) (fdN n k) b S J w1 w2 w3 w4 L ++ fP E (fdX fh n k u.1) (fdX ft n k u.2.1) (fdX fv n k u.2.2) (fdX kd n k k.toNatClampNeg) (fdX nz n k 0) (fdX T n k (fun _ => nI 0)) (fdX V n k (fun _ => 0)) (fdN n k)) t9 ∧ va_D (va_A (xB E x0 fa tb st jn rs lm fh n b S J w1 w2 w3 w4 L ++ fP E fh ft fv kd nz T V n) sz) (xB E x0 fa tb st jn rs lm (fdX fh n k u.1) (fdN n k) b S J w1 w2 w3 w4 L ++ fP E (fdX fh n k u.1) (fdX ft n k u.2.1) (fdX fv n k u.2.2) (fdX kd n k k.toNatClampNeg) (fdX nz n k 0) (fdX T n k (fun _ => nI 0)) (fdX V n k (fun _ => 0)) (fdN n k))) (va_A (xB E x0 fa tb st jn rs lm fh n b S J w1 w2 w3 w4 L ++ fP E fh ft fv kd nz T V n) sz)) 3 132 (va_A (xB E x0 fa tb st jn rs lm fh n b S J w1 w2 w3 w4 L ++ fP E fh ft fv kd nz T V n) sz) := by
  refine z_ofNi (wf := fun (u : Nat × Nat × Nat) => xB E x0 fa tb st jn rs lm (fdX fh n k u.1) (fdN n k) b S J w1 w2 w3 w4 L ++ fP E (fdX fh n k u.1) (fdX ft n k u.2.1) (fdX fv n k u.2.2) (fdX kd n k k.toNatClampNeg) (fdX nz n k 0) (fdX T n k (fun _ => nI 0)) (fdX V n k (fun _ => 0)) (fdN n k)) (cc := cX3_fold) (maxL := 2) (own := RX3) (by decide) rfl rfl (Nat.le_of_ble_eq_true rfl) ?_
  intro p e s m args below meth c Q A B hP hD hA ret ls hl
  obtain ⟨hx, hb, hml, hown, hts, hK, hRf, hRl⟩ := B
  have hiX0 : ∀ w ∈ wsX00, w ∈ wsX3_fold := by decide +kernel
  have hiX3 : ∀ w ∈ wsX30, w ∈ wsX3_fold := by decide +kernel
  have hf13 := hts (.fieldLink RX3 13 "ExactFolds" "folds" "[LExactFolds$Fold;") (by decide +kernel)
  have hf17 := hts (.fieldLink RX3 17 "ExactFolds" "foldCount" "I") (by decide +kernel)
  have hS : va_S A s.heap s.heap [] := va_S.rf
  have hl : lv_has ls 2 [(0, .ref x0), (1, .int k)] := hl
  refine lv_iload_n hx hb dX3_fold_0 rfl (lv_at hl 1 rfl) ?_
  refine lv_if_lt (tgt := 9) hx hb dX3_fold_1 (by decide) (fun c_1 => ?_) (fun c_1 => ?_)
  · refine W.widen (k := 3) (n := 132) (by decide) (by decide) ?_
    refine lv_bipush (v := (-2)) hx hb dX3_fold_9 (by decide) ?_
    exact z_reti (by unfold fdA; rw [if_pos (Or.inl c_1)]) (ret _ _ _ _ (0, 0, 0) (by have hno9 : ¬ fdOk n k := (fun q => q.1 c_1); show va_P E.1 vwCl (xB E x0 fa tb st jn rs lm (fdX fh n k (0, 0, 0).1) (fdN n k) b S J w1 w2 w3 w4 L ++ fP E (fdX fh n k (0, 0, 0).1) (fdX ft n k (0, 0, 0).2.1) (fdX fv n k (0, 0, 0).2.2) (fdX kd n k k.toNatClampNeg) (fdX nz n k 0) (fdX T n k (fun _ => nI 0)) (fdX V n k (fun _ => 0)) (fdN n k)) _; rw [fdX_n hno9, fdX_n hno9, fdX_n hno9, fdX_n hno9, fdX_n hno9, fdX_n hno9, fdX_n hno9, fdN_n hno9]; exact hP) (by have hno9 : ¬ fdOk n k := (fun q => q.1 c_1); show va_D A (xB E x0 fa tb st jn rs lm (fdX fh n k (0, 0, 0).1) (fdN n k) b S J w1 w2 w3 w4 L ++ fP E (fdX fh n k (0, 0, 0).1) (fdX ft n k (0, 0, 0).2.1) (fdX fv n k (0, 0, 0).2.2) (fdX kd n k k.toNatClampNeg) (fdX nz n k 0) (fdX T n k (fun _ => nI 0)) (fdX V n k (fun _ => 0)) (fdN n k)); rw [fdX_n hno9, fdX_n hno9, fdX_n hno9, fdX_n hno9, fdX_n hno9, fdX_n hno9, fdX_n hno9, fdN_n hno9]; exact hD) hS dX3_fold_11)
  · refine lv_iload_n hx hb dX3_fold_4 rfl (lv_at hl 1 rfl) ?_
    refine lv_iconst (v := nI 4) hx hb dX3_fold_5 (by decide) ?_
    refine lv_icmp_le (tgt := 12) hx hb dX3_fold_6 (by decide) (fun c_2 => ?_) (fun c_2 => ?_)
    · obtain ⟨j, hj5, rfl⟩ := k4_of c_1 c_2
      refine lv_aload_n hx hb dX3_fold_12 rfl (lv_at hl 0 rfl) ?_
      refine va_get (D := E.1) (ci := 4) (C := RX3) (T := TX3) (N := 4) hx hb hts hiX3 hown hK.1 hP 0 rfl rfl 1 (by decide) hf17 (fun _ h9 => h9) rfl dX3_fold_13 ?_
      refine lv_bipush (v := nI 12) hx hb dX3_fold_16 (by decide) ?_
      refine zn_icmp_lt (tgt := 24) hx hb dX3_fold_18 (by decide) (by omega) (by omega) (fun c_3 => ?_) (fun c_3 => ?_)
      · have hok : fdOk n (nI j) := ⟨c_1, nlt_of_le c_2, c_3⟩
        have hin9 : vp_in (nI n) 12 := by
          intro q
          rcases q with q | q
          · exact nI_pos (by omega) q
          · rw [nI_clamp (by omega)] at q; omega
        have hv9 : ∀ (q9 u1 u2 : Nat), (xG E x0 fa tb st jn rs lm (fRef fh n) n b S J w1 w2 w3 w4 L ++ (fP E fh ft fv kd nz T V n ++ fW E q9 u1 u2 j 0 (fun _ => nI 0) (fun _ => 0)))[7 + 3 * n]? = some (q9, .inr (1, [.int (nI j), .ref u1, .ref u2, .int (nI 0)])) := by
          intro q9 u1 u2
          rw [List.getElem?_append_right (by show 7 ≤ _; omega), show 7 + 3 * n - (xG E x0 fa tb st jn rs lm (fRef fh n) n b S J w1 w2 w3 w4 L).length = 3 * n from by show 7 + 3 * n - 7 = _; omega, List.getElem?_append_right (by rw [fP_len]; omega), fP_len, Nat.sub_self]; rfl
        refine lv_aload_n hx hb dX3_fold_24 rfl (lv_at hl 0 rfl) ?_
        refine va_get (D := E.1) (ci := 4) (C := RX3) (T := TX3) (N := 4) hx hb hts hiX3 hown hK.1 hP 0 rfl rfl 0 (by decide) hf13 (fun _ h9 => h9) rfl dX3_fold_25 ?_
        refine lv_aload_n hx hb dX3_fold_28 rfl (lv_at hl 0 rfl) ?_
        refine va_get (D := E.1) (ci := 4) (C := RX3) (T := TX3) (N := 4) hx hb hts hiX3 hown hK.1 hP 0 rfl rfl 1 (by decide) hf17 (fun _ h9 => h9) rfl dX3_fold_29 ?_
        have hP : va_P E.1 vwCl (xG E x0 fa tb st jn rs lm (fRef fh n) (n) b S J w1 w2 w3 w4 L ++ (fP E fh ft fv kd nz T V n)) _ := hP
        refine va_new (ci := 1) (fs := [.int 0, .null, .null, .int 0]) (C := RX0) (T := TX0) (N := 4) hx hb hts hiX0 tyX0 tyX0_ok hown (hts (.classLink RX3 11 RX0) (by decide +kernel)) (hts (.instantiable RX0 4) (by decide +kernel)) (hts (.initialized RX0) (by decide +kernel)) hK.1 hP hD hS hA rfl (fun j hj => by rcases (show j = 0 ∨ j = 1 ∨ j = 2 ∨ j = 3 by omega) with rfl | rfl | rfl | rfl <;> rfl) (Nat.le_of_ble_eq_true rfl) (Nat.le_of_ble_eq_true rfl) dX3_fold_32 (fun q9 H hP hD hS => ?_)
        refine lv_dup hx hb dX3_fold_35 rfl ?_
        refine lv_iload_n hx hb dX3_fold_36 rfl (lv_at hl 1 rfl) ?_
        refine znw_v (va_runI (As := [.int (nI j)]) (rest := [.ref q9, .int (nI n), .ref fa]) ⟨hx, hb, hml, hown, hts⟩ (kX0_init l E H.size q9 j) (cwI 1 hts gX3_fold_X0_init rfl rfl rfl (hts (.initialized RX0) (by decide +kernel)) (hts (.methodLink RX3 35 yX0_init) (by decide +kernel)) (hts (.instanceMethod yX0_init) (by decide +kernel)) rfl (by decide +kernel) ⟨Nat.le_of_ble_eq_true rfl, Nat.le_of_ble_eq_true rfl⟩) (z_preN gT_call (fun _ _ _ => trivial) (app_r hP) (D_r hD) hK) rfl rfl hl.1 rfl (lv_room (Nat.le_of_ble_eq_true rfl)) dX3_fold_37 ⟨Nat.le_of_ble_eq_true rfl, Nat.le_of_ble_eq_true rfl⟩) hP hD hS hA (fun H locs u9 hP hD hS => ?_)
        have hP : va_P E.1 vwCl (xG E x0 fa tb st jn rs lm (fRef fh n) (n) b S J w1 w2 w3 w4 L ++ (fP E fh ft fv kd nz T V n ++ fW E q9 u9.1 u9.2 j 0 (fun _ => nI 0) (fun _ => 0))) H := by rw [← List.append_assoc]; exact hP
        have hD : va_D A (xG E x0 fa tb st jn rs lm (fRef fh n) (n) b S J w1 w2 w3 w4 L ++ (fP E fh ft fv kd nz T V n ++ fW E q9 u9.1 u9.2 j 0 (fun _ => nI 0) (fun _ => 0))) := by rw [← List.append_assoc]; exact hD
        refine va_astq hx hb hK.1 hP hD hS 1 3 (7 + 3 * n) 1 (r := (RX0, TX0, 4)) rfl rfl (hv9 _ _ _) rfl (show vp_in (nI n) 12 from hin9) dX3_fold_40 (fun H locs hP hD hS => ?_)
        have hP : va_P E.1 vwCl (xG E x0 fa tb st jn rs lm (va_up (fRef fh n) (nI n).toNatClampNeg (some q9)) (n) b S J w1 w2 w3 w4 L ++ (fP E fh ft fv kd nz T V n ++ fW E q9 u9.1 u9.2 j 0 (fun _ => nI 0) (fun _ => 0))) H := hP
        have hD : va_D A (xG E x0 fa tb st jn rs lm (va_up (fRef fh n) (nI n).toNatClampNeg (some q9)) (n) b S J w1 w2 w3 w4 L ++ (fP E fh ft fv kd nz T V n ++ fW E q9 u9.1 u9.2 j 0 (fun _ => nI 0) (fun _ => 0))) := hD
        rw [nI_clamp (show n < 2 ^ 31 by omega), fRef_up] at hP hD
        refine lv_aload_n hx hb dX3_fold_41 rfl (lv_at hl 0 rfl) ?_
        refine lv_dup hx hb dX3_fold_42 rfl ?_
        refine va_get (D := E.1) (ci := 4) (C := RX3) (T := TX3) (N := 4) hx hb hts hiX3 hown hK.1 hP 0 rfl rfl 1 (by decide) hf17 (fun _ h9 => h9) rfl dX3_fold_43 ?_
        refine lv_iconst (v := nI 1) hx hb dX3_fold_46 (by decide) ?_
        refine zn_iadd hx hb dX3_fold_47 ?_
        refine va_put (D := E.1) (ci := 4) (v := .int (nI (n + 1))) (ty := .int) (C := RX3) (T := TX3) (N := 4) hx hb hts hiX3 tyX3 tyX3_ok nmX3 hown hK.1 hP hD hS 0 rfl rfl 1 (by decide) hf17 (fun _ h9 => h9) rfl (by decide +kernel) rfl rfl (Nat.le_of_ble_eq_true rfl) dX3_fold_48 (fun H locs hP hD hS => ?_)
        have hP : va_P E.1 vwCl (xG E x0 fa tb st jn rs lm (fRef (updN fh n q9) (n + 1)) (n + 1) b S J w1 w2 w3 w4 L ++ (fP E fh ft fv kd nz T V n ++ fW E q9 u9.1 u9.2 j 0 (fun _ => nI 0) (fun _ => 0))) H := hP
        have hD : va_D A (xG E x0 fa tb st jn rs lm (fRef (updN fh n q9) (n + 1)) (n + 1) b S J w1 w2 w3 w4 L ++ (fP E fh ft fv kd nz T V n ++ fW E q9 u9.1 u9.2 j 0 (fun _ => nI 0) (fun _ => 0))) := hD
        refine lv_aload_n hx hb dX3_fold_51 rfl (lv_at hl 0 rfl) ?_
        refine va_get (D := E.1) (ci := 4) (C := RX3) (T := TX3) (N := 4) hx hb hts hiX3 hown hK.1 hP 0 rfl rfl 1 (by decide) hf17 (fun _ h9 => h9) rfl dX3_fold_52 ?_
        refine lv_iconst (v := nI 1) hx hb dX3_fold_55 (by decide) ?_
        refine zn_isub hx hb (by omega) dX3_fold_56 ?_
        exact z_reti (by unfold fdA; rw [if_neg (fun q => q.elim c_1 (nlt_of_le c_2)), if_neg (by omega)]; exact congrArg nI (by omega)) (ret _ _ _ _ (q9, u9.1, u9.2) (by show va_P E.1 vwCl (xB E x0 fa tb st jn rs lm (fdX fh n (nI j) (q9, u9.1, u9.2).1) (fdN n (nI j)) b S J w1 w2 w3 w4 L ++ fP E (fdX fh n (nI j) (q9, u9.1, u9.2).1) (fdX ft n (nI j) (q9, u9.1, u9.2).2.1) (fdX fv n (nI j) (q9, u9.1, u9.2).2.2) (fdX kd n (nI j) (nI j).toNatClampNeg) (fdX nz n (nI j) 0) (fdX T n (nI j) (fun _ => nI 0)) (fdX V n (nI j) (fun _ => 0)) (fdN n (nI j))) H; rw [fdX_y hok, fdX_y hok, fdX_y hok, fdX_y hok, fdX_y hok, fdX_y hok, fdX_y hok, fdN_y hok, ← fP_push, nI_clamp (show j < 2 ^ 31 by omega)]; exact hP) (by show va_D A (xB E x0 fa tb st jn rs lm (fdX fh n (nI j) (q9, u9.1, u9.2).1) (fdN n (nI j)) b S J w1 w2 w3 w4 L ++ fP E (fdX fh n (nI j) (q9, u9.1, u9.2).1) (fdX ft n (nI j) (q9, u9.1, u9.2).2.1) (fdX fv n (nI j) (q9, u9.1, u9.2).2.2) (fdX kd n (nI j) (nI j).toNatClampNeg) (fdX nz n (nI j) 0) (fdX T n (nI j) (fun _ => nI 0)) (fdX V n (nI j) (fun _ => 0)) (fdN n (nI j))); rw [fdX_y hok, fdX_y hok, fdX_y hok, fdX_y hok, fdX_y hok, fdX_y hok, fdX_y hok, fdN_y hok, ← fP_push, nI_clamp (show j < 2 ^ 31 by omega)]; exact hD) hS dX3_fold_57)
      · refine W.widen (k := 3) (n := 132) (by decide) (by decide) ?_
        refine lv_bipush (v := (-4)) hx hb dX3_fold_21 (by decide) ?_
        exact z_reti (by unfold fdA; rw [if_neg (fun q => q.elim c_1 (nlt_of_le c_2)), if_pos (by omega)]) (ret _ _ _ _ (0, 0, 0) (by have hno9 : ¬ fdOk n (nI j) := (fun q => absurd q.2.2 (by omega)); show va_P E.1 vwCl (xB E x0 fa tb st jn rs lm (fdX fh n (nI j) (0, 0, 0).1) (fdN n (nI j)) b S J w1 w2 w3 w4 L ++ fP E (fdX fh n (nI j) (0, 0, 0).1) (fdX ft n (nI j) (0, 0, 0).2.1) (fdX fv n (nI j) (0, 0, 0).2.2) (fdX kd n (nI j) (nI j).toNatClampNeg) (fdX nz n (nI j) 0) (fdX T n (nI j) (fun _ => nI 0)) (fdX V n (nI j) (fun _ => 0)) (fdN n (nI j))) _; rw [fdX_n hno9, fdX_n hno9, fdX_n hno9, fdX_n hno9, fdX_n hno9, fdX_n hno9, fdX_n hno9, fdN_n hno9]; exact hP) (by have hno9 : ¬ fdOk n (nI j) := (fun q => absurd q.2.2 (by omega)); show va_D A (xB E x0 fa tb st jn rs lm (fdX fh n (nI j) (0, 0, 0).1) (fdN n (nI j)) b S J w1 w2 w3 w4 L ++ fP E (fdX fh n (nI j) (0, 0, 0).1) (fdX ft n (nI j) (0, 0, 0).2.1) (fdX fv n (nI j) (0, 0, 0).2.2) (fdX kd n (nI j) (nI j).toNatClampNeg) (fdX nz n (nI j) 0) (fdX T n (nI j) (fun _ => nI 0)) (fdX V n (nI j) (fun _ => 0)) (fdN n (nI j))); rw [fdX_n hno9, fdX_n hno9, fdX_n hno9, fdX_n hno9, fdX_n hno9, fdX_n hno9, fdX_n hno9, fdN_n hno9]; exact hD) hS dX3_fold_23)
    · refine W.widen (k := 3) (n := 132) (by decide) (by decide) ?_
      refine lv_bipush (v := (-2)) hx hb dX3_fold_9 (by decide) ?_
      exact z_reti (by unfold fdA; rw [if_pos (Or.inr (gt_of_nle c_2))]) (ret _ _ _ _ (0, 0, 0) (by have hno9 : ¬ fdOk n k := (fun q => q.2.1 (gt_of_nle c_2)); show va_P E.1 vwCl (xB E x0 fa tb st jn rs lm (fdX fh n k (0, 0, 0).1) (fdN n k) b S J w1 w2 w3 w4 L ++ fP E (fdX fh n k (0, 0, 0).1) (fdX ft n k (0, 0, 0).2.1) (fdX fv n k (0, 0, 0).2.2) (fdX kd n k k.toNatClampNeg) (fdX nz n k 0) (fdX T n k (fun _ => nI 0)) (fdX V n k (fun _ => 0)) (fdN n k)) _; rw [fdX_n hno9, fdX_n hno9, fdX_n hno9, fdX_n hno9, fdX_n hno9, fdX_n hno9, fdX_n hno9, fdN_n hno9]; exact hP) (by have hno9 : ¬ fdOk n k := (fun q => q.2.1 (gt_of_nle c_2)); show va_D A (xB E x0 fa tb st jn rs lm (fdX fh n k (0, 0, 0).1) (fdN n k) b S J w1 w2 w3 w4 L ++ fP E (fdX fh n k (0, 0, 0).1) (fdX ft n k (0, 0, 0).2.1) (fdX fv n k (0, 0, 0).2.2) (fdX kd n k k.toNatClampNeg) (fdX nz n k 0) (fdX T n k (fun _ => nI 0)) (fdX V n k (fun _ => 0)) (fdN n k)); rw [fdX_n hno9, fdX_n hno9, fdX_n hno9, fdX_n hno9, fdX_n hno9, fdX_n hno9, fdX_n hno9, fdN_n hno9]; exact hD) hS dX3_fold_11)
