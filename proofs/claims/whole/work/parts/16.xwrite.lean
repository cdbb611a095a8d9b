/-! ExactFolds: what the writing calls answer, and what they leave -/
def adOk (n : Nat) (kd nz : Nat → Nat) (r : Nat) (f t : Int32) (v : Int64) : Option Nat := (fidx n f).elim none (fun j => if (if kd j = 1 then 1 else 0) = r ∧ ¬ t < 0 ∧ ¬ 1000000 < t ∧ isVal (kd j) v = true ∧ nz j < 64 then some j else none)
def adA (n : Nat) (kd nz : Nat → Nat) (r : Nat) (f t : Int32) (v : Int64) : Int32 := (fidx n f).elim (-1) (fun j => if ¬ (if kd j = 1 then 1 else 0) = r then (-3) else if t < 0 ∨ 1000000 < t ∨ isVal (kd j) v = false then (-2) else if nz j < 64 then nI (nz j + 1) else (-4))
def adN (o : Option Nat) (nz : Nat → Nat) : Nat → Nat := o.elim nz (fun j => updN nz j (nz j + 1))
def adT (o : Option Nat) (nz : Nat → Nat) (T : Nat → Nat → Int32) (V : Nat → Nat → Int64) (t : Int32) (v : Int64) : Nat → Nat → Int32 := o.elim T (fun j => updN T j (insT (T j) (plc (T j) (V j) t v (nz j)) (nz j) t))
def adV (o : Option Nat) (nz : Nat → Nat) (T : Nat → Nat → Int32) (V : Nat → Nat → Int64) (t : Int32) (v : Int64) : Nat → Nat → Int64 := o.elim V (fun j => updN V j (insT (V j) (plc (T j) (V j) t v (nz j)) (nz j) v))
def rmOk (n : Nat) (kd nz : Nat → Nat) (T : Nat → Nat → Int32) (V : Nat → Nat → Int64) (r : Nat) (f t : Int32) (v : Int64) : Option Nat := (fidx n f).elim none (fun j => if (if kd j = 1 then 1 else 0) = r ∧ rowIs (T j) (V j) (nz j) (plc (T j) (V j) t v (nz j)) t v = true then some j else none)
def rmA (n : Nat) (kd nz : Nat → Nat) (T : Nat → Nat → Int32) (V : Nat → Nat → Int64) (r : Nat) (f t : Int32) (v : Int64) : Int32 := (fidx n f).elim (-1) (fun j => if (if kd j = 1 then 1 else 0) = r ∧ rowIs (T j) (V j) (nz j) (plc (T j) (V j) t v (nz j)) t v = true then nI (nz j - 1) else (-3))
def rmN (o : Option Nat) (nz : Nat → Nat) : Nat → Nat := o.elim nz (fun j => updN nz j (nz j - 1))
def rmT (o : Option Nat) (nz : Nat → Nat) (T : Nat → Nat → Int32) (V : Nat → Nat → Int64) (t : Int32) (v : Int64) : Nat → Nat → Int32 := o.elim T (fun j => updN T j (delT (T j) (plc (T j) (V j) t v (nz j)) (nz j)))
def rmV (o : Option Nat) (nz : Nat → Nat) (T : Nat → Nat → Int32) (V : Nat → Nat → Int64) (t : Int32) (v : Int64) : Nat → Nat → Int64 := o.elim V (fun j => updN V j (delT (V j) (plc (T j) (V j) t v (nz j)) (nz j)))
def mgOk (n : Nat) (kd nz : Nat → Nat) (f g : Int32) : Option (Nat × Nat) := (fidx n f).elim none (fun i => (fidx n g).elim none (fun j => if i ≠ j ∧ kd i = kd j ∧ nz i + nz j ≤ 64 then some (i, j) else none))
def mgA (n : Nat) (kd nz : Nat → Nat) (f g : Int32) : Int32 := (fidx n f).elim (-1) (fun i => (fidx n g).elim (-1) (fun j => if i = j then (-1) else if kd i = kd j then (if nz i + nz j ≤ 64 then nI (nz i + nz j) else (-4)) else (-3)))
def mgN (o : Option (Nat × Nat)) (nz : Nat → Nat) : Nat → Nat := o.elim nz (fun q => updN (updN nz q.1 (nz q.1 + nz q.2)) q.2 0)
def mgT (o : Option (Nat × Nat)) (nz : Nat → Nat) (T : Nat → Nat → Int32) (V : Nat → Nat → Int64) : Nat → Nat → Int32 := o.elim T (fun q => updN T q.1 (insN (T q.1) (V q.1) (nz q.1) (T q.2) (V q.2) (nz q.2)).1)
def mgV (o : Option (Nat × Nat)) (nz : Nat → Nat) (T : Nat → Nat → Int32) (V : Nat → Nat → Int64) : Nat → Nat → Int64 := o.elim V (fun q => updN V q.1 (insN (T q.1) (V q.1) (nz q.1) (T q.2) (V q.2) (nz q.2)).2)
def stA (b : Nat) (s : Int32) : Int32 := if isSt s = true then nI b else (-2)
def stB (b : Nat) (s : Int32) : Nat := if isSt s = true then s.toNatClampNeg else b
def spOk (s v t : Int32) : Prop := isSt s = true ∧ ¬ v < 0 ∧ ¬ nI 4 ≤ v ∧ isSt t = true
noncomputable def spA (S : Nat → Nat) (s v t : Int32) : Int32 := @ite _ (spOk s v t) (Classical.propDecidable _) (nI (S (s.toNatClampNeg * 4 + v.toNatClampNeg))) (-2)
noncomputable def spS (S : Nat → Nat) (s v t : Int32) : Nat → Nat := @ite _ (spOk s v t) (Classical.propDecidable _) (updN S (s.toNatClampNeg * 4 + v.toNatClampNeg) t.toNatClampNeg) S
def jnOk (s v t : Int32) : Prop := isSt s = true ∧ isSt v = true ∧ isSt t = true
noncomputable def jnA (J : Nat → Nat) (s v t : Int32) : Int32 := @ite _ (jnOk s v t) (Classical.propDecidable _) (nI (J (s.toNatClampNeg * 8 + v.toNatClampNeg))) (-2)
noncomputable def jnJ (J : Nat → Nat) (s v t : Int32) : Nat → Nat := @ite _ (jnOk s v t) (Classical.propDecidable _) (updN J (s.toNatClampNeg * 8 + v.toNatClampNeg) t.toNatClampNeg) J
def ckA (S J : Nat → Nat) (b : Nat) (w : Int32) : Int32 := if w < 0 ∨ nI 3 < w then (-2) else if w = nI 0 then (ltAll S J b).1 else if w = nI 1 then (ltAll S J b).2.1 else if w = nI 2 then (ltAll S J b).2.2.1 else (ltAll S J b).2.2.2
def ckW (S J : Nat → Nat) (b : Nat) (q : zQ4) (w : Int32) : zQ4 := if w < 0 ∨ nI 3 < w then q else ltAll S J b
def rlA (n : Nat) (kd nz : Nat → Nat) (V : Nat → Nat → Int64) (L : Nat → Int64) (f : Int32) : Int64 := (fok n kd f 1).elim 0 (fun j => realF L (V j) (nz j))
def rlL (n : Nat) (kd nz : Nat → Nat) (V : Nat → Nat → Int64) (L : Nat → Int64) (f : Int32) : Nat → Int64 := (fok n kd f 1).elim L (fun j => endL (sumL L (V j) (nz j)))
theorem D_two {E : zE} {fh ft fv kd sz : Nat → Nat} {T : Nat → Nat → Int32} {V : Nat → Nat → Int64} {n i j : Nat} {A : Nat → Prop} (h : va_D A (fP E fh ft fv kd sz T V n)) (hi : i < n) (hj : j < n) (hij : i ≠ j) : va_D A (fW E (fh i) (ft i) (fv i) (kd i) (sz i) (T i) (V i) ++ fW E (fh j) (ft j) (fv j) (kd j) (sz j) (T j) (V j)) := by
  refine va_D.app (D_fP h hi) (D_fP h hj) (fun a b p q ha hb e => ?_)
  have ha2 := (List.getElem?_eq_some_iff.mp ha).1
  have hb2 := (List.getElem?_eq_some_iff.mp hb).1
  have h1 := h.1 (3 * i + a) (3 * j + b) p q (by rw [fP_get hi ha2]; exact ha) (by rw [fP_get hj hb2]; exact hb) e
  have ha2 : a < 3 := ha2
  have hb2 : b < 3 := hb2
  omega
theorem D_rsf {E : zE} {x0 fa tb st jn rs lm b : Nat} {S J : Nat → Nat} {w1 w2 w3 w4 : Int32} {L : Nat → Int64} {fh ft fv kd sz : Nat → Nat} {T : Nat → Nat → Int32} {V : Nat → Nat → Int64} {n j : Nat} {A : Nat → Prop} (h : va_D A (xB E x0 fa tb st jn rs lm fh n b S J w1 w2 w3 w4 L ++ fP E fh ft fv kd sz T V n)) (hj : j < n) : va_D A ([(rs, .inr (2, [.ref lm])), (lm, .inl (E.2.2.1, 67, .inr (.inl L)))] ++ fW E (fh j) (ft j) (fv j) (kd j) (sz j) (T j) (V j)) := by
  refine va_D.app ((D_l h).sub [5, 6] (by decide) rfl) (D_fP (D_r h) hj) (fun a c p q ha hc e => ?_)
  have h2 := x_idx (bs := xB E x0 fa tb st jn rs lm fh n b S J w1 w2 w3 w4 L) hj hc
  match a, ha with
  | 0, ha => have h1 := h.1 5 _ p q ha h2.1 e; have h1 : 5 = 7 + (3 * j + c) := h1; omega
  | 1, ha => have h1 := h.1 6 _ p q ha h2.1 e; have h1 : 6 = 7 + (3 * j + c) := h1; omega
  | a + 2, ha => cases ha
theorem rowIs_lt {T : Nat → Int32} {V : Nat → Int64} {n p : Nat} {t : Int32} {w : Int64} (h : rowIs T V n p t w = true) : p < n := (of_decide_eq_true h).1
set_option maxHeartbeats 4000000 in
set_option maxRecDepth 100000 in
theorem kX3_addRow (l : Launch) (E : zE) (sz : Nat) (x0 fa tb st jn rs lm : Nat) (fh ft fv kd nz : Nat → Nat) (T : Nat → Nat → Int32) (V : Nat → Nat → Int64) (n b : Nat) (S J : Nat → Nat) (w1 w2 w3 w4 : Int32) (L : Nat → Int64) (hn : n ≤ 12) (hz : ∀ j, j < n → nz j ≤ 64) (hk5 : ∀ j, j < n → kd j < 5) (f : Int32) (r : Nat) (hr2 : r < 2) (t : Int32) (v : Int64) : Met l yX3_addRow wsX3_addRow (rmL 2) (va_Pc [.ref x0, .int f, .int (nI r), .int t, .long v] (zS E (xB E x0 fa tb st jn rs lm fh n b S J w1 w2 w3 w4 L ++ fP E fh ft fv kd nz T V n) sz)) (va_Qi (fun (r9 : Int32) (_ : Unit) => r9 = adA n kd nz r f t v) (fun _ t9 => zW E (xB E x0 fa tb st jn rs lm fh n b S J w1 w2 w3 w4 L ++ fP E fh ft fv kd (adN (adOk n kd nz r f t v) nz) (adT (adOk n kd nz r f t v) nz T V t v) (adV (adOk n kd nz r f t v) nz T V t v) n) t9) (va_A (xB E x0 fa tb st jn rs lm fh n b S J w1 w2 w3 w4 L ++ fP E fh ft fv kd nz T V n) sz)) 0 0 (va_A (xB E x0 fa tb st jn rs lm fh n b S J w1 w2 w3 w4 L ++ fP E fh ft fv kd nz T V n) sz) := by
  refine z_ofWi (cc := cX3_addRow) (maxL := 7) (own := RX3) (by decide) rfl rfl (Nat.le_of_ble_eq_true rfl) ?_
  intro p e s m args below meth c R Q A B hP hD hA ret ls hl
  obtain ⟨hx, hb, hml, hown, hts, hK, hRf, hRl⟩ := B
  have hiX0 : ∀ w ∈ wsX00, w ∈ wsX3_addRow := by decide +kernel
  have hf53 := hts (.fieldLink RX3 53 "ExactFolds$Fold" "kind" "I") (by decide +kernel)
  have hf56 := hts (.fieldLink RX3 56 "ExactFolds$Fold" "size" "I") (by decide +kernel)
  have hS : va_S A s.heap s.heap [] := va_S.rf
  have hl : lv_has ls 7 [(0, .ref x0), (1, .int f), (2, .int (nI r)), (3, .int t), (4, .long v)] := hl
  refine lv_aload_n hx hb dX3_addRow_0 rfl (lv_at hl 0 rfl) ?_
  refine lv_iload_n hx hb dX3_addRow_1 rfl (lv_at hl 1 rfl) ?_
  refine zc_q (W.runV ⟨hx, hb, hml, hown, hts⟩ (kX3_foldNumbered l E x0 fa tb st jn rs lm fh ft fv kd nz T V n b S J w1 w2 w3 w4 L hn f) (cwV 1 hts gX3_addRow_X3_foldNumbered rfl rfl rfl (by decide +kernel) ⟨Nat.le_trans (Nat.le_of_ble_eq_true rfl) hRf, Nat.le_trans (Nat.le_of_ble_eq_true rfl) hRl⟩) (z_preV (As := [.int f]) hP hK 0 rfl rfl) rfl rfl hl.1 rfl (lv_room (Nat.le_of_ble_eq_true rfl)) dX3_addRow_2 ⟨Nat.zero_le _, Nat.zero_le _⟩) ?_
  rcases fi_cases n f (by omega) with hfij | ⟨j, hjj, rfl, hfij⟩
  · rw [hfij]
    refine W.eq (g2 := F0 m 5 ls ([.null])) rfl ?_
    refine lv_astoreN (lv' := [(6, .null), (0, .ref x0), (1, .int f), (2, .int (nI r)), (3, .int t), (4, .long v)]) hx hb dX3_addRow_5 hl (by decide) rfl (fun ls hl => ?_)
    refine lv_aloadN hx hb dX3_addRow_7 (lv_at hl 0 rfl) ?_
    refine lv_ifnonnullN hx hb dX3_addRow_9 ?_
    refine lv_iconst (v := (-1)) hx hb dX3_addRow_12 (by decide) ?_
    exact z_reti (by unfold adA; rw [hfij]; rfl) (ret _ _ _ _ (by (have ho : adOk n kd nz r f t v = none := by unfold adOk; rw [hfij]; rfl); unfold adN adT adV; rw [ho]; exact hP) hS dX3_addRow_13)
  · rw [hfij]
    refine W.eq (g2 := F0 m 5 ls ([.ref (fh j)])) rfl ?_
    have hPfj : va_P E.1 vwCl (fW E (fh j) (ft j) (fv j) (kd j) (nz j) (T j) (V j)) _ := P_fP (app_r hP) hjj
    refine lv_astore (lv' := [(6, .ref (fh j)), (0, .ref x0), (1, .int (nI j)), (2, .int (nI r)), (3, .int t), (4, .long v)]) hx hb dX3_addRow_5 hl (by decide) rfl (fun ls hl => ?_)
    refine lv_aload hx hb dX3_addRow_7 (lv_at hl 0 rfl) ?_
    refine lv_ifnonnull (tgt := 14) hx hb dX3_addRow_9 (by decide) ?_
    refine lv_aload hx hb dX3_addRow_14 (lv_at hl 0 rfl) ?_
    refine va_get (D := E.1) (ci := 1) (C := RX0) (T := TX0) (N := 4) hx hb hts hiX0 hown hK.1 hPfj 0 rfl rfl 0 (by decide) hf53 (fun _ h9 => h9) rfl dX3_addRow_16 ?_
    refine lv_iconst (v := nI 1) hx hb dX3_addRow_19 (by decide) ?_
    refine zn_icmp_ne (tgt := 27) hx hb dX3_addRow_20 (by decide) (by have := hk5 j hjj; omega) (by omega) (fun c_1 => ?_) (fun c_1 => ?_)
    · refine lv_iconst (v := nI 0) hx hb dX3_addRow_27 (by decide) ?_
      refine lv_iload_n hx hb dX3_addRow_28 rfl (lv_at hl 3 rfl) ?_
      refine zn_icmp_eq (tgt := 35) hx hb dX3_addRow_29 (by decide) (by omega) (by omega) (fun c_2 => ?_) (fun c_2 => ?_)
      · have hrr : (if kd j = 1 then 1 else 0) = r := by simp only [c_1, if_true, if_false]; omega
        refine lv_iload_n hx hb dX3_addRow_35 rfl (lv_at hl 4 rfl) ?_
        refine lv_if_lt (tgt := 58) hx hb dX3_addRow_36 (by decide) (fun c_3 => ?_) (fun c_3 => ?_)
        · refine lv_bipush (v := (-2)) hx hb dX3_addRow_58 (by decide) ?_
          exact z_reti (by unfold adA; rw [hfij]; show _ = (if ¬ (if kd j = 1 then 1 else 0) = r then (-3) else if t < 0 ∨ 1000000 < t ∨ isVal (kd j) v = false then (-2) else if nz j < 64 then nI (nz j + 1) else (-4)); rw [if_neg (fun q => q hrr), if_pos (Or.inl c_3)]) (ret _ _ _ _ (by (have ho : adOk n kd nz r (nI j) t v = none := by unfold adOk; rw [hfij]; show (if (if kd j = 1 then 1 else 0) = r ∧ ¬ t < 0 ∧ ¬ 1000000 < t ∧ isVal (kd j) v = true ∧ nz j < 64 then some j else none) = _; rw [if_neg (fun q => q.2.1 c_3)]); unfold adN adT adV; rw [ho]; exact hP) hS dX3_addRow_60)
        · refine lv_iload_n hx hb dX3_addRow_39 rfl (lv_at hl 4 rfl) ?_
          refine lv_ldc (v := 1000000) hx hb hown (hts (.constant RX3 161 (1000000)) (by decide +kernel)) dX3_addRow_40 ?_
          refine lv_icmp_gt (tgt := 58) hx hb dX3_addRow_42 (by decide) (fun c_4 => ?_) (fun c_4 => ?_)
          · refine lv_bipush (v := (-2)) hx hb dX3_addRow_58 (by decide) ?_
            exact z_reti (by unfold adA; rw [hfij]; show _ = (if ¬ (if kd j = 1 then 1 else 0) = r then (-3) else if t < 0 ∨ 1000000 < t ∨ isVal (kd j) v = false then (-2) else if nz j < 64 then nI (nz j + 1) else (-4)); rw [if_neg (fun q => q hrr), if_pos (Or.inr (Or.inl c_4))]) (ret _ _ _ _ (by (have ho : adOk n kd nz r (nI j) t v = none := by unfold adOk; rw [hfij]; show (if (if kd j = 1 then 1 else 0) = r ∧ ¬ t < 0 ∧ ¬ 1000000 < t ∧ isVal (kd j) v = true ∧ nz j < 64 then some j else none) = _; rw [if_neg (fun q => q.2.2.1 c_4)]); unfold adN adT adV; rw [ho]; exact hP) hS dX3_addRow_60)
          · refine lv_aload hx hb dX3_addRow_45 (lv_at hl 0 rfl) ?_
            refine va_get (D := E.1) (ci := 1) (C := RX0) (T := TX0) (N := 4) hx hb hts hiX0 hown hK.1 hPfj 0 rfl rfl 0 (by decide) hf53 (fun _ h9 => h9) rfl dX3_addRow_47 ?_
            refine lv_lload hx hb dX3_addRow_50 (lv_at hl 5 rfl) ?_
            refine zc_i (W.runS ⟨hx, hb, hml, hown, hts⟩ (kX3_isValueOf l E (kd j) (hk5 j hjj) v) (cwS 2 hts gX3_addRow_X3_isValueOf rfl rfl rfl (by decide +kernel) ⟨Nat.le_trans (Nat.le_of_ble_eq_true rfl) hRf, Nat.le_trans (Nat.le_of_ble_eq_true rfl) hRl⟩) (z_preR (av := [.int (nI (kd j)), .long v]) (hP.sub (ws' := []) [] rfl) hK) rfl rfl hl.1 rfl (lv_room (Nat.le_of_ble_eq_true rfl)) dX3_addRow_52 ⟨Nat.zero_le _, Nat.zero_le _⟩) ?_
            refine zb_if_ne (tgt := 61) hx hb dX3_addRow_55 (by decide) (fun c_5 => ?_) (fun c_5 => ?_)
            · refine lv_aload hx hb dX3_addRow_61 (lv_at hl 0 rfl) ?_
              refine va_get (D := E.1) (ci := 1) (C := RX0) (T := TX0) (N := 4) hx hb hts hiX0 hown hK.1 hPfj 0 rfl rfl 3 (by decide) hf56 (fun _ h9 => h9) rfl dX3_addRow_63 ?_
              refine lv_bipush (v := nI 64) hx hb dX3_addRow_66 (by decide) ?_
              refine zn_icmp_lt (tgt := 74) hx hb dX3_addRow_68 (by decide) (by have := hz j hjj; omega) (by omega) (fun c_6 => ?_) (fun c_6 => ?_)
              · refine lv_aload hx hb dX3_addRow_74 (lv_at hl 0 rfl) ?_
                refine lv_iload_n hx hb dX3_addRow_76 rfl (lv_at hl 4 rfl) ?_
                refine lv_lload hx hb dX3_addRow_77 (lv_at hl 5 rfl) ?_
                refine zx_fold_v (j := j) (n1 := nz j + 1) (T1 := insT (T j) (plc (T j) (V j) t v (nz j)) (nz j) t) (V1 := insT (V j) (plc (T j) (V j) t v (nz j)) (nz j) v) (va_runV ⟨hx, hb, hml, hown, hts⟩ (kX0_insert l E _ (fh j) (ft j) (fv j) (nI (kd j)) (nz j) (T j) (V j) (by assumption) t v) (cwV 2 hts gX3_addRow_X0_insert rfl rfl rfl (by decide +kernel) ⟨Nat.le_trans (Nat.le_of_ble_eq_true rfl) hRf, Nat.le_trans (Nat.le_of_ble_eq_true rfl) hRl⟩) (z_preWV (As := [.int t, .long v]) hPfj (D_fP (D_r hD) hjj) hK 0 rfl rfl) rfl rfl hl.1 rfl (lv_room (Nat.le_of_ble_eq_true rfl)) dX3_addRow_79 ⟨Nat.zero_le _, Nat.zero_le _⟩) hP hD hS hA hjj (fun H locs hP hD hS => ?_)
                have hPfj : va_P E.1 vwCl (fW E (fh j) (ft j) (fv j) (kd j) (nz j + 1) (insT (T j) (plc (T j) (V j) t v (nz j)) (nz j) t) (insT (V j) (plc (T j) (V j) t v (nz j)) (nz j) v)) H := by
                  have h9 := P_fP (app_r hP) hjj; rw [updN_self, updN_self, updN_self] at h9; exact h9
                refine lv_aload hx hb dX3_addRow_82 (lv_at hl 0 rfl) ?_
                refine va_get (D := E.1) (ci := 1) (C := RX0) (T := TX0) (N := 4) hx hb hts hiX0 hown hK.1 hPfj 0 rfl rfl 3 (by decide) hf56 (fun _ h9 => h9) rfl dX3_addRow_84 ?_
                exact z_reti (by unfold adA; rw [hfij]; show _ = (if ¬ (if kd j = 1 then 1 else 0) = r then (-3) else if t < 0 ∨ 1000000 < t ∨ isVal (kd j) v = false then (-2) else if nz j < 64 then nI (nz j + 1) else (-4)); rw [if_neg (fun q => q hrr), if_neg (fun q => q.elim c_3 (fun q => q.elim c_4 (fun q => by rw [q] at c_5; cases c_5))), if_pos c_6]) (ret _ _ _ _ (by (have ho : adOk n kd nz r (nI j) t v = some j := by unfold adOk; rw [hfij]; show (if (if kd j = 1 then 1 else 0) = r ∧ ¬ t < 0 ∧ ¬ 1000000 < t ∧ isVal (kd j) v = true ∧ nz j < 64 then some j else none) = _; rw [if_pos ⟨hrr, c_3, c_4, c_5, c_6⟩]); unfold adN adT adV; rw [ho]; exact hP) hS dX3_addRow_87)
              · refine lv_bipush (v := (-4)) hx hb dX3_addRow_71 (by decide) ?_
                exact z_reti (by unfold adA; rw [hfij]; show _ = (if ¬ (if kd j = 1 then 1 else 0) = r then (-3) else if t < 0 ∨ 1000000 < t ∨ isVal (kd j) v = false then (-2) else if nz j < 64 then nI (nz j + 1) else (-4)); rw [if_neg (fun q => q hrr), if_neg (fun q => q.elim c_3 (fun q => q.elim c_4 (fun q => by rw [q] at c_5; cases c_5))), if_neg (by omega)]) (ret _ _ _ _ (by (have ho : adOk n kd nz r (nI j) t v = none := by unfold adOk; rw [hfij]; show (if (if kd j = 1 then 1 else 0) = r ∧ ¬ t < 0 ∧ ¬ 1000000 < t ∧ isVal (kd j) v = true ∧ nz j < 64 then some j else none) = _; rw [if_neg (fun q => by have := q.2.2.2.2; omega)]); unfold adN adT adV; rw [ho]; exact hP) hS dX3_addRow_73)
            · refine lv_bipush (v := (-2)) hx hb dX3_addRow_58 (by decide) ?_
              exact z_reti (by unfold adA; rw [hfij]; show _ = (if ¬ (if kd j = 1 then 1 else 0) = r then (-3) else if t < 0 ∨ 1000000 < t ∨ isVal (kd j) v = false then (-2) else if nz j < 64 then nI (nz j + 1) else (-4)); rw [if_neg (fun q => q hrr), if_pos (Or.inr (Or.inr c_5))]) (ret _ _ _ _ (by (have ho : adOk n kd nz r (nI j) t v = none := by unfold adOk; rw [hfij]; show (if (if kd j = 1 then 1 else 0) = r ∧ ¬ t < 0 ∧ ¬ 1000000 < t ∧ isVal (kd j) v = true ∧ nz j < 64 then some j else none) = _; rw [if_neg (fun q => by have := q.2.2.2.1; rw [c_5] at this; cases this)]); unfold adN adT adV; rw [ho]; exact hP) hS dX3_addRow_60)
      · have hrr : ¬ (if kd j = 1 then 1 else 0) = r := by simp only [c_1, if_true, if_false]; omega
        refine lv_bipush (v := (-3)) hx hb dX3_addRow_32 (by decide) ?_
        exact z_reti (by unfold adA; rw [hfij]; show _ = (if ¬ (if kd j = 1 then 1 else 0) = r then (-3) else if t < 0 ∨ 1000000 < t ∨ isVal (kd j) v = false then (-2) else if nz j < 64 then nI (nz j + 1) else (-4)); rw [if_pos hrr]) (ret _ _ _ _ (by (have ho : adOk n kd nz r (nI j) t v = none := by unfold adOk; rw [hfij]; show (if (if kd j = 1 then 1 else 0) = r ∧ ¬ t < 0 ∧ ¬ 1000000 < t ∧ isVal (kd j) v = true ∧ nz j < 64 then some j else none) = _; rw [if_neg (fun q => hrr q.1)]); unfold adN adT adV; rw [ho]; exact hP) hS dX3_addRow_34)
    · refine lv_iconst (v := nI 1) hx hb dX3_addRow_23 (by decide) ?_
      refine lv_goto (tgt := 28) hx hb dX3_addRow_24 (by decide) ?_
      refine lv_iload_n hx hb dX3_addRow_28 rfl (lv_at hl 3 rfl) ?_
      refine zn_icmp_eq (tgt := 35) hx hb dX3_addRow_29 (by decide) (by omega) (by omega) (fun c_7 => ?_) (fun c_7 => ?_)
      · have hrr : (if kd j = 1 then 1 else 0) = r := by simp only [c_1, if_true, if_false]; omega
        refine lv_iload_n hx hb dX3_addRow_35 rfl (lv_at hl 4 rfl) ?_
        refine lv_if_lt (tgt := 58) hx hb dX3_addRow_36 (by decide) (fun c_8 => ?_) (fun c_8 => ?_)
        · refine lv_bipush (v := (-2)) hx hb dX3_addRow_58 (by decide) ?_
          exact z_reti (by unfold adA; rw [hfij]; show _ = (if ¬ (if kd j = 1 then 1 else 0) = r then (-3) else if t < 0 ∨ 1000000 < t ∨ isVal (kd j) v = false then (-2) else if nz j < 64 then nI (nz j + 1) else (-4)); rw [if_neg (fun q => q hrr), if_pos (Or.inl c_8)]) (ret _ _ _ _ (by (have ho : adOk n kd nz r (nI j) t v = none := by unfold adOk; rw [hfij]; show (if (if kd j = 1 then 1 else 0) = r ∧ ¬ t < 0 ∧ ¬ 1000000 < t ∧ isVal (kd j) v = true ∧ nz j < 64 then some j else none) = _; rw [if_neg (fun q => q.2.1 c_8)]); unfold adN adT adV; rw [ho]; exact hP) hS dX3_addRow_60)
        · refine lv_iload_n hx hb dX3_addRow_39 rfl (lv_at hl 4 rfl) ?_
          refine lv_ldc (v := 1000000) hx hb hown (hts (.constant RX3 161 (1000000)) (by decide +kernel)) dX3_addRow_40 ?_
          refine lv_icmp_gt (tgt := 58) hx hb dX3_addRow_42 (by decide) (fun c_9 => ?_) (fun c_9 => ?_)
          · refine lv_bipush (v := (-2)) hx hb dX3_addRow_58 (by decide) ?_
            exact z_reti (by unfold adA; rw [hfij]; show _ = (if ¬ (if kd j = 1 then 1 else 0) = r then (-3) else if t < 0 ∨ 1000000 < t ∨ isVal (kd j) v = false then (-2) else if nz j < 64 then nI (nz j + 1) else (-4)); rw [if_neg (fun q => q hrr), if_pos (Or.inr (Or.inl c_9))]) (ret _ _ _ _ (by (have ho : adOk n kd nz r (nI j) t v = none := by unfold adOk; rw [hfij]; show (if (if kd j = 1 then 1 else 0) = r ∧ ¬ t < 0 ∧ ¬ 1000000 < t ∧ isVal (kd j) v = true ∧ nz j < 64 then some j else none) = _; rw [if_neg (fun q => q.2.2.1 c_9)]); unfold adN adT adV; rw [ho]; exact hP) hS dX3_addRow_60)
          · refine lv_aload hx hb dX3_addRow_45 (lv_at hl 0 rfl) ?_
            refine va_get (D := E.1) (ci := 1) (C := RX0) (T := TX0) (N := 4) hx hb hts hiX0 hown hK.1 hPfj 0 rfl rfl 0 (by decide) hf53 (fun _ h9 => h9) rfl dX3_addRow_47 ?_
            refine lv_lload hx hb dX3_addRow_50 (lv_at hl 5 rfl) ?_
            refine zc_i (W.runS ⟨hx, hb, hml, hown, hts⟩ (kX3_isValueOf l E (kd j) (hk5 j hjj) v) (cwS 2 hts gX3_addRow_X3_isValueOf rfl rfl rfl (by decide +kernel) ⟨Nat.le_trans (Nat.le_of_ble_eq_true rfl) hRf, Nat.le_trans (Nat.le_of_ble_eq_true rfl) hRl⟩) (z_preR (av := [.int (nI (kd j)), .long v]) (hP.sub (ws' := []) [] rfl) hK) rfl rfl hl.1 rfl (lv_room (Nat.le_of_ble_eq_true rfl)) dX3_addRow_52 ⟨Nat.zero_le _, Nat.zero_le _⟩) ?_
            refine zb_if_ne (tgt := 61) hx hb dX3_addRow_55 (by decide) (fun c_10 => ?_) (fun c_10 => ?_)
            · refine lv_aload hx hb dX3_addRow_61 (lv_at hl 0 rfl) ?_
              refine va_get (D := E.1) (ci := 1) (C := RX0) (T := TX0) (N := 4) hx hb hts hiX0 hown hK.1 hPfj 0 rfl rfl 3 (by decide) hf56 (fun _ h9 => h9) rfl dX3_addRow_63 ?_
              refine lv_bipush (v := nI 64) hx hb dX3_addRow_66 (by decide) ?_
              refine zn_icmp_lt (tgt := 74) hx hb dX3_addRow_68 (by decide) (by have := hz j hjj; omega) (by omega) (fun c_11 => ?_) (fun c_11 => ?_)
              · refine lv_aload hx hb dX3_addRow_74 (lv_at hl 0 rfl) ?_
                refine lv_iload_n hx hb dX3_addRow_76 rfl (lv_at hl 4 rfl) ?_
                refine lv_lload hx hb dX3_addRow_77 (lv_at hl 5 rfl) ?_
                refine zx_fold_v (j := j) (n1 := nz j + 1) (T1 := insT (T j) (plc (T j) (V j) t v (nz j)) (nz j) t) (V1 := insT (V j) (plc (T j) (V j) t v (nz j)) (nz j) v) (va_runV ⟨hx, hb, hml, hown, hts⟩ (kX0_insert l E _ (fh j) (ft j) (fv j) (nI (kd j)) (nz j) (T j) (V j) (by assumption) t v) (cwV 2 hts gX3_addRow_X0_insert rfl rfl rfl (by decide +kernel) ⟨Nat.le_trans (Nat.le_of_ble_eq_true rfl) hRf, Nat.le_trans (Nat.le_of_ble_eq_true rfl) hRl⟩) (z_preWV (As := [.int t, .long v]) hPfj (D_fP (D_r hD) hjj) hK 0 rfl rfl) rfl rfl hl.1 rfl (lv_room (Nat.le_of_ble_eq_true rfl)) dX3_addRow_79 ⟨Nat.zero_le _, Nat.zero_le _⟩) hP hD hS hA hjj (fun H locs hP hD hS => ?_)
                have hPfj : va_P E.1 vwCl (fW E (fh j) (ft j) (fv j) (kd j) (nz j + 1) (insT (T j) (plc (T j) (V j) t v (nz j)) (nz j) t) (insT (V j) (plc (T j) (V j) t v (nz j)) (nz j) v)) H := by
                  have h9 := P_fP (app_r hP) hjj; rw [updN_self, updN_self, updN_self] at h9; exact h9
                refine lv_aload hx hb dX3_addRow_82 (lv_at hl 0 rfl) ?_
                refine va_get (D := E.1) (ci := 1) (C := RX0) (T := TX0) (N := 4) hx hb hts hiX0 hown hK.1 hPfj 0 rfl rfl 3 (by decide) hf56 (fun _ h9 => h9) rfl dX3_addRow_84 ?_
                exact z_reti (by unfold adA; rw [hfij]; show _ = (if ¬ (if kd j = 1 then 1 else 0) = r then (-3) else if t < 0 ∨ 1000000 < t ∨ isVal (kd j) v = false then (-2) else if nz j < 64 then nI (nz j + 1) else (-4)); rw [if_neg (fun q => q hrr), if_neg (fun q => q.elim c_8 (fun q => q.elim c_9 (fun q => by rw [q] at c_10; cases c_10))), if_pos c_11]) (ret _ _ _ _ (by (have ho : adOk n kd nz r (nI j) t v = some j := by unfold adOk; rw [hfij]; show (if (if kd j = 1 then 1 else 0) = r ∧ ¬ t < 0 ∧ ¬ 1000000 < t ∧ isVal (kd j) v = true ∧ nz j < 64 then some j else none) = _; rw [if_pos ⟨hrr, c_8, c_9, c_10, c_11⟩]); unfold adN adT adV; rw [ho]; exact hP) hS dX3_addRow_87)
              · refine lv_bipush (v := (-4)) hx hb dX3_addRow_71 (by decide) ?_
                exact z_reti (by unfold adA; rw [hfij]; show _ = (if ¬ (if kd j = 1 then 1 else 0) = r then (-3) else if t < 0 ∨ 1000000 < t ∨ isVal (kd j) v = false then (-2) else if nz j < 64 then nI (nz j + 1) else (-4)); rw [if_neg (fun q => q hrr), if_neg (fun q => q.elim c_8 (fun q => q.elim c_9 (fun q => by rw [q] at c_10; cases c_10))), if_neg (by omega)]) (ret _ _ _ _ (by (have ho : adOk n kd nz r (nI j) t v = none := by unfold adOk; rw [hfij]; show (if (if kd j = 1 then 1 else 0) = r ∧ ¬ t < 0 ∧ ¬ 1000000 < t ∧ isVal (kd j) v = true ∧ nz j < 64 then some j else none) = _; rw [if_neg (fun q => by have := q.2.2.2.2; omega)]); unfold adN adT adV; rw [ho]; exact hP) hS dX3_addRow_73)
            · refine lv_bipush (v := (-2)) hx hb dX3_addRow_58 (by decide) ?_
              exact z_reti (by unfold adA; rw [hfij]; show _ = (if ¬ (if kd j = 1 then 1 else 0) = r then (-3) else if t < 0 ∨ 1000000 < t ∨ isVal (kd j) v = false then (-2) else if nz j < 64 then nI (nz j + 1) else (-4)); rw [if_neg (fun q => q hrr), if_pos (Or.inr (Or.inr c_10))]) (ret _ _ _ _ (by (have ho : adOk n kd nz r (nI j) t v = none := by unfold adOk; rw [hfij]; show (if (if kd j = 1 then 1 else 0) = r ∧ ¬ t < 0 ∧ ¬ 1000000 < t ∧ isVal (kd j) v = true ∧ nz j < 64 then some j else none) = _; rw [if_neg (fun q => by have := q.2.2.2.1; rw [c_10] at this; cases this)]); unfold adN adT adV; rw [ho]; exact hP) hS dX3_addRow_60)
      · have hrr : ¬ (if kd j = 1 then 1 else 0) = r := by simp only [c_1, if_true, if_false]; omega
        refine lv_bipush (v := (-3)) hx hb dX3_addRow_32 (by decide) ?_
        exact z_reti (by unfold adA; rw [hfij]; show _ = (if ¬ (if kd j = 1 then 1 else 0) = r then (-3) else if t < 0 ∨ 1000000 < t ∨ isVal (kd j) v = false then (-2) else if nz j < 64 then nI (nz j + 1) else (-4)); rw [if_pos hrr]) (ret _ _ _ _ (by (have ho : adOk n kd nz r (nI j) t v = none := by unfold adOk; rw [hfij]; show (if (if kd j = 1 then 1 else 0) = r ∧ ¬ t < 0 ∧ ¬ 1000000 < t ∧ isVal (kd j) v = true ∧ nz j < 64 then some j else none) = _; rw [if_neg (fun q => hrr q.1)]); unfold adN adT adV; rw [ho]; exact hP) hS dX3_addRow_34)
set_option maxHeartbeats 4000000 in
set_option maxRecDepth 100000 in
theorem kX3_removeRow (l : Launch) (E : zE) (sz : Nat) (x0 fa tb st jn rs lm : Nat) (fh ft fv kd nz : Nat → Nat) (T : Nat → Nat → Int32) (V : Nat → Nat → Int64) (n b : Nat) (S J : Nat → Nat) (w1 w2 w3 w4 : Int32) (L : Nat → Int64) (hn : n ≤ 12) (hz : ∀ j, j < n → nz j ≤ 64) (hk5 : ∀ j, j < n → kd j < 5) (f : Int32) (r : Nat) (hr2 : r < 2) (t : Int32) (v : Int64) : Met l yX3_removeRow wsX3_removeRow (rmL 2) (va_Pc [.ref x0, .int f, .int (nI r), .int t, .long v] (zS E (xB E x0 fa tb st jn rs lm fh n b S J w1 w2 w3 w4 L ++ fP E fh ft fv kd nz T V n) sz)) (va_Qi (fun (r9 : Int32) (_ : Unit) => r9 = rmA n kd nz T V r f t v) (fun _ t9 => zW E (xB E x0 fa tb st jn rs lm fh n b S J w1 w2 w3 w4 L ++ fP E fh ft fv kd (rmN (rmOk n kd nz T V r f t v) nz) (rmT (rmOk n kd nz T V r f t v) nz T V t v) (rmV (rmOk n kd nz T V r f t v) nz T V t v) n) t9) (va_A (xB E x0 fa tb st jn rs lm fh n b S J w1 w2 w3 w4 L ++ fP E fh ft fv kd nz T V n) sz)) 0 0 (va_A (xB E x0 fa tb st jn rs lm fh n b S J w1 w2 w3 w4 L ++ fP E fh ft fv kd nz T V n) sz) := by
  refine z_ofWi (cc := cX3_removeRow) (maxL := 8) (own := RX3) (by decide) rfl rfl (Nat.le_of_ble_eq_true rfl) ?_
  intro p e s m args below meth c R Q A B hP hD hA ret ls hl
  obtain ⟨hx, hb, hml, hown, hts, hK, hRf, hRl⟩ := B
  have hiX0 : ∀ w ∈ wsX00, w ∈ wsX3_removeRow := by decide +kernel
  have hf53 := hts (.fieldLink RX3 53 "ExactFolds$Fold" "kind" "I") (by decide +kernel)
  have hf56 := hts (.fieldLink RX3 56 "ExactFolds$Fold" "size" "I") (by decide +kernel)
  have hS : va_S A s.heap s.heap [] := va_S.rf
  have hl : lv_has ls 8 [(0, .ref x0), (1, .int f), (2, .int (nI r)), (3, .int t), (4, .long v)] := hl
  refine lv_aload_n hx hb dX3_removeRow_0 rfl (lv_at hl 0 rfl) ?_
  refine lv_iload_n hx hb dX3_removeRow_1 rfl (lv_at hl 1 rfl) ?_
  refine zc_q (W.runV ⟨hx, hb, hml, hown, hts⟩ (kX3_foldNumbered l E x0 fa tb st jn rs lm fh ft fv kd nz T V n b S J w1 w2 w3 w4 L hn f) (cwV 1 hts gX3_removeRow_X3_foldNumbered rfl rfl rfl (by decide +kernel) ⟨Nat.le_trans (Nat.le_of_ble_eq_true rfl) hRf, Nat.le_trans (Nat.le_of_ble_eq_true rfl) hRl⟩) (z_preV (As := [.int f]) hP hK 0 rfl rfl) rfl rfl hl.1 rfl (lv_room (Nat.le_of_ble_eq_true rfl)) dX3_removeRow_2 ⟨Nat.zero_le _, Nat.zero_le _⟩) ?_
  rcases fi_cases n f (by omega) with hfij | ⟨j, hjj, rfl, hfij⟩
  · rw [hfij]
    refine W.eq (g2 := F0 m 5 ls ([.null])) rfl ?_
    refine lv_astoreN (lv' := [(6, .null), (0, .ref x0), (1, .int f), (2, .int (nI r)), (3, .int t), (4, .long v)]) hx hb dX3_removeRow_5 hl (by decide) rfl (fun ls hl => ?_)
    refine lv_aloadN hx hb dX3_removeRow_7 (lv_at hl 0 rfl) ?_
    refine lv_ifnonnullN hx hb dX3_removeRow_9 ?_
    refine lv_iconst (v := (-1)) hx hb dX3_removeRow_12 (by decide) ?_
    exact z_reti (by unfold rmA; rw [hfij]; rfl) (ret _ _ _ _ (by (have ho : rmOk n kd nz T V r f t v = none := by unfold rmOk; rw [hfij]; rfl); unfold rmN rmT rmV; rw [ho]; exact hP) hS dX3_removeRow_13)
  · rw [hfij]
    refine W.eq (g2 := F0 m 5 ls ([.ref (fh j)])) rfl ?_
    have hPfj : va_P E.1 vwCl (fW E (fh j) (ft j) (fv j) (kd j) (nz j) (T j) (V j)) _ := P_fP (app_r hP) hjj
    refine lv_astore (lv' := [(6, .ref (fh j)), (0, .ref x0), (1, .int (nI j)), (2, .int (nI r)), (3, .int t), (4, .long v)]) hx hb dX3_removeRow_5 hl (by decide) rfl (fun ls hl => ?_)
    refine lv_aload hx hb dX3_removeRow_7 (lv_at hl 0 rfl) ?_
    refine lv_ifnonnull (tgt := 14) hx hb dX3_removeRow_9 (by decide) ?_
    refine lv_aload hx hb dX3_removeRow_14 (lv_at hl 0 rfl) ?_
    refine lv_iload_n hx hb dX3_removeRow_16 rfl (lv_at hl 4 rfl) ?_
    refine lv_lload hx hb dX3_removeRow_17 (lv_at hl 5 rfl) ?_
    refine zc_i (W.runV ⟨hx, hb, hml, hown, hts⟩ (kX0_placeOf l E (fh j) (ft j) (fv j) (nI (kd j)) (nz j) (T j) (V j) (hz j hjj) t v) (cwV 2 hts gX3_removeRow_X0_placeOf rfl rfl rfl (by decide +kernel) ⟨Nat.le_trans (Nat.le_of_ble_eq_true rfl) hRf, Nat.le_trans (Nat.le_of_ble_eq_true rfl) hRl⟩) (z_preV (As := [.int t, .long v]) hPfj hK 0 rfl rfl) rfl rfl hl.1 rfl (lv_room (Nat.le_of_ble_eq_true rfl)) dX3_removeRow_19 ⟨Nat.zero_le _, Nat.zero_le _⟩) ?_
    refine lv_istore (lv' := [(7, .int (nI (plc (T j) (V j) t v (nz j)))), (6, .ref (fh j)), (0, .ref x0), (1, .int (nI j)), (2, .int (nI r)), (3, .int t), (4, .long v)]) hx hb dX3_removeRow_22 hl (by decide) rfl (fun ls hl => ?_)
    refine lv_aload hx hb dX3_removeRow_24 (lv_at hl 1 rfl) ?_
    refine va_get (D := E.1) (ci := 1) (C := RX0) (T := TX0) (N := 4) hx hb hts hiX0 hown hK.1 hPfj 0 rfl rfl 0 (by decide) hf53 (fun _ h9 => h9) rfl dX3_removeRow_26 ?_
    refine lv_iconst (v := nI 1) hx hb dX3_removeRow_29 (by decide) ?_
    refine zn_icmp_ne (tgt := 37) hx hb dX3_removeRow_30 (by decide) (by have := hk5 j hjj; omega) (by omega) (fun c_1 => ?_) (fun c_1 => ?_)
    · refine lv_iconst (v := nI 0) hx hb dX3_removeRow_37 (by decide) ?_
      refine lv_iload_n hx hb dX3_removeRow_38 rfl (lv_at hl 4 rfl) ?_
      refine zn_icmp_ne (tgt := 55) hx hb dX3_removeRow_39 (by decide) (by omega) (by omega) (fun c_2 => ?_) (fun c_2 => ?_)
      · have hrr : ¬ (if kd j = 1 then 1 else 0) = r := by simp only [c_1, if_true, if_false]; omega
        refine lv_bipush (v := (-3)) hx hb dX3_removeRow_55 (by decide) ?_
        exact z_reti (by unfold rmA; rw [hfij]; show _ = (if (if kd j = 1 then 1 else 0) = r ∧ rowIs (T j) (V j) (nz j) (plc (T j) (V j) t v (nz j)) t v = true then nI (nz j - 1) else (-3)); rw [if_neg (fun q => hrr q.1)]) (ret _ _ _ _ (by (have ho : rmOk n kd nz T V r (nI j) t v = none := by unfold rmOk; rw [hfij]; show (if (if kd j = 1 then 1 else 0) = r ∧ rowIs (T j) (V j) (nz j) (plc (T j) (V j) t v (nz j)) t v = true then some j else none) = _; rw [if_neg (fun q => hrr q.1)]); unfold rmN rmT rmV; rw [ho]; exact hP) hS dX3_removeRow_57)
      · have hrr : (if kd j = 1 then 1 else 0) = r := by simp only [c_1, if_true, if_false]; omega
        refine lv_aload hx hb dX3_removeRow_42 (lv_at hl 1 rfl) ?_
        refine lv_iload hx hb dX3_removeRow_44 (lv_at hl 0 rfl) ?_
        refine lv_iload_n hx hb dX3_removeRow_46 rfl (lv_at hl 5 rfl) ?_
        refine lv_lload hx hb dX3_removeRow_47 (lv_at hl 6 rfl) ?_
        refine zc_i (W.runV ⟨hx, hb, hml, hown, hts⟩ (kX0_isRow l E (fh j) (ft j) (fv j) (nI (kd j)) (nz j) (T j) (V j) (hz j hjj) (plc (T j) (V j) t v (nz j)) (by have := plc_le (T j) (V j) t v (nz j); have := hz j hjj; omega) t v) (cwV 3 hts gX3_removeRow_X0_isRow rfl rfl rfl (by decide +kernel) ⟨Nat.le_trans (Nat.le_of_ble_eq_true rfl) hRf, Nat.le_trans (Nat.le_of_ble_eq_true rfl) hRl⟩) (z_preV (As := [.int (nI (plc (T j) (V j) t v (nz j))), .int t, .long v]) hPfj hK 0 rfl rfl) rfl rfl hl.1 rfl (lv_room (Nat.le_of_ble_eq_true rfl)) dX3_removeRow_49 ⟨Nat.zero_le _, Nat.zero_le _⟩) ?_
        refine zb_if_ne (tgt := 58) hx hb dX3_removeRow_52 (by decide) (fun c_3 => ?_) (fun c_3 => ?_)
        · refine lv_aload hx hb dX3_removeRow_58 (lv_at hl 1 rfl) ?_
          refine lv_iload hx hb dX3_removeRow_60 (lv_at hl 0 rfl) ?_
          refine zx_fold_v (j := j) (n1 := nz j - 1) (T1 := delT (T j) (plc (T j) (V j) t v (nz j)) (nz j)) (V1 := delT (V j) (plc (T j) (V j) t v (nz j)) (nz j)) (va_runV ⟨hx, hb, hml, hown, hts⟩ (kX0_takeOut l E _ (fh j) (ft j) (fv j) (nI (kd j)) (nz j) (T j) (V j) (hz j hjj) (plc (T j) (V j) t v (nz j)) (rowIs_lt (by assumption))) (cwV 1 hts gX3_removeRow_X0_takeOut rfl rfl rfl (by decide +kernel) ⟨Nat.le_trans (Nat.le_of_ble_eq_true rfl) hRf, Nat.le_trans (Nat.le_of_ble_eq_true rfl) hRl⟩) (z_preWV (As := [.int (nI (plc (T j) (V j) t v (nz j)))]) hPfj (D_fP (D_r hD) hjj) hK 0 rfl rfl) rfl rfl hl.1 rfl (lv_room (Nat.le_of_ble_eq_true rfl)) dX3_removeRow_62 ⟨Nat.zero_le _, Nat.zero_le _⟩) hP hD hS hA hjj (fun H locs hP hD hS => ?_)
          have hPfj : va_P E.1 vwCl (fW E (fh j) (ft j) (fv j) (kd j) (nz j - 1) (delT (T j) (plc (T j) (V j) t v (nz j)) (nz j)) (delT (V j) (plc (T j) (V j) t v (nz j)) (nz j))) H := by
            have h9 := P_fP (app_r hP) hjj; rw [updN_self, updN_self, updN_self] at h9; exact h9
          refine lv_aload hx hb dX3_removeRow_65 (lv_at hl 1 rfl) ?_
          refine va_get (D := E.1) (ci := 1) (C := RX0) (T := TX0) (N := 4) hx hb hts hiX0 hown hK.1 hPfj 0 rfl rfl 3 (by decide) hf56 (fun _ h9 => h9) rfl dX3_removeRow_67 ?_
          exact z_reti (by unfold rmA; rw [hfij]; show _ = (if (if kd j = 1 then 1 else 0) = r ∧ rowIs (T j) (V j) (nz j) (plc (T j) (V j) t v (nz j)) t v = true then nI (nz j - 1) else (-3)); rw [if_pos ⟨hrr, c_3⟩]) (ret _ _ _ _ (by (have ho : rmOk n kd nz T V r (nI j) t v = some j := by unfold rmOk; rw [hfij]; show (if (if kd j = 1 then 1 else 0) = r ∧ rowIs (T j) (V j) (nz j) (plc (T j) (V j) t v (nz j)) t v = true then some j else none) = _; rw [if_pos ⟨hrr, c_3⟩]); unfold rmN rmT rmV; rw [ho]; exact hP) hS dX3_removeRow_70)
        · refine lv_bipush (v := (-3)) hx hb dX3_removeRow_55 (by decide) ?_
          exact z_reti (by unfold rmA; rw [hfij]; show _ = (if (if kd j = 1 then 1 else 0) = r ∧ rowIs (T j) (V j) (nz j) (plc (T j) (V j) t v (nz j)) t v = true then nI (nz j - 1) else (-3)); rw [if_neg (fun q => by have := q.2; rw [c_3] at this; cases this)]) (ret _ _ _ _ (by (have ho : rmOk n kd nz T V r (nI j) t v = none := by unfold rmOk; rw [hfij]; show (if (if kd j = 1 then 1 else 0) = r ∧ rowIs (T j) (V j) (nz j) (plc (T j) (V j) t v (nz j)) t v = true then some j else none) = _; rw [if_neg (fun q => by have := q.2; rw [c_3] at this; cases this)]); unfold rmN rmT rmV; rw [ho]; exact hP) hS dX3_removeRow_57)
    · refine lv_iconst (v := nI 1) hx hb dX3_removeRow_33 (by decide) ?_
      refine lv_goto (tgt := 38) hx hb dX3_removeRow_34 (by decide) ?_
      refine lv_iload_n hx hb dX3_removeRow_38 rfl (lv_at hl 4 rfl) ?_
      refine zn_icmp_ne (tgt := 55) hx hb dX3_removeRow_39 (by decide) (by omega) (by omega) (fun c_4 => ?_) (fun c_4 => ?_)
      · have hrr : ¬ (if kd j = 1 then 1 else 0) = r := by simp only [c_1, if_true, if_false]; omega
        refine lv_bipush (v := (-3)) hx hb dX3_removeRow_55 (by decide) ?_
        exact z_reti (by unfold rmA; rw [hfij]; show _ = (if (if kd j = 1 then 1 else 0) = r ∧ rowIs (T j) (V j) (nz j) (plc (T j) (V j) t v (nz j)) t v = true then nI (nz j - 1) else (-3)); rw [if_neg (fun q => hrr q.1)]) (ret _ _ _ _ (by (have ho : rmOk n kd nz T V r (nI j) t v = none := by unfold rmOk; rw [hfij]; show (if (if kd j = 1 then 1 else 0) = r ∧ rowIs (T j) (V j) (nz j) (plc (T j) (V j) t v (nz j)) t v = true then some j else none) = _; rw [if_neg (fun q => hrr q.1)]); unfold rmN rmT rmV; rw [ho]; exact hP) hS dX3_removeRow_57)
      · have hrr : (if kd j = 1 then 1 else 0) = r := by simp only [c_1, if_true, if_false]; omega
        refine lv_aload hx hb dX3_removeRow_42 (lv_at hl 1 rfl) ?_
        refine lv_iload hx hb dX3_removeRow_44 (lv_at hl 0 rfl) ?_
        refine lv_iload_n hx hb dX3_removeRow_46 rfl (lv_at hl 5 rfl) ?_
        refine lv_lload hx hb dX3_removeRow_47 (lv_at hl 6 rfl) ?_
        refine zc_i (W.runV ⟨hx, hb, hml, hown, hts⟩ (kX0_isRow l E (fh j) (ft j) (fv j) (nI (kd j)) (nz j) (T j) (V j) (hz j hjj) (plc (T j) (V j) t v (nz j)) (by have := plc_le (T j) (V j) t v (nz j); have := hz j hjj; omega) t v) (cwV 3 hts gX3_removeRow_X0_isRow rfl rfl rfl (by decide +kernel) ⟨Nat.le_trans (Nat.le_of_ble_eq_true rfl) hRf, Nat.le_trans (Nat.le_of_ble_eq_true rfl) hRl⟩) (z_preV (As := [.int (nI (plc (T j) (V j) t v (nz j))), .int t, .long v]) hPfj hK 0 rfl rfl) rfl rfl hl.1 rfl (lv_room (Nat.le_of_ble_eq_true rfl)) dX3_removeRow_49 ⟨Nat.zero_le _, Nat.zero_le _⟩) ?_
        refine zb_if_ne (tgt := 58) hx hb dX3_removeRow_52 (by decide) (fun c_5 => ?_) (fun c_5 => ?_)
        · refine lv_aload hx hb dX3_removeRow_58 (lv_at hl 1 rfl) ?_
          refine lv_iload hx hb dX3_removeRow_60 (lv_at hl 0 rfl) ?_
          refine zx_fold_v (j := j) (n1 := nz j - 1) (T1 := delT (T j) (plc (T j) (V j) t v (nz j)) (nz j)) (V1 := delT (V j) (plc (T j) (V j) t v (nz j)) (nz j)) (va_runV ⟨hx, hb, hml, hown, hts⟩ (kX0_takeOut l E _ (fh j) (ft j) (fv j) (nI (kd j)) (nz j) (T j) (V j) (hz j hjj) (plc (T j) (V j) t v (nz j)) (rowIs_lt (by assumption))) (cwV 1 hts gX3_removeRow_X0_takeOut rfl rfl rfl (by decide +kernel) ⟨Nat.le_trans (Nat.le_of_ble_eq_true rfl) hRf, Nat.le_trans (Nat.le_of_ble_eq_true rfl) hRl⟩) (z_preWV (As := [.int (nI (plc (T j) (V j) t v (nz j)))]) hPfj (D_fP (D_r hD) hjj) hK 0 rfl rfl) rfl rfl hl.1 rfl (lv_room (Nat.le_of_ble_eq_true rfl)) dX3_removeRow_62 ⟨Nat.zero_le _, Nat.zero_le _⟩) hP hD hS hA hjj (fun H locs hP hD hS => ?_)
          have hPfj : va_P E.1 vwCl (fW E (fh j) (ft j) (fv j) (kd j) (nz j - 1) (delT (T j) (plc (T j) (V j) t v (nz j)) (nz j)) (delT (V j) (plc (T j) (V j) t v (nz j)) (nz j))) H := by
            have h9 := P_fP (app_r hP) hjj; rw [updN_self, updN_self, updN_self] at h9; exact h9
          refine lv_aload hx hb dX3_removeRow_65 (lv_at hl 1 rfl) ?_
          refine va_get (D := E.1) (ci := 1) (C := RX0) (T := TX0) (N := 4) hx hb hts hiX0 hown hK.1 hPfj 0 rfl rfl 3 (by decide) hf56 (fun _ h9 => h9) rfl dX3_removeRow_67 ?_
          exact z_reti (by unfold rmA; rw [hfij]; show _ = (if (if kd j = 1 then 1 else 0) = r ∧ rowIs (T j) (V j) (nz j) (plc (T j) (V j) t v (nz j)) t v = true then nI (nz j - 1) else (-3)); rw [if_pos ⟨hrr, c_5⟩]) (ret _ _ _ _ (by (have ho : rmOk n kd nz T V r (nI j) t v = some j := by unfold rmOk; rw [hfij]; show (if (if kd j = 1 then 1 else 0) = r ∧ rowIs (T j) (V j) (nz j) (plc (T j) (V j) t v (nz j)) t v = true then some j else none) = _; rw [if_pos ⟨hrr, c_5⟩]); unfold rmN rmT rmV; rw [ho]; exact hP) hS dX3_removeRow_70)
        · refine lv_bipush (v := (-3)) hx hb dX3_removeRow_55 (by decide) ?_
          exact z_reti (by unfold rmA; rw [hfij]; show _ = (if (if kd j = 1 then 1 else 0) = r ∧ rowIs (T j) (V j) (nz j) (plc (T j) (V j) t v (nz j)) t v = true then nI (nz j - 1) else (-3)); rw [if_neg (fun q => by have := q.2; rw [c_5] at this; cases this)]) (ret _ _ _ _ (by (have ho : rmOk n kd nz T V r (nI j) t v = none := by unfold rmOk; rw [hfij]; show (if (if kd j = 1 then 1 else 0) = r ∧ rowIs (T j) (V j) (nz j) (plc (T j) (V j) t v (nz j)) t v = true then some j else none) = _; rw [if_neg (fun q => by have := q.2; rw [c_5] at this; cases this)]); unfold rmN rmT rmV; rw [ho]; exact hP) hS dX3_removeRow_57)
set_option maxHeartbeats 4000000 in
set_option maxRecDepth 100000 in
theorem kX3_add (l : Launch) (E : zE) (sz : Nat) (x0 fa tb st jn rs lm : Nat) (fh ft fv kd nz : Nat → Nat) (T : Nat → Nat → Int32) (V : Nat → Nat → Int64) (n b : Nat) (S J : Nat → Nat) (w1 w2 w3 w4 : Int32) (L : Nat → Int64) (hn : n ≤ 12) (hz : ∀ j, j < n → nz j ≤ 64) (hk5 : ∀ j, j < n → kd j < 5) (f t : Int32) (v : Int64) : Met l yX3_add wsX3_add (rmL 3) (va_Pc [.ref x0, .int f, .int t, .long v] (zS E (xB E x0 fa tb st jn rs lm fh n b S J w1 w2 w3 w4 L ++ fP E fh ft fv kd nz T V n) sz)) (va_Qi (fun (r9 : Int32) (_ : Unit) => r9 = adA n kd nz 0 f t v) (fun _ t9 => zW E (xB E x0 fa tb st jn rs lm fh n b S J w1 w2 w3 w4 L ++ fP E fh ft fv kd (adN (adOk n kd nz 0 f t v) nz) (adT (adOk n kd nz 0 f t v) nz T V t v) (adV (adOk n kd nz 0 f t v) nz T V t v) n) t9) (va_A (xB E x0 fa tb st jn rs lm fh n b S J w1 w2 w3 w4 L ++ fP E fh ft fv kd nz T V n) sz)) 0 0 (va_A (xB E x0 fa tb st jn rs lm fh n b S J w1 w2 w3 w4 L ++ fP E fh ft fv kd nz T V n) sz) := by
  refine z_ofWi (cc := cX3_add) (maxL := 5) (own := RX3) (by decide) rfl rfl (Nat.le_of_ble_eq_true rfl) ?_
  intro p e s m args below meth c R Q A B hP hD hA ret ls hl
  obtain ⟨hx, hb, hml, hown, hts, hK, hRf, hRl⟩ := B
  have hS : va_S A s.heap s.heap [] := va_S.rf
  have hl : lv_has ls 5 [(0, .ref x0), (1, .int f), (2, .int t), (3, .long v)] := hl
  refine lv_aload_n hx hb dX3_add_0 rfl (lv_at hl 0 rfl) ?_
  refine lv_iload_n hx hb dX3_add_1 rfl (lv_at hl 1 rfl) ?_
  refine lv_iconst (v := nI 0) hx hb dX3_add_2 (by decide) ?_
  refine lv_iload_n hx hb dX3_add_3 rfl (lv_at hl 2 rfl) ?_
  refine lv_lload_n hx hb dX3_add_4 rfl (lv_at hl 3 rfl) ?_
  refine zall_i (va_runV ⟨hx, hb, hml, hown, hts⟩ (kX3_addRow l E _ x0 fa tb st jn rs lm fh ft fv kd nz T V n b S J w1 w2 w3 w4 L hn hz hk5 f 0 (by decide) t v) (cwV 4 hts gX3_add_X3_addRow rfl rfl rfl (by decide +kernel) ⟨Nat.le_trans (Nat.le_of_ble_eq_true rfl) hRf, Nat.le_trans (Nat.le_of_ble_eq_true rfl) hRl⟩) (z_preWV (As := [.int f, .int (nI 0), .int t, .long v]) hP hD hK 0 rfl rfl) rfl rfl hl.1 rfl (lv_room (Nat.le_of_ble_eq_true rfl)) dX3_add_5 ⟨Nat.zero_le _, Nat.zero_le _⟩) hD hS hA (by rw [List.map_append, List.map_append, fP_fst]) (fun H locs hP hD hS => ?_)
  exact z_reti (rfl) (ret _ _ _ _ (hP) hS dX3_add_8)
set_option maxHeartbeats 4000000 in
set_option maxRecDepth 100000 in
theorem kX3_addReal (l : Launch) (E : zE) (sz : Nat) (x0 fa tb st jn rs lm : Nat) (fh ft fv kd nz : Nat → Nat) (T : Nat → Nat → Int32) (V : Nat → Nat → Int64) (n b : Nat) (S J : Nat → Nat) (w1 w2 w3 w4 : Int32) (L : Nat → Int64) (hn : n ≤ 12) (hz : ∀ j, j < n → nz j ≤ 64) (hk5 : ∀ j, j < n → kd j < 5) (f t : Int32) (v : Int64) : Met l yX3_addReal wsX3_addReal (rmL 3) (va_Pc [.ref x0, .int f, .int t, .long v] (zS E (xB E x0 fa tb st jn rs lm fh n b S J w1 w2 w3 w4 L ++ fP E fh ft fv kd nz T V n) sz)) (va_Qi (fun (r9 : Int32) (_ : Unit) => r9 = adA n kd nz 1 f t (wz v)) (fun _ t9 => zW E (xB E x0 fa tb st jn rs lm fh n b S J w1 w2 w3 w4 L ++ fP E fh ft fv kd (adN (adOk n kd nz 1 f t (wz v)) nz) (adT (adOk n kd nz 1 f t (wz v)) nz T V t (wz v)) (adV (adOk n kd nz 1 f t (wz v)) nz T V t (wz v)) n) t9) (va_A (xB E x0 fa tb st jn rs lm fh n b S J w1 w2 w3 w4 L ++ fP E fh ft fv kd nz T V n) sz)) 0 0 (va_A (xB E x0 fa tb st jn rs lm fh n b S J w1 w2 w3 w4 L ++ fP E fh ft fv kd nz T V n) sz) := by
  refine z_ofWi (cc := cX3_addReal) (maxL := 5) (own := RX3) (by decide) rfl rfl (Nat.le_of_ble_eq_true rfl) ?_
  intro p e s m args below meth c R Q A B hP hD hA ret ls hl
  obtain ⟨hx, hb, hml, hown, hts, hK, hRf, hRl⟩ := B
  have hS : va_S A s.heap s.heap [] := va_S.rf
  have hl : lv_has ls 5 [(0, .ref x0), (1, .int f), (2, .int t), (3, .long v)] := hl
  refine lv_aload_n hx hb dX3_addReal_0 rfl (lv_at hl 0 rfl) ?_
  refine lv_iload_n hx hb dX3_addReal_1 rfl (lv_at hl 1 rfl) ?_
  refine lv_iconst (v := nI 1) hx hb dX3_addReal_2 (by decide) ?_
  refine lv_iload_n hx hb dX3_addReal_3 rfl (lv_at hl 2 rfl) ?_
  refine lv_lload_n hx hb dX3_addReal_4 rfl (lv_at hl 3 rfl) ?_
  refine zc_l (W.runS ⟨hx, hb, hml, hown, hts⟩ (kX3_withOneZero l E v) (cwS 1 hts gX3_addReal_X3_withOneZero rfl rfl rfl (by decide +kernel) ⟨Nat.le_trans (Nat.le_of_ble_eq_true rfl) hRf, Nat.le_trans (Nat.le_of_ble_eq_true rfl) hRl⟩) (z_preR (av := [.long v]) (hP.sub (ws' := []) [] rfl) hK) rfl rfl hl.1 rfl (lv_room (Nat.le_of_ble_eq_true rfl)) dX3_addReal_5 ⟨Nat.zero_le _, Nat.zero_le _⟩) ?_
  refine zall_i (va_runV ⟨hx, hb, hml, hown, hts⟩ (kX3_addRow l E _ x0 fa tb st jn rs lm fh ft fv kd nz T V n b S J w1 w2 w3 w4 L hn hz hk5 f 1 (by decide) t (wz v)) (cwV 4 hts gX3_addReal_X3_addRow rfl rfl rfl (by decide +kernel) ⟨Nat.le_trans (Nat.le_of_ble_eq_true rfl) hRf, Nat.le_trans (Nat.le_of_ble_eq_true rfl) hRl⟩) (z_preWV (As := [.int f, .int (nI 1), .int t, .long (wz v)]) hP hD hK 0 rfl rfl) rfl rfl hl.1 rfl (lv_room (Nat.le_of_ble_eq_true rfl)) dX3_addReal_8 ⟨Nat.zero_le _, Nat.zero_le _⟩) hD hS hA (by rw [List.map_append, List.map_append, fP_fst]) (fun H locs hP hD hS => ?_)
  exact z_reti (rfl) (ret _ _ _ _ (hP) hS dX3_addReal_11)
set_option maxHeartbeats 4000000 in
set_option maxRecDepth 100000 in
theorem kX3_remove (l : Launch) (E : zE) (sz : Nat) (x0 fa tb st jn rs lm : Nat) (fh ft fv kd nz : Nat → Nat) (T : Nat → Nat → Int32) (V : Nat → Nat → Int64) (n b : Nat) (S J : Nat → Nat) (w1 w2 w3 w4 : Int32) (L : Nat → Int64) (hn : n ≤ 12) (hz : ∀ j, j < n → nz j ≤ 64) (hk5 : ∀ j, j < n → kd j < 5) (f t : Int32) (v : Int64) : Met l yX3_remove wsX3_remove (rmL 3) (va_Pc [.ref x0, .int f, .int t, .long v] (zS E (xB E x0 fa tb st jn rs lm fh n b S J w1 w2 w3 w4 L ++ fP E fh ft fv kd nz T V n) sz)) (va_Qi (fun (r9 : Int32) (_ : Unit) => r9 = rmA n kd nz T V 0 f t v) (fun _ t9 => zW E (xB E x0 fa tb st jn rs lm fh n b S J w1 w2 w3 w4 L ++ fP E fh ft fv kd (rmN (rmOk n kd nz T V 0 f t v) nz) (rmT (rmOk n kd nz T V 0 f t v) nz T V t v) (rmV (rmOk n kd nz T V 0 f t v) nz T V t v) n) t9) (va_A (xB E x0 fa tb st jn rs lm fh n b S J w1 w2 w3 w4 L ++ fP E fh ft fv kd nz T V n) sz)) 0 0 (va_A (xB E x0 fa tb st jn rs lm fh n b S J w1 w2 w3 w4 L ++ fP E fh ft fv kd nz T V n) sz) := by
  refine z_ofWi (cc := cX3_remove) (maxL := 5) (own := RX3) (by decide) rfl rfl (Nat.le_of_ble_eq_true rfl) ?_
  intro p e s m args below meth c R Q A B hP hD hA ret ls hl
  obtain ⟨hx, hb, hml, hown, hts, hK, hRf, hRl⟩ := B
  have hS : va_S A s.heap s.heap [] := va_S.rf
  have hl : lv_has ls 5 [(0, .ref x0), (1, .int f), (2, .int t), (3, .long v)] := hl
  refine lv_aload_n hx hb dX3_remove_0 rfl (lv_at hl 0 rfl) ?_
  refine lv_iload_n hx hb dX3_remove_1 rfl (lv_at hl 1 rfl) ?_
  refine lv_iconst (v := nI 0) hx hb dX3_remove_2 (by decide) ?_
  refine lv_iload_n hx hb dX3_remove_3 rfl (lv_at hl 2 rfl) ?_
  refine lv_lload_n hx hb dX3_remove_4 rfl (lv_at hl 3 rfl) ?_
  refine zall_i (va_runV ⟨hx, hb, hml, hown, hts⟩ (kX3_removeRow l E _ x0 fa tb st jn rs lm fh ft fv kd nz T V n b S J w1 w2 w3 w4 L hn hz hk5 f 0 (by decide) t v) (cwV 4 hts gX3_remove_X3_removeRow rfl rfl rfl (by decide +kernel) ⟨Nat.le_trans (Nat.le_of_ble_eq_true rfl) hRf, Nat.le_trans (Nat.le_of_ble_eq_true rfl) hRl⟩) (z_preWV (As := [.int f, .int (nI 0), .int t, .long v]) hP hD hK 0 rfl rfl) rfl rfl hl.1 rfl (lv_room (Nat.le_of_ble_eq_true rfl)) dX3_remove_5 ⟨Nat.zero_le _, Nat.zero_le _⟩) hD hS hA (by rw [List.map_append, List.map_append, fP_fst]) (fun H locs hP hD hS => ?_)
  exact z_reti (rfl) (ret _ _ _ _ (hP) hS dX3_remove_8)
set_option maxHeartbeats 4000000 in
set_option maxRecDepth 100000 in
theorem kX3_removeReal (l : Launch) (E : zE) (sz : Nat) (x0 fa tb st jn rs lm : Nat) (fh ft fv kd nz : Nat → Nat) (T : Nat → Nat → Int32) (V : Nat → Nat → Int64) (n b : Nat) (S J : Nat → Nat) (w1 w2 w3 w4 : Int32) (L : Nat → Int64) (hn : n ≤ 12) (hz : ∀ j, j < n → nz j ≤ 64) (hk5 : ∀ j, j < n → kd j < 5) (f t : Int32) (v : Int64) : Met l yX3_removeReal wsX3_removeReal (rmL 3) (va_Pc [.ref x0, .int f, .int t, .long v] (zS E (xB E x0 fa tb st jn rs lm fh n b S J w1 w2 w3 w4 L ++ fP E fh ft fv kd nz T V n) sz)) (va_Qi (fun (r9 : Int32) (_ : Unit) => r9 = rmA n kd nz T V 1 f t (wz v)) (fun _ t9 => zW E (xB E x0 fa tb st jn rs lm fh n b S J w1 w2 w3 w4 L ++ fP E fh ft fv kd (rmN (rmOk n kd nz T V 1 f t (wz v)) nz) (rmT (rmOk n kd nz T V 1 f t (wz v)) nz T V t (wz v)) (rmV (rmOk n kd nz T V 1 f t (wz v)) nz T V t (wz v)) n) t9) (va_A (xB E x0 fa tb st jn rs lm fh n b S J w1 w2 w3 w4 L ++ fP E fh ft fv kd nz T V n) sz)) 0 0 (va_A (xB E x0 fa tb st jn rs lm fh n b S J w1 w2 w3 w4 L ++ fP E fh ft fv kd nz T V n) sz) := by
  refine z_ofWi (cc := cX3_removeReal) (maxL := 5) (own := RX3) (by decide) rfl rfl (Nat.le_of_ble_eq_true rfl) ?_
  intro p e s m args below meth c R Q A B hP hD hA ret ls hl
  obtain ⟨hx, hb, hml, hown, hts, hK, hRf, hRl⟩ := B
  have hS : va_S A s.heap s.heap [] := va_S.rf
  have hl : lv_has ls 5 [(0, .ref x0), (1, .int f), (2, .int t), (3, .long v)] := hl
  refine lv_aload_n hx hb dX3_removeReal_0 rfl (lv_at hl 0 rfl) ?_
  refine lv_iload_n hx hb dX3_removeReal_1 rfl (lv_at hl 1 rfl) ?_
  refine lv_iconst (v := nI 1) hx hb dX3_removeReal_2 (by decide) ?_
  refine lv_iload_n hx hb dX3_removeReal_3 rfl (lv_at hl 2 rfl) ?_
  refine lv_lload_n hx hb dX3_removeReal_4 rfl (lv_at hl 3 rfl) ?_
  refine zc_l (W.runS ⟨hx, hb, hml, hown, hts⟩ (kX3_withOneZero l E v) (cwS 1 hts gX3_removeReal_X3_withOneZero rfl rfl rfl (by decide +kernel) ⟨Nat.le_trans (Nat.le_of_ble_eq_true rfl) hRf, Nat.le_trans (Nat.le_of_ble_eq_true rfl) hRl⟩) (z_preR (av := [.long v]) (hP.sub (ws' := []) [] rfl) hK) rfl rfl hl.1 rfl (lv_room (Nat.le_of_ble_eq_true rfl)) dX3_removeReal_5 ⟨Nat.zero_le _, Nat.zero_le _⟩) ?_
  refine zall_i (va_runV ⟨hx, hb, hml, hown, hts⟩ (kX3_removeRow l E _ x0 fa tb st jn rs lm fh ft fv kd nz T V n b S J w1 w2 w3 w4 L hn hz hk5 f 1 (by decide) t (wz v)) (cwV 4 hts gX3_removeReal_X3_removeRow rfl rfl rfl (by decide +kernel) ⟨Nat.le_trans (Nat.le_of_ble_eq_true rfl) hRf, Nat.le_trans (Nat.le_of_ble_eq_true rfl) hRl⟩) (z_preWV (As := [.int f, .int (nI 1), .int t, .long (wz v)]) hP hD hK 0 rfl rfl) rfl rfl hl.1 rfl (lv_room (Nat.le_of_ble_eq_true rfl)) dX3_removeReal_8 ⟨Nat.zero_le _, Nat.zero_le _⟩) hD hS hA (by rw [List.map_append, List.map_append, fP_fst]) (fun H locs hP hD hS => ?_)
  exact z_reti (rfl) (ret _ _ _ _ (hP) hS dX3_removeReal_11)
set_option maxHeartbeats 4000000 in
set_option maxRecDepth 100000 in
theorem kX3_merge (l : Launch) (E : zE) (sz : Nat) (x0 fa tb st jn rs lm : Nat) (fh ft fv kd nz : Nat → Nat) (T : Nat → Nat → Int32) (V : Nat → Nat → Int64) (n b : Nat) (S J : Nat → Nat) (w1 w2 w3 w4 : Int32) (L : Nat → Int64) (hn : n ≤ 12) (hz : ∀ j, j < n → nz j ≤ 64) (hk5 : ∀ j, j < n → kd j < 5) (f g : Int32) : Met l yX3_merge wsX3_merge (rmL 3) (va_Pc [.ref x0, .int f, .int g] (zS E (xB E x0 fa tb st jn rs lm fh n b S J w1 w2 w3 w4 L ++ fP E fh ft fv kd nz T V n) sz)) (va_Qi (fun (r9 : Int32) (_ : Unit) => r9 = mgA n kd nz f g) (fun _ t9 => zW E (xB E x0 fa tb st jn rs lm fh n b S J w1 w2 w3 w4 L ++ fP E fh ft fv kd (mgN (mgOk n kd nz f g) nz) (mgT (mgOk n kd nz f g) nz T V) (mgV (mgOk n kd nz f g) nz T V) n) t9) (va_A (xB E x0 fa tb st jn rs lm fh n b S J w1 w2 w3 w4 L ++ fP E fh ft fv kd nz T V n) sz)) 0 0 (va_A (xB E x0 fa tb st jn rs lm fh n b S J w1 w2 w3 w4 L ++ fP E fh ft fv kd nz T V n) sz) := by
  refine z_ofWi (cc := cX3_merge) (maxL := 5) (own := RX3) (by decide) rfl rfl (Nat.le_of_ble_eq_true rfl) ?_
  intro p e s m args below meth c R Q A B hP hD hA ret ls hl
  obtain ⟨hx, hb, hml, hown, hts, hK, hRf, hRl⟩ := B
  have hiX0 : ∀ w ∈ wsX00, w ∈ wsX3_merge := by decide +kernel
  have hf53 := hts (.fieldLink RX3 53 "ExactFolds$Fold" "kind" "I") (by decide +kernel)
  have hf56 := hts (.fieldLink RX3 56 "ExactFolds$Fold" "size" "I") (by decide +kernel)
  have hS : va_S A s.heap s.heap [] := va_S.rf
  have hl : lv_has ls 5 [(0, .ref x0), (1, .int f), (2, .int g)] := hl
  refine lv_aload_n hx hb dX3_merge_0 rfl (lv_at hl 0 rfl) ?_
  refine lv_iload_n hx hb dX3_merge_1 rfl (lv_at hl 1 rfl) ?_
  refine zc_q (W.runV ⟨hx, hb, hml, hown, hts⟩ (kX3_foldNumbered l E x0 fa tb st jn rs lm fh ft fv kd nz T V n b S J w1 w2 w3 w4 L hn f) (cwV 1 hts gX3_merge_X3_foldNumbered rfl rfl rfl (by decide +kernel) ⟨Nat.le_trans (Nat.le_of_ble_eq_true rfl) hRf, Nat.le_trans (Nat.le_of_ble_eq_true rfl) hRl⟩) (z_preV (As := [.int f]) hP hK 0 rfl rfl) rfl rfl hl.1 rfl (lv_room (Nat.le_of_ble_eq_true rfl)) dX3_merge_2 ⟨Nat.zero_le _, Nat.zero_le _⟩) ?_
  rcases fi_cases n f (by omega) with hfii | ⟨i, hji, rfl, hfii⟩
  · rw [hfii]
    refine W.eq (g2 := F0 m 5 ls ([.null])) rfl ?_
    refine lv_astore_nN (lv' := [(3, .null), (0, .ref x0), (1, .int f), (2, .int g)]) hx hb dX3_merge_5 rfl hl (by decide) rfl (fun ls hl => ?_)
    refine lv_aload_n hx hb dX3_merge_6 rfl (lv_at hl 1 rfl) ?_
    refine lv_iload_n hx hb dX3_merge_7 rfl (lv_at hl 3 rfl) ?_
    refine zc_q (W.runV ⟨hx, hb, hml, hown, hts⟩ (kX3_foldNumbered l E x0 fa tb st jn rs lm fh ft fv kd nz T V n b S J w1 w2 w3 w4 L hn g) (cwV 1 hts gX3_merge_X3_foldNumbered rfl rfl rfl (by decide +kernel) ⟨Nat.le_trans (Nat.le_of_ble_eq_true rfl) hRf, Nat.le_trans (Nat.le_of_ble_eq_true rfl) hRl⟩) (z_preV (As := [.int g]) hP hK 0 rfl rfl) rfl rfl hl.1 rfl (lv_room (Nat.le_of_ble_eq_true rfl)) dX3_merge_8 ⟨Nat.zero_le _, Nat.zero_le _⟩) ?_
    rcases fi_cases n g (by omega) with hfij | ⟨j, hjj, rfl, hfij⟩
    · rw [hfij]
      refine W.eq (g2 := F0 m 11 ls ([.null])) rfl ?_
      refine lv_astoreN (lv' := [(4, .null), (3, .null), (0, .ref x0), (1, .int f), (2, .int g)]) hx hb dX3_merge_11 hl (by decide) rfl (fun ls hl => ?_)
      refine lv_aload_nN hx hb dX3_merge_13 rfl (lv_at hl 1 rfl) ?_
      refine lv_ifnullN (tgt := 27) hx hb dX3_merge_14 (by decide) ?_
      refine lv_iconst (v := (-1)) hx hb dX3_merge_27 (by decide) ?_
      exact z_reti (by unfold mgA; rw [hfii]; rfl) (ret _ _ _ _ (by (have ho : mgOk n kd nz f g = none := by unfold mgOk; rw [hfii]; rfl); unfold mgN mgT mgV; rw [ho]; exact hP) hS dX3_merge_28)
    · rw [hfij]
      refine W.eq (g2 := F0 m 11 ls ([.ref (fh j)])) rfl ?_
      have hPfj : va_P E.1 vwCl (fW E (fh j) (ft j) (fv j) (kd j) (nz j) (T j) (V j)) _ := P_fP (app_r hP) hjj
      refine lv_astore (lv' := [(4, .ref (fh j)), (3, .null), (0, .ref x0), (1, .int f), (2, .int (nI j))]) hx hb dX3_merge_11 hl (by decide) rfl (fun ls hl => ?_)
      refine lv_aload_nN hx hb dX3_merge_13 rfl (lv_at hl 1 rfl) ?_
      refine lv_ifnullN (tgt := 27) hx hb dX3_merge_14 (by decide) ?_
      refine lv_iconst (v := (-1)) hx hb dX3_merge_27 (by decide) ?_
      exact z_reti (by unfold mgA; rw [hfii]; rfl) (ret _ _ _ _ (by (have ho : mgOk n kd nz f (nI j) = none := by unfold mgOk; rw [hfii]; rfl); unfold mgN mgT mgV; rw [ho]; exact hP) hS dX3_merge_28)
  · rw [hfii]
    refine W.eq (g2 := F0 m 5 ls ([.ref (fh i)])) rfl ?_
    have hPfi : va_P E.1 vwCl (fW E (fh i) (ft i) (fv i) (kd i) (nz i) (T i) (V i)) _ := P_fP (app_r hP) hji
    refine lv_astore_n (lv' := [(3, .ref (fh i)), (0, .ref x0), (1, .int (nI i)), (2, .int g)]) hx hb dX3_merge_5 rfl hl (by decide) rfl (fun ls hl => ?_)
    refine lv_aload_n hx hb dX3_merge_6 rfl (lv_at hl 1 rfl) ?_
    refine lv_iload_n hx hb dX3_merge_7 rfl (lv_at hl 3 rfl) ?_
    refine zc_q (W.runV ⟨hx, hb, hml, hown, hts⟩ (kX3_foldNumbered l E x0 fa tb st jn rs lm fh ft fv kd nz T V n b S J w1 w2 w3 w4 L hn g) (cwV 1 hts gX3_merge_X3_foldNumbered rfl rfl rfl (by decide +kernel) ⟨Nat.le_trans (Nat.le_of_ble_eq_true rfl) hRf, Nat.le_trans (Nat.le_of_ble_eq_true rfl) hRl⟩) (z_preV (As := [.int g]) hP hK 0 rfl rfl) rfl rfl hl.1 rfl (lv_room (Nat.le_of_ble_eq_true rfl)) dX3_merge_8 ⟨Nat.zero_le _, Nat.zero_le _⟩) ?_
    rcases fi_cases n g (by omega) with hfij | ⟨j, hjj, rfl, hfij⟩
    · rw [hfij]
      refine W.eq (g2 := F0 m 11 ls ([.null])) rfl ?_
      refine lv_astoreN (lv' := [(4, .null), (3, .ref (fh i)), (0, .ref x0), (1, .int (nI i)), (2, .int g)]) hx hb dX3_merge_11 hl (by decide) rfl (fun ls hl => ?_)
      refine lv_aload_n hx hb dX3_merge_13 rfl (lv_at hl 1 rfl) ?_
      refine lv_ifnull hx hb dX3_merge_14 ?_
      refine lv_aloadN hx hb dX3_merge_17 (lv_at hl 0 rfl) ?_
      refine lv_ifnullN (tgt := 27) hx hb dX3_merge_19 (by decide) ?_
      refine lv_iconst (v := (-1)) hx hb dX3_merge_27 (by decide) ?_
      exact z_reti (by unfold mgA; rw [hfii]; show _ = (fidx n g).elim (-1) _; rw [hfij]; rfl) (ret _ _ _ _ (by (have ho : mgOk n kd nz (nI i) g = none := by unfold mgOk; rw [hfii]; show (fidx n g).elim none _ = _; rw [hfij]; rfl); unfold mgN mgT mgV; rw [ho]; exact hP) hS dX3_merge_28)
    · rw [hfij]
      refine W.eq (g2 := F0 m 11 ls ([.ref (fh j)])) rfl ?_
      have hPfj : va_P E.1 vwCl (fW E (fh j) (ft j) (fv j) (kd j) (nz j) (T j) (V j)) _ := P_fP (app_r hP) hjj
      refine lv_astore (lv' := [(4, .ref (fh j)), (3, .ref (fh i)), (0, .ref x0), (1, .int (nI i)), (2, .int (nI j))]) hx hb dX3_merge_11 hl (by decide) rfl (fun ls hl => ?_)
      refine lv_aload_n hx hb dX3_merge_13 rfl (lv_at hl 1 rfl) ?_
      refine lv_ifnull hx hb dX3_merge_14 ?_
      refine lv_aload hx hb dX3_merge_17 (lv_at hl 0 rfl) ?_
      refine lv_ifnull hx hb dX3_merge_19 ?_
      refine lv_iload_n hx hb dX3_merge_22 rfl (lv_at hl 3 rfl) ?_
      refine lv_iload_n hx hb dX3_merge_23 rfl (lv_at hl 4 rfl) ?_
      refine zn_icmp_ne (tgt := 29) hx hb dX3_merge_24 (by decide) (by omega) (by omega) (fun c_1 => ?_) (fun c_1 => ?_)
      · refine lv_aload_n hx hb dX3_merge_29 rfl (lv_at hl 1 rfl) ?_
        refine va_get (D := E.1) (ci := 1) (C := RX0) (T := TX0) (N := 4) hx hb hts hiX0 hown hK.1 hPfi 0 rfl rfl 0 (by decide) hf53 (fun _ h9 => h9) rfl dX3_merge_30 ?_
        refine lv_aload hx hb dX3_merge_33 (lv_at hl 0 rfl) ?_
        refine va_get (D := E.1) (ci := 1) (C := RX0) (T := TX0) (N := 4) hx hb hts hiX0 hown hK.1 hPfj 0 rfl rfl 0 (by decide) hf53 (fun _ h9 => h9) rfl dX3_merge_35 ?_
        refine zn_icmp_eq (tgt := 44) hx hb dX3_merge_38 (by decide) (by have := hk5 i hji; omega) (by have := hk5 j hjj; omega) (fun c_2 => ?_) (fun c_2 => ?_)
        · refine lv_aload_n hx hb dX3_merge_44 rfl (lv_at hl 1 rfl) ?_
          refine va_get (D := E.1) (ci := 1) (C := RX0) (T := TX0) (N := 4) hx hb hts hiX0 hown hK.1 hPfi 0 rfl rfl 3 (by decide) hf56 (fun _ h9 => h9) rfl dX3_merge_45 ?_
          refine lv_aload hx hb dX3_merge_48 (lv_at hl 0 rfl) ?_
          refine va_get (D := E.1) (ci := 1) (C := RX0) (T := TX0) (N := 4) hx hb hts hiX0 hown hK.1 hPfj 0 rfl rfl 3 (by decide) hf56 (fun _ h9 => h9) rfl dX3_merge_50 ?_
          refine zn_iadd hx hb dX3_merge_53 ?_
          refine lv_bipush (v := nI 64) hx hb dX3_merge_54 (by decide) ?_
          refine zn_icmp_le (tgt := 62) hx hb dX3_merge_56 (by decide) (by have := hz i hji; have := hz j hjj; omega) (by omega) (fun c_3 => ?_) (fun c_3 => ?_)
          · refine lv_aload_n hx hb dX3_merge_62 rfl (lv_at hl 1 rfl) ?_
            refine lv_aload hx hb dX3_merge_63 (lv_at hl 0 rfl) ?_
            refine zx_merge (i := i) (j := j) (n1 := nz i + nz j) (n2 := 0) (T1 := (insN (T i) (V i) (nz i) (T j) (V j) (nz j)).1) (V1 := (insN (T i) (V i) (nz i) (T j) (V j) (nz j)).2) (va_runV ⟨hx, hb, hml, hown, hts⟩ (kX0_takeAllOf l E _ (fh i) (ft i) (fv i) (nI (kd i)) (nz i) (T i) (V i) (hz i hji) (fh j) (ft j) (fv j) (nI (kd j)) (nz j) (T j) (V j) (hz j hjj) c_3) (cwV 1 hts gX3_merge_X0_takeAllOf rfl rfl rfl (by decide +kernel) ⟨Nat.le_trans (Nat.le_of_ble_eq_true rfl) hRf, Nat.le_trans (Nat.le_of_ble_eq_true rfl) hRl⟩) (z_preWV (As := [.ref (fh j)]) (hPfi.app hPfj) (D_two (D_r hD) hji hjj c_1) hK 0 rfl rfl) rfl rfl hl.1 rfl (lv_room (Nat.le_of_ble_eq_true rfl)) dX3_merge_65 ⟨Nat.zero_le _, Nat.zero_le _⟩) hP hD hS hA hji hjj c_1 (fun H locs hP hD hS => ?_)
            have hPfi : va_P E.1 vwCl (fW E (fh i) (ft i) (fv i) (kd i) (nz i + nz j) ((insN (T i) (V i) (nz i) (T j) (V j) (nz j)).1) ((insN (T i) (V i) (nz i) (T j) (V j) (nz j)).2)) H := by
              have h9 := P_fP (app_r hP) hji; rw [updN_ne _ _ c_1, updN_self, updN_self, updN_self] at h9; exact h9
            refine lv_aload_n hx hb dX3_merge_68 rfl (lv_at hl 1 rfl) ?_
            refine va_get (D := E.1) (ci := 1) (C := RX0) (T := TX0) (N := 4) hx hb hts hiX0 hown hK.1 hPfi 0 rfl rfl 3 (by decide) hf56 (fun _ h9 => h9) rfl dX3_merge_69 ?_
            exact z_reti (by unfold mgA; rw [hfii]; show _ = (fidx n (nI j)).elim (-1) _; rw [hfij]; show _ = (if i = j then (-1) else if kd i = kd j then (if nz i + nz j ≤ 64 then nI (nz i + nz j) else (-4)) else (-3)); rw [if_neg c_1, if_pos c_2, if_pos c_3]) (ret _ _ _ _ (by (have ho : mgOk n kd nz (nI i) (nI j) = some (i, j) := by unfold mgOk; rw [hfii]; show (fidx n (nI j)).elim none _ = _; rw [hfij]; show (if i ≠ j ∧ kd i = kd j ∧ nz i + nz j ≤ 64 then some (i, j) else none) = _; rw [if_pos ⟨c_1, c_2, c_3⟩]); unfold mgN mgT mgV; rw [ho]; exact hP) hS dX3_merge_72)
          · refine lv_bipush (v := (-4)) hx hb dX3_merge_59 (by decide) ?_
            exact z_reti (by unfold mgA; rw [hfii]; show _ = (fidx n (nI j)).elim (-1) _; rw [hfij]; show _ = (if i = j then (-1) else if kd i = kd j then (if nz i + nz j ≤ 64 then nI (nz i + nz j) else (-4)) else (-3)); rw [if_neg c_1, if_pos c_2, if_neg (by omega)]) (ret _ _ _ _ (by (have ho : mgOk n kd nz (nI i) (nI j) = none := by unfold mgOk; rw [hfii]; show (fidx n (nI j)).elim none _ = _; rw [hfij]; show (if i ≠ j ∧ kd i = kd j ∧ nz i + nz j ≤ 64 then some (i, j) else none) = _; rw [if_neg (fun q => by have := q.2.2; omega)]); unfold mgN mgT mgV; rw [ho]; exact hP) hS dX3_merge_61)
        · refine lv_bipush (v := (-3)) hx hb dX3_merge_41 (by decide) ?_
          exact z_reti (by unfold mgA; rw [hfii]; show _ = (fidx n (nI j)).elim (-1) _; rw [hfij]; show _ = (if i = j then (-1) else if kd i = kd j then (if nz i + nz j ≤ 64 then nI (nz i + nz j) else (-4)) else (-3)); rw [if_neg c_1, if_neg c_2]) (ret _ _ _ _ (by (have ho : mgOk n kd nz (nI i) (nI j) = none := by unfold mgOk; rw [hfii]; show (fidx n (nI j)).elim none _ = _; rw [hfij]; show (if i ≠ j ∧ kd i = kd j ∧ nz i + nz j ≤ 64 then some (i, j) else none) = _; rw [if_neg (fun q => c_2 q.2.1)]); unfold mgN mgT mgV; rw [ho]; exact hP) hS dX3_merge_43)
      · refine lv_iconst (v := (-1)) hx hb dX3_merge_27 (by decide) ?_
        exact z_reti (by unfold mgA; rw [hfii]; show _ = (fidx n (nI j)).elim (-1) _; rw [hfij]; show _ = (if i = j then (-1) else if kd i = kd j then (if nz i + nz j ≤ 64 then nI (nz i + nz j) else (-4)) else (-3)); rw [if_pos c_1]) (ret _ _ _ _ (by (have ho : mgOk n kd nz (nI i) (nI j) = none := by unfold mgOk; rw [hfii]; show (fidx n (nI j)).elim none _ = _; rw [hfij]; show (if i ≠ j ∧ kd i = kd j ∧ nz i + nz j ≤ 64 then some (i, j) else none) = _; rw [if_neg (fun q => q.1 c_1)]); unfold mgN mgT mgV; rw [ho]; exact hP) hS dX3_merge_28)
set_option maxHeartbeats 4000000 in
set_option maxRecDepth 100000 in
theorem kX3_start (l : Launch) (E : zE) (sz : Nat) (x0 fa tb st jn rs lm : Nat) (fh ft fv kd nz : Nat → Nat) (T : Nat → Nat → Int32) (V : Nat → Nat → Int64) (n b : Nat) (S J : Nat → Nat) (w1 w2 w3 w4 : Int32) (L : Nat → Int64) (hn : n ≤ 12) (hb0 : b < 8) (hS0 : ∀ j, S j < 8) (hJ0 : ∀ j, J j < 8) (s_ : Int32) : Met l yX3_start wsX3_start (rmL 1) (va_Pc [.ref x0, .int s_] (zS E (xB E x0 fa tb st jn rs lm fh n b S J w1 w2 w3 w4 L ++ fP E fh ft fv kd nz T V n) sz)) (va_Qi (fun (r9 : Int32) (_ : Unit) => r9 = stA b s_) (fun _ t9 => zW E (xB E x0 fa tb st jn rs lm fh n (stB b s_) S J w1 w2 w3 w4 L ++ fP E fh ft fv kd nz T V n) t9) (va_A (xB E x0 fa tb st jn rs lm fh n b S J w1 w2 w3 w4 L ++ fP E fh ft fv kd nz T V n) sz)) 0 0 (va_A (xB E x0 fa tb st jn rs lm fh n b S J w1 w2 w3 w4 L ++ fP E fh ft fv kd nz T V n) sz) := by
  refine z_ofWi (cc := cX3_start) (maxL := 2) (own := RX3) (by decide) rfl rfl (Nat.le_of_ble_eq_true rfl) ?_
  intro p e s m args below meth c R Q A B hP hD hA ret ls hl
  obtain ⟨hx, hb, hml, hown, hts, hK, hRf, hRl⟩ := B
  have hiX3 : ∀ w ∈ wsX30, w ∈ wsX3_start := by decide +kernel
  have hf24 := hts (.fieldLink RX3 24 "ExactFolds" "tables" "LExactFolds$Tables;") (by decide +kernel)
  have hS : va_S A s.heap s.heap [] := va_S.rf
  have hl : lv_has ls 2 [(0, .ref x0), (1, .int s_)] := hl
  refine lv_iload_n hx hb dX3_start_0 rfl (lv_at hl 1 rfl) ?_
  refine zc_i (W.runS ⟨hx, hb, hml, hown, hts⟩ (kX3_isState l E s_) (cwS 1 hts gX3_start_X3_isState rfl rfl rfl (by decide +kernel) ⟨Nat.le_trans (Nat.le_of_ble_eq_true rfl) hRf, Nat.le_trans (Nat.le_of_ble_eq_true rfl) hRl⟩) (z_preR (av := [.int s_]) (hP.sub (ws' := []) [] rfl) hK) rfl rfl hl.1 rfl (lv_room (Nat.le_of_ble_eq_true rfl)) dX3_start_1 ⟨Nat.zero_le _, Nat.zero_le _⟩) ?_
  refine zb_if_eq (tgt := 18) hx hb dX3_start_4 (by decide) (fun c_1 => ?_) (fun c_1 => ?_)
  · refine lv_bipush (v := (-2)) hx hb dX3_start_18 (by decide) ?_
    exact z_reti (by unfold stA; rw [if_neg (by rw [c_1]; exact Bool.false_ne_true)]) (ret _ _ _ _ (by rw [show stB b s_ = b from by unfold stB; rw [if_neg (by rw [c_1]; exact Bool.false_ne_true)]]; exact hP) hS dX3_start_20)
  · obtain ⟨j, hj, rfl⟩ := isSt_of c_1
    refine lv_aload_n hx hb dX3_start_7 rfl (lv_at hl 0 rfl) ?_
    refine va_get (D := E.1) (ci := 4) (C := RX3) (T := TX3) (N := 4) hx hb hts hiX3 hown hK.1 hP 0 rfl rfl 2 (by decide) hf24 (fun _ h9 => h9) rfl dX3_start_8 ?_
    refine lv_iload_n hx hb dX3_start_11 rfl (lv_at hl 1 rfl) ?_
    have hPc := (app_l hP).sub (ws' := [(tb, .inr (3, [.int (nI b), .ref st, .ref jn, .int w1, .int w2, .int w3, .int w4])), (st, .inl (E.2.1, 32, .inl (fun j => nI (S j)))), (jn, .inl (E.2.1, 64, .inl (fun j => nI (J j))))]) [2, 3, 4] rfl
    have hDc := (D_l hD).sub (ws' := [(tb, .inr (3, [.int (nI b), .ref st, .ref jn, .int w1, .int w2, .int w3, .int w4])), (st, .inl (E.2.1, 32, .inl (fun j => nI (S j)))), (jn, .inl (E.2.1, 64, .inl (fun j => nI (J j))))]) [2, 3, 4] (by decide) rfl
    refine zq_i (E := E) (wc := [(tb, .inr (3, [.int (nI b), .ref st, .ref jn, .int w1, .int w2, .int w3, .int w4])), (st, .inl (E.2.1, 32, .inl (fun j => nI (S j)))), (jn, .inl (E.2.1, 64, .inl (fun j => nI (J j))))]) (wc' := [(tb, .inr (3, [.int (nI j), .ref st, .ref jn, .int w1, .int w2, .int w3, .int w4])), (st, .inl (E.2.1, 32, .inl (fun j => nI (S j)))), (jn, .inl (E.2.1, 64, .inl (fun j => nI (J j))))]) (X := xB E x0 fa tb st jn rs lm fh n b S J w1 w2 w3 w4 L) (wr := [(x0, .inr (4, [.ref fa, .int (nI n), .ref tb, .ref rs])), (fa, .inl (E.2.2.2.2, 12, .inr (.inr (.inr (.inr (fRef fh n)))))), (rs, .inr (2, [.ref lm])), (lm, .inl (E.2.2.1, 67, .inr (.inl L)))]) (pl := fP E fh ft fv kd nz T V n) (va_runV ⟨hx, hb, hml, hown, hts⟩ (kX2_setStart l E _ tb st jn b S J w1 w2 w3 w4 hb0 hS0 hJ0 j) (cwV 1 hts gX3_start_X2_setStart rfl rfl rfl (by decide +kernel) ⟨Nat.le_trans (Nat.le_of_ble_eq_true rfl) hRf, Nat.le_trans (Nat.le_of_ble_eq_true rfl) hRl⟩) (z_preWV (As := [.int (nI j)]) hPc hDc hK 0 rfl rfl) rfl rfl hl.1 rfl (lv_room (Nat.le_of_ble_eq_true rfl)) dX3_start_12 ⟨Nat.zero_le _, Nat.zero_le _⟩) hP hD hS hA [2, 3, 4] [0, 1, 5, 6] rfl rfl (by decide) (by decide) (by decide) rfl (fun H locs hP2 hD2 hS => ?_)
    have hP : va_P E.1 vwCl (xB E x0 fa tb st jn rs lm fh n j S J w1 w2 w3 w4 L ++ fP E fh ft fv kd nz T V n) H := ((app_l hP2).sub (ws' := xB E x0 fa tb st jn rs lm fh n j S J w1 w2 w3 w4 L) [0, 1, 4, 5, 6, 2, 3] rfl).app (app_r hP2)
    have hD : va_D A (xB E x0 fa tb st jn rs lm fh n j S J w1 w2 w3 w4 L ++ fP E fh ft fv kd nz T V n) := z_Da hD (by rw [List.map_append, List.map_append]; rfl)
    refine lv_goto (tgt := 20) hx hb dX3_start_15 (by decide) ?_
    exact z_reti (by unfold stA; rw [if_pos c_1]) (ret _ _ _ _ (by rw [show stB b (nI j) = j from by unfold stB; rw [if_pos c_1]; exact nI_clamp (by omega)]; exact hP) hS dX3_start_20)
set_option maxHeartbeats 4000000 in
set_option maxRecDepth 100000 in
theorem kX3_step (l : Launch) (E : zE) (sz : Nat) (x0 fa tb st jn rs lm : Nat) (fh ft fv kd nz : Nat → Nat) (T : Nat → Nat → Int32) (V : Nat → Nat → Int64) (n b : Nat) (S J : Nat → Nat) (w1 w2 w3 w4 : Int32) (L : Nat → Int64) (hn : n ≤ 12) (hb0 : b < 8) (hS0 : ∀ j, S j < 8) (hJ0 : ∀ j, J j < 8) (s_ v_ to : Int32) : Met l yX3_step wsX3_step (rmL 3) (va_Pc [.ref x0, .int s_, .int v_, .int to] (zS E (xB E x0 fa tb st jn rs lm fh n b S J w1 w2 w3 w4 L ++ fP E fh ft fv kd nz T V n) sz)) (va_Qi (fun (r9 : Int32) (_ : Unit) => r9 = spA S s_ v_ to) (fun _ t9 => zW E (xB E x0 fa tb st jn rs lm fh n b (spS S s_ v_ to) J w1 w2 w3 w4 L ++ fP E fh ft fv kd nz T V n) t9) (va_A (xB E x0 fa tb st jn rs lm fh n b S J w1 w2 w3 w4 L ++ fP E fh ft fv kd nz T V n) sz)) 0 0 (va_A (xB E x0 fa tb st jn rs lm fh n b S J w1 w2 w3 w4 L ++ fP E fh ft fv kd nz T V n) sz) := by
  refine z_ofWi (cc := cX3_step) (maxL := 4) (own := RX3) (by decide) rfl rfl (Nat.le_of_ble_eq_true rfl) ?_
  intro p e s m args below meth c R Q A B hP hD hA ret ls hl
  obtain ⟨hx, hb, hml, hown, hts, hK, hRf, hRl⟩ := B
  have hiX3 : ∀ w ∈ wsX30, w ∈ wsX3_step := by decide +kernel
  have hf24 := hts (.fieldLink RX3 24 "ExactFolds" "tables" "LExactFolds$Tables;") (by decide +kernel)
  have hS : va_S A s.heap s.heap [] := va_S.rf
  have hl : lv_has ls 4 [(0, .ref x0), (1, .int s_), (2, .int v_), (3, .int to)] := hl
  refine lv_iload_n hx hb dX3_step_0 rfl (lv_at hl 1 rfl) ?_
  refine zc_i (W.runS ⟨hx, hb, hml, hown, hts⟩ (kX3_isState l E s_) (cwS 1 hts gX3_step_X3_isState rfl rfl rfl (by decide +kernel) ⟨Nat.le_trans (Nat.le_of_ble_eq_true rfl) hRf, Nat.le_trans (Nat.le_of_ble_eq_true rfl) hRl⟩) (z_preR (av := [.int s_]) (hP.sub (ws' := []) [] rfl) hK) rfl rfl hl.1 rfl (lv_room (Nat.le_of_ble_eq_true rfl)) dX3_step_1 ⟨Nat.zero_le _, Nat.zero_le _⟩) ?_
  refine zb_if_eq (tgt := 23) hx hb dX3_step_4 (by decide) (fun c_1 => ?_) (fun c_1 => ?_)
  · refine lv_bipush (v := (-2)) hx hb dX3_step_23 (by decide) ?_
    exact z_reti (by unfold spA; rw [if_neg (show ¬ spOk s_ v_ to from by unfold spOk; exact fun q => by have := q.1; rw [c_1] at this; cases this)]) (ret _ _ _ _ (by unfold spS; rw [if_neg (show ¬ spOk s_ v_ to from by unfold spOk; exact fun q => by have := q.1; rw [c_1] at this; cases this)]; exact hP) hS dX3_step_25)
  · obtain ⟨j1, hj1, rfl⟩ := isSt_of c_1
    refine lv_iload_n hx hb dX3_step_7 rfl (lv_at hl 2 rfl) ?_
    refine lv_if_lt (tgt := 23) hx hb dX3_step_8 (by decide) (fun c_2 => ?_) (fun c_2 => ?_)
    · refine lv_bipush (v := (-2)) hx hb dX3_step_23 (by decide) ?_
      exact z_reti (by unfold spA; rw [if_neg (show ¬ spOk (nI j1) v_ to from by unfold spOk; exact fun q => q.2.1 c_2)]) (ret _ _ _ _ (by unfold spS; rw [if_neg (show ¬ spOk (nI j1) v_ to from by unfold spOk; exact fun q => q.2.1 c_2)]; exact hP) hS dX3_step_25)
    · refine lv_iload_n hx hb dX3_step_11 rfl (lv_at hl 2 rfl) ?_
      refine lv_iconst (v := nI 4) hx hb dX3_step_12 (by decide) ?_
      refine lv_icmp_ge (tgt := 23) hx hb dX3_step_13 (by decide) (fun c_3 => ?_) (fun c_3 => ?_)
      · refine lv_bipush (v := (-2)) hx hb dX3_step_23 (by decide) ?_
        exact z_reti (by unfold spA; rw [if_neg (show ¬ spOk (nI j1) v_ to from by unfold spOk; exact fun q => q.2.2.1 c_3)]) (ret _ _ _ _ (by unfold spS; rw [if_neg (show ¬ spOk (nI j1) v_ to from by unfold spOk; exact fun q => q.2.2.1 c_3)]; exact hP) hS dX3_step_25)
      · obtain ⟨j2, hj2, rfl⟩ := fi_of (n := 4) (by decide) c_2 c_3
        refine lv_iload_n hx hb dX3_step_16 rfl (lv_at hl 3 rfl) ?_
        refine zc_i (W.runS ⟨hx, hb, hml, hown, hts⟩ (kX3_isState l E to) (cwS 1 hts gX3_step_X3_isState rfl rfl rfl (by decide +kernel) ⟨Nat.le_trans (Nat.le_of_ble_eq_true rfl) hRf, Nat.le_trans (Nat.le_of_ble_eq_true rfl) hRl⟩) (z_preR (av := [.int to]) (hP.sub (ws' := []) [] rfl) hK) rfl rfl hl.1 rfl (lv_room (Nat.le_of_ble_eq_true rfl)) dX3_step_17 ⟨Nat.zero_le _, Nat.zero_le _⟩) ?_
        refine zb_if_ne (tgt := 26) hx hb dX3_step_20 (by decide) (fun c_4 => ?_) (fun c_4 => ?_)
        · obtain ⟨j3, hj3, rfl⟩ := isSt_of c_4
          refine lv_aload_n hx hb dX3_step_26 rfl (lv_at hl 0 rfl) ?_
          refine va_get (D := E.1) (ci := 4) (C := RX3) (T := TX3) (N := 4) hx hb hts hiX3 hown hK.1 hP 0 rfl rfl 2 (by decide) hf24 (fun _ h9 => h9) rfl dX3_step_27 ?_
          refine lv_iload_n hx hb dX3_step_30 rfl (lv_at hl 1 rfl) ?_
          refine lv_iload_n hx hb dX3_step_31 rfl (lv_at hl 2 rfl) ?_
          refine lv_iload_n hx hb dX3_step_32 rfl (lv_at hl 3 rfl) ?_
          have hPc := (app_l hP).sub (ws' := [(tb, .inr (3, [.int (nI b), .ref st, .ref jn, .int w1, .int w2, .int w3, .int w4])), (st, .inl (E.2.1, 32, .inl (fun j => nI (S j)))), (jn, .inl (E.2.1, 64, .inl (fun j => nI (J j))))]) [2, 3, 4] rfl
          have hDc := (D_l hD).sub (ws' := [(tb, .inr (3, [.int (nI b), .ref st, .ref jn, .int w1, .int w2, .int w3, .int w4])), (st, .inl (E.2.1, 32, .inl (fun j => nI (S j)))), (jn, .inl (E.2.1, 64, .inl (fun j => nI (J j))))]) [2, 3, 4] (by decide) rfl
          refine zq_i (E := E) (wc := [(tb, .inr (3, [.int (nI b), .ref st, .ref jn, .int w1, .int w2, .int w3, .int w4])), (st, .inl (E.2.1, 32, .inl (fun j => nI (S j)))), (jn, .inl (E.2.1, 64, .inl (fun j => nI (J j))))]) (wc' := [(tb, .inr (3, [.int (nI b), .ref st, .ref jn, .int w1, .int w2, .int w3, .int w4])), (st, .inl (E.2.1, 32, .inl (fun j => nI ((updN S (j1 * 4 + j2) j3) j)))), (jn, .inl (E.2.1, 64, .inl (fun j => nI (J j))))]) (X := xB E x0 fa tb st jn rs lm fh n b S J w1 w2 w3 w4 L) (wr := [(x0, .inr (4, [.ref fa, .int (nI n), .ref tb, .ref rs])), (fa, .inl (E.2.2.2.2, 12, .inr (.inr (.inr (.inr (fRef fh n)))))), (rs, .inr (2, [.ref lm])), (lm, .inl (E.2.2.1, 67, .inr (.inl L)))]) (pl := fP E fh ft fv kd nz T V n) (va_runV ⟨hx, hb, hml, hown, hts⟩ (kX2_setStep l E _ tb st jn b S J w1 w2 w3 w4 hb0 hS0 hJ0 j1 j2 j3 hj1 hj2) (cwV 3 hts gX3_step_X2_setStep rfl rfl rfl (by decide +kernel) ⟨Nat.le_trans (Nat.le_of_ble_eq_true rfl) hRf, Nat.le_trans (Nat.le_of_ble_eq_true rfl) hRl⟩) (z_preWV (As := [.int (nI j1), .int (nI j2), .int (nI j3)]) hPc hDc hK 0 rfl rfl) rfl rfl hl.1 rfl (lv_room (Nat.le_of_ble_eq_true rfl)) dX3_step_33 ⟨Nat.zero_le _, Nat.zero_le _⟩) hP hD hS hA [2, 3, 4] [0, 1, 5, 6] rfl rfl (by decide) (by decide) (by decide) rfl (fun H locs hP2 hD2 hS => ?_)
          have hP : va_P E.1 vwCl (xB E x0 fa tb st jn rs lm fh n b (updN S (j1 * 4 + j2) j3) J w1 w2 w3 w4 L ++ fP E fh ft fv kd nz T V n) H := ((app_l hP2).sub (ws' := xB E x0 fa tb st jn rs lm fh n b (updN S (j1 * 4 + j2) j3) J w1 w2 w3 w4 L) [0, 1, 4, 5, 6, 2, 3] rfl).app (app_r hP2)
          have hD : va_D A (xB E x0 fa tb st jn rs lm fh n b (updN S (j1 * 4 + j2) j3) J w1 w2 w3 w4 L ++ fP E fh ft fv kd nz T V n) := z_Da hD (by rw [List.map_append, List.map_append]; rfl)
          exact z_reti (by unfold spA; rw [if_pos (show spOk (nI j1) (nI j2) (nI j3) from by unfold spOk; exact ⟨c_1, c_2, c_3, c_4⟩)]; rw [nI_clamp (by omega), nI_clamp (by omega)]) (ret _ _ _ _ (by unfold spS; rw [if_pos (show spOk (nI j1) (nI j2) (nI j3) from by unfold spOk; exact ⟨c_1, c_2, c_3, c_4⟩)]; rw [nI_clamp (by omega), nI_clamp (by omega), nI_clamp (by omega)]; exact hP) hS dX3_step_36)
        · refine lv_bipush (v := (-2)) hx hb dX3_step_23 (by decide) ?_
          exact z_reti (by unfold spA; rw [if_neg (show ¬ spOk (nI j1) (nI j2) to from by unfold spOk; exact fun q => by have := q.2.2.2; rw [c_4] at this; cases this)]) (ret _ _ _ _ (by unfold spS; rw [if_neg (show ¬ spOk (nI j1) (nI j2) to from by unfold spOk; exact fun q => by have := q.2.2.2; rw [c_4] at this; cases this)]; exact hP) hS dX3_step_25)
set_option maxHeartbeats 4000000 in
set_option maxRecDepth 100000 in
theorem kX3_join (l : Launch) (E : zE) (sz : Nat) (x0 fa tb st jn rs lm : Nat) (fh ft fv kd nz : Nat → Nat) (T : Nat → Nat → Int32) (V : Nat → Nat → Int64) (n b : Nat) (S J : Nat → Nat) (w1 w2 w3 w4 : Int32) (L : Nat → Int64) (hn : n ≤ 12) (hb0 : b < 8) (hS0 : ∀ j, S j < 8) (hJ0 : ∀ j, J j < 8) (s_ t_ to : Int32) : Met l yX3_join wsX3_join (rmL 3) (va_Pc [.ref x0, .int s_, .int t_, .int to] (zS E (xB E x0 fa tb st jn rs lm fh n b S J w1 w2 w3 w4 L ++ fP E fh ft fv kd nz T V n) sz)) (va_Qi (fun (r9 : Int32) (_ : Unit) => r9 = jnA J s_ t_ to) (fun _ t9 => zW E (xB E x0 fa tb st jn rs lm fh n b S (jnJ J s_ t_ to) w1 w2 w3 w4 L ++ fP E fh ft fv kd nz T V n) t9) (va_A (xB E x0 fa tb st jn rs lm fh n b S J w1 w2 w3 w4 L ++ fP E fh ft fv kd nz T V n) sz)) 0 0 (va_A (xB E x0 fa tb st jn rs lm fh n b S J w1 w2 w3 w4 L ++ fP E fh ft fv kd nz T V n) sz) := by
  refine z_ofWi (cc := cX3_join) (maxL := 4) (own := RX3) (by decide) rfl rfl (Nat.le_of_ble_eq_true rfl) ?_
  intro p e s m args below meth c R Q A B hP hD hA ret ls hl
  obtain ⟨hx, hb, hml, hown, hts, hK, hRf, hRl⟩ := B
  have hiX3 : ∀ w ∈ wsX30, w ∈ wsX3_join := by decide +kernel
  have hf24 := hts (.fieldLink RX3 24 "ExactFolds" "tables" "LExactFolds$Tables;") (by decide +kernel)
  have hS : va_S A s.heap s.heap [] := va_S.rf
  have hl : lv_has ls 4 [(0, .ref x0), (1, .int s_), (2, .int t_), (3, .int to)] := hl
  refine lv_iload_n hx hb dX3_join_0 rfl (lv_at hl 1 rfl) ?_
  refine zc_i (W.runS ⟨hx, hb, hml, hown, hts⟩ (kX3_isState l E s_) (cwS 1 hts gX3_join_X3_isState rfl rfl rfl (by decide +kernel) ⟨Nat.le_trans (Nat.le_of_ble_eq_true rfl) hRf, Nat.le_trans (Nat.le_of_ble_eq_true rfl) hRl⟩) (z_preR (av := [.int s_]) (hP.sub (ws' := []) [] rfl) hK) rfl rfl hl.1 rfl (lv_room (Nat.le_of_ble_eq_true rfl)) dX3_join_1 ⟨Nat.zero_le _, Nat.zero_le _⟩) ?_
  refine zb_if_eq (tgt := 21) hx hb dX3_join_4 (by decide) (fun c_1 => ?_) (fun c_1 => ?_)
  · refine lv_bipush (v := (-2)) hx hb dX3_join_21 (by decide) ?_
    exact z_reti (by unfold jnA; rw [if_neg (show ¬ jnOk s_ t_ to from by unfold jnOk; exact fun q => by have := q.1; rw [c_1] at this; cases this)]) (ret _ _ _ _ (by unfold jnJ; rw [if_neg (show ¬ jnOk s_ t_ to from by unfold jnOk; exact fun q => by have := q.1; rw [c_1] at this; cases this)]; exact hP) hS dX3_join_23)
  · obtain ⟨j1, hj1, rfl⟩ := isSt_of c_1
    refine lv_iload_n hx hb dX3_join_7 rfl (lv_at hl 2 rfl) ?_
    refine zc_i (W.runS ⟨hx, hb, hml, hown, hts⟩ (kX3_isState l E t_) (cwS 1 hts gX3_join_X3_isState rfl rfl rfl (by decide +kernel) ⟨Nat.le_trans (Nat.le_of_ble_eq_true rfl) hRf, Nat.le_trans (Nat.le_of_ble_eq_true rfl) hRl⟩) (z_preR (av := [.int t_]) (hP.sub (ws' := []) [] rfl) hK) rfl rfl hl.1 rfl (lv_room (Nat.le_of_ble_eq_true rfl)) dX3_join_8 ⟨Nat.zero_le _, Nat.zero_le _⟩) ?_
    refine zb_if_eq (tgt := 21) hx hb dX3_join_11 (by decide) (fun c_2 => ?_) (fun c_2 => ?_)
    · refine lv_bipush (v := (-2)) hx hb dX3_join_21 (by decide) ?_
      exact z_reti (by unfold jnA; rw [if_neg (show ¬ jnOk (nI j1) t_ to from by unfold jnOk; exact fun q => by have := q.2.1; rw [c_2] at this; cases this)]) (ret _ _ _ _ (by unfold jnJ; rw [if_neg (show ¬ jnOk (nI j1) t_ to from by unfold jnOk; exact fun q => by have := q.2.1; rw [c_2] at this; cases this)]; exact hP) hS dX3_join_23)
    · obtain ⟨j2, hj2, rfl⟩ := isSt_of c_2
      refine lv_iload_n hx hb dX3_join_14 rfl (lv_at hl 3 rfl) ?_
      refine zc_i (W.runS ⟨hx, hb, hml, hown, hts⟩ (kX3_isState l E to) (cwS 1 hts gX3_join_X3_isState rfl rfl rfl (by decide +kernel) ⟨Nat.le_trans (Nat.le_of_ble_eq_true rfl) hRf, Nat.le_trans (Nat.le_of_ble_eq_true rfl) hRl⟩) (z_preR (av := [.int to]) (hP.sub (ws' := []) [] rfl) hK) rfl rfl hl.1 rfl (lv_room (Nat.le_of_ble_eq_true rfl)) dX3_join_15 ⟨Nat.zero_le _, Nat.zero_le _⟩) ?_
      refine zb_if_ne (tgt := 24) hx hb dX3_join_18 (by decide) (fun c_3 => ?_) (fun c_3 => ?_)
      · obtain ⟨j3, hj3, rfl⟩ := isSt_of c_3
        refine lv_aload_n hx hb dX3_join_24 rfl (lv_at hl 0 rfl) ?_
        refine va_get (D := E.1) (ci := 4) (C := RX3) (T := TX3) (N := 4) hx hb hts hiX3 hown hK.1 hP 0 rfl rfl 2 (by decide) hf24 (fun _ h9 => h9) rfl dX3_join_25 ?_
        refine lv_iload_n hx hb dX3_join_28 rfl (lv_at hl 1 rfl) ?_
        refine lv_iload_n hx hb dX3_join_29 rfl (lv_at hl 2 rfl) ?_
        refine lv_iload_n hx hb dX3_join_30 rfl (lv_at hl 3 rfl) ?_
        have hPc := (app_l hP).sub (ws' := [(tb, .inr (3, [.int (nI b), .ref st, .ref jn, .int w1, .int w2, .int w3, .int w4])), (st, .inl (E.2.1, 32, .inl (fun j => nI (S j)))), (jn, .inl (E.2.1, 64, .inl (fun j => nI (J j))))]) [2, 3, 4] rfl
        have hDc := (D_l hD).sub (ws' := [(tb, .inr (3, [.int (nI b), .ref st, .ref jn, .int w1, .int w2, .int w3, .int w4])), (st, .inl (E.2.1, 32, .inl (fun j => nI (S j)))), (jn, .inl (E.2.1, 64, .inl (fun j => nI (J j))))]) [2, 3, 4] (by decide) rfl
        refine zq_i (E := E) (wc := [(tb, .inr (3, [.int (nI b), .ref st, .ref jn, .int w1, .int w2, .int w3, .int w4])), (st, .inl (E.2.1, 32, .inl (fun j => nI (S j)))), (jn, .inl (E.2.1, 64, .inl (fun j => nI (J j))))]) (wc' := [(tb, .inr (3, [.int (nI b), .ref st, .ref jn, .int w1, .int w2, .int w3, .int w4])), (st, .inl (E.2.1, 32, .inl (fun j => nI (S j)))), (jn, .inl (E.2.1, 64, .inl (fun j => nI ((updN J (j1 * 8 + j2) j3) j))))]) (X := xB E x0 fa tb st jn rs lm fh n b S J w1 w2 w3 w4 L) (wr := [(x0, .inr (4, [.ref fa, .int (nI n), .ref tb, .ref rs])), (fa, .inl (E.2.2.2.2, 12, .inr (.inr (.inr (.inr (fRef fh n)))))), (rs, .inr (2, [.ref lm])), (lm, .inl (E.2.2.1, 67, .inr (.inl L)))]) (pl := fP E fh ft fv kd nz T V n) (va_runV ⟨hx, hb, hml, hown, hts⟩ (kX2_setJoin l E _ tb st jn b S J w1 w2 w3 w4 hb0 hS0 hJ0 j1 j2 j3 hj1 hj2) (cwV 3 hts gX3_join_X2_setJoin rfl rfl rfl (by decide +kernel) ⟨Nat.le_trans (Nat.le_of_ble_eq_true rfl) hRf, Nat.le_trans (Nat.le_of_ble_eq_true rfl) hRl⟩) (z_preWV (As := [.int (nI j1), .int (nI j2), .int (nI j3)]) hPc hDc hK 0 rfl rfl) rfl rfl hl.1 rfl (lv_room (Nat.le_of_ble_eq_true rfl)) dX3_join_31 ⟨Nat.zero_le _, Nat.zero_le _⟩) hP hD hS hA [2, 3, 4] [0, 1, 5, 6] rfl rfl (by decide) (by decide) (by decide) rfl (fun H locs hP2 hD2 hS => ?_)
        have hP : va_P E.1 vwCl (xB E x0 fa tb st jn rs lm fh n b S (updN J (j1 * 8 + j2) j3) w1 w2 w3 w4 L ++ fP E fh ft fv kd nz T V n) H := ((app_l hP2).sub (ws' := xB E x0 fa tb st jn rs lm fh n b S (updN J (j1 * 8 + j2) j3) w1 w2 w3 w4 L) [0, 1, 4, 5, 6, 2, 3] rfl).app (app_r hP2)
        have hD : va_D A (xB E x0 fa tb st jn rs lm fh n b S (updN J (j1 * 8 + j2) j3) w1 w2 w3 w4 L ++ fP E fh ft fv kd nz T V n) := z_Da hD (by rw [List.map_append, List.map_append]; rfl)
        exact z_reti (by unfold jnA; rw [if_pos (show jnOk (nI j1) (nI j2) (nI j3) from by unfold jnOk; exact ⟨c_1, c_2, c_3⟩)]; rw [nI_clamp (by omega), nI_clamp (by omega)]) (ret _ _ _ _ (by unfold jnJ; rw [if_pos (show jnOk (nI j1) (nI j2) (nI j3) from by unfold jnOk; exact ⟨c_1, c_2, c_3⟩)]; rw [nI_clamp (by omega), nI_clamp (by omega), nI_clamp (by omega)]; exact hP) hS dX3_join_34)
      · refine lv_bipush (v := (-2)) hx hb dX3_join_21 (by decide) ?_
        exact z_reti (by unfold jnA; rw [if_neg (show ¬ jnOk (nI j1) (nI j2) to from by unfold jnOk; exact fun q => by have := q.2.2; rw [c_3] at this; cases this)]) (ret _ _ _ _ (by unfold jnJ; rw [if_neg (show ¬ jnOk (nI j1) (nI j2) to from by unfold jnOk; exact fun q => by have := q.2.2; rw [c_3] at this; cases this)]; exact hP) hS dX3_join_23)
set_option maxHeartbeats 4000000 in
set_option maxRecDepth 100000 in
theorem kX3_check (l : Launch) (E : zE) (sz : Nat) (x0 fa tb st jn rs lm : Nat) (fh ft fv kd nz : Nat → Nat) (T : Nat → Nat → Int32) (V : Nat → Nat → Int64) (n b : Nat) (S J : Nat → Nat) (w1 w2 w3 w4 : Int32) (L : Nat → Int64) (hn : n ≤ 12) (hb0 : b < 8) (hS0 : ∀ j, S j < 8) (hJ0 : ∀ j, J j < 8) (wh : Int32) : Met l yX3_check wsX3_check (rmL 5) (va_Pc [.ref x0, .int wh] (zS E (xB E x0 fa tb st jn rs lm fh n b S J w1 w2 w3 w4 L ++ fP E fh ft fv kd nz T V n) sz)) (va_Qi (fun (r9 : Int32) (_ : Unit) => r9 = ckA S J b wh) (fun _ t9 => zW E (xB E x0 fa tb st jn rs lm fh n b S J ((ckW S J b (w1, w2, w3, w4) wh).1) ((ckW S J b (w1, w2, w3, w4) wh).2.1) ((ckW S J b (w1, w2, w3, w4) wh).2.2.1) ((ckW S J b (w1, w2, w3, w4) wh).2.2.2) L ++ fP E fh ft fv kd nz T V n) t9) (va_A (xB E x0 fa tb st jn rs lm fh n b S J w1 w2 w3 w4 L ++ fP E fh ft fv kd nz T V n) sz)) 0 0 (va_A (xB E x0 fa tb st jn rs lm fh n b S J w1 w2 w3 w4 L ++ fP E fh ft fv kd nz T V n) sz) := by
  refine z_ofWi (cc := cX3_check) (maxL := 2) (own := RX3) (by decide) rfl rfl (Nat.le_of_ble_eq_true rfl) ?_
  intro p e s m args below meth c R Q A B hP hD hA ret ls hl
  obtain ⟨hx, hb, hml, hown, hts, hK, hRf, hRl⟩ := B
  have hiX2 : ∀ w ∈ wsX20, w ∈ wsX3_check := by decide +kernel
  have hiX3 : ∀ w ∈ wsX30, w ∈ wsX3_check := by decide +kernel
  have hf24 := hts (.fieldLink RX3 24 "ExactFolds" "tables" "LExactFolds$Tables;") (by decide +kernel)
  have hf145 := hts (.fieldLink RX3 145 "ExactFolds$Tables" "wrongRule" "I") (by decide +kernel)
  have hf148 := hts (.fieldLink RX3 148 "ExactFolds$Tables" "wrongS" "I") (by decide +kernel)
  have hf151 := hts (.fieldLink RX3 151 "ExactFolds$Tables" "wrongT" "I") (by decide +kernel)
  have hf154 := hts (.fieldLink RX3 154 "ExactFolds$Tables" "wrongV" "I") (by decide +kernel)
  have hS : va_S A s.heap s.heap [] := va_S.rf
  have hl : lv_has ls 2 [(0, .ref x0), (1, .int wh)] := hl
  refine lv_iload_n hx hb dX3_check_0 rfl (lv_at hl 1 rfl) ?_
  refine lv_if_lt (tgt := 9) hx hb dX3_check_1 (by decide) (fun c_1 => ?_) (fun c_1 => ?_)
  · refine lv_bipush (v := (-2)) hx hb dX3_check_9 (by decide) ?_
    exact z_reti (by unfold ckA; rw [if_pos (Or.inl c_1)]) (ret _ _ _ _ (by unfold ckW; rw [if_pos (Or.inl c_1)]; exact hP) hS dX3_check_11)
  · refine lv_iload_n hx hb dX3_check_4 rfl (lv_at hl 1 rfl) ?_
    refine lv_iconst (v := nI 3) hx hb dX3_check_5 (by decide) ?_
    refine lv_icmp_le (tgt := 12) hx hb dX3_check_6 (by decide) (fun c_2 => ?_) (fun c_2 => ?_)
    · obtain ⟨k, hk, rfl⟩ := fi_of (n := 4) (by decide) c_1 (by rw [Int32.le_iff_toInt_le] at c_2 ⊢; have h3 : (nI 3).toInt = 3 := rfl; have h4 : (nI 4).toInt = 4 := rfl; omega)
      refine lv_aload_n hx hb dX3_check_12 rfl (lv_at hl 0 rfl) ?_
      refine va_get (D := E.1) (ci := 4) (C := RX3) (T := TX3) (N := 4) hx hb hts hiX3 hown hK.1 hP 0 rfl rfl 2 (by decide) hf24 (fun _ h9 => h9) rfl dX3_check_13 ?_
      have hPc := (app_l hP).sub (ws' := [(tb, .inr (3, [.int (nI b), .ref st, .ref jn, .int w1, .int w2, .int w3, .int w4])), (st, .inl (E.2.1, 32, .inl (fun j => nI (S j)))), (jn, .inl (E.2.1, 64, .inl (fun j => nI (J j))))]) [2, 3, 4] rfl
      have hDc := (D_l hD).sub (ws' := [(tb, .inr (3, [.int (nI b), .ref st, .ref jn, .int w1, .int w2, .int w3, .int w4])), (st, .inl (E.2.1, 32, .inl (fun j => nI (S j)))), (jn, .inl (E.2.1, 64, .inl (fun j => nI (J j))))]) [2, 3, 4] (by decide) rfl
      refine zq_v (E := E) (wc := [(tb, .inr (3, [.int (nI b), .ref st, .ref jn, .int w1, .int w2, .int w3, .int w4])), (st, .inl (E.2.1, 32, .inl (fun j => nI (S j)))), (jn, .inl (E.2.1, 64, .inl (fun j => nI (J j))))]) (wc' := [(tb, .inr (3, [.int (nI b), .ref st, .ref jn, .int ((ltAll S J b).1), .int ((ltAll S J b).2.1), .int ((ltAll S J b).2.2.1), .int ((ltAll S J b).2.2.2)])), (st, .inl (E.2.1, 32, .inl (fun j => nI (S j)))), (jn, .inl (E.2.1, 64, .inl (fun j => nI (J j))))]) (X := xB E x0 fa tb st jn rs lm fh n b S J w1 w2 w3 w4 L) (wr := [(x0, .inr (4, [.ref fa, .int (nI n), .ref tb, .ref rs])), (fa, .inl (E.2.2.2.2, 12, .inr (.inr (.inr (.inr (fRef fh n)))))), (rs, .inr (2, [.ref lm])), (lm, .inl (E.2.2.1, 67, .inr (.inl L)))]) (pl := fP E fh ft fv kd nz T V n) (va_runV ⟨hx, hb, hml, hown, hts⟩ (kX2_lookThrough l E _ tb st jn b S J w1 w2 w3 w4 hb0 hS0 hJ0) (cwV 0 hts gX3_check_X2_lookThrough rfl rfl rfl (by decide +kernel) ⟨Nat.le_trans (Nat.le_of_ble_eq_true rfl) hRf, Nat.le_trans (Nat.le_of_ble_eq_true rfl) hRl⟩) (z_preWV (As := []) hPc hDc hK 0 rfl rfl) rfl rfl hl.1 rfl (lv_room (Nat.le_of_ble_eq_true rfl)) dX3_check_16 ⟨Nat.zero_le _, Nat.zero_le _⟩) hP hD hS hA [2, 3, 4] [0, 1, 5, 6] rfl rfl (by decide) (by decide) (by decide) rfl (fun H locs hP2 hD2 hS => ?_)
      have hP : va_P E.1 vwCl (xB E x0 fa tb st jn rs lm fh n b S J ((ltAll S J b).1) ((ltAll S J b).2.1) ((ltAll S J b).2.2.1) ((ltAll S J b).2.2.2) L ++ fP E fh ft fv kd nz T V n) H := ((app_l hP2).sub (ws' := xB E x0 fa tb st jn rs lm fh n b S J ((ltAll S J b).1) ((ltAll S J b).2.1) ((ltAll S J b).2.2.1) ((ltAll S J b).2.2.2) L) [0, 1, 4, 5, 6, 2, 3] rfl).app (app_r hP2)
      have hD : va_D A (xB E x0 fa tb st jn rs lm fh n b S J ((ltAll S J b).1) ((ltAll S J b).2.1) ((ltAll S J b).2.2.1) ((ltAll S J b).2.2.2) L ++ fP E fh ft fv kd nz T V n) := z_Da hD (by rw [List.map_append, List.map_append]; rfl)
      refine lv_iload_n hx hb dX3_check_19 rfl (lv_at hl 1 rfl) ?_
      rcases (show k = 0 ∨ k = 1 ∨ k = 2 ∨ k = 3 by omega) with rfl | rfl | rfl | rfl
      · refine lv_tableIn (tgt := 48) (off := 28) hx hb dX3_check_20 (by decide) (by decide) (by decide) (by decide) ?_
        refine lv_aload_n hx hb dX3_check_48 rfl (lv_at hl 0 rfl) ?_
        refine va_get (D := E.1) (ci := 4) (C := RX3) (T := TX3) (N := 4) hx hb hts hiX3 hown hK.1 hP 0 rfl rfl 2 (by decide) hf24 (fun _ h9 => h9) rfl dX3_check_49 ?_
        refine va_get (D := E.1) (ci := 3) (C := RX2) (T := TX2) (N := 7) hx hb hts hiX2 hown hK.1 hP 2 rfl rfl 3 (by decide) hf145 (fun _ h9 => h9) rfl dX3_check_52 ?_
        exact z_reti (by unfold ckA; rw [if_neg (by decide)]; rfl) (ret _ _ _ _ (by unfold ckW; rw [if_neg (by decide)]; exact hP) hS dX3_check_55)
      · refine lv_tableIn (tgt := 56) (off := 36) hx hb dX3_check_20 (by decide) (by decide) (by decide) (by decide) ?_
        refine lv_aload_n hx hb dX3_check_56 rfl (lv_at hl 0 rfl) ?_
        refine va_get (D := E.1) (ci := 4) (C := RX3) (T := TX3) (N := 4) hx hb hts hiX3 hown hK.1 hP 0 rfl rfl 2 (by decide) hf24 (fun _ h9 => h9) rfl dX3_check_57 ?_
        refine va_get (D := E.1) (ci := 3) (C := RX2) (T := TX2) (N := 7) hx hb hts hiX2 hown hK.1 hP 2 rfl rfl 4 (by decide) hf148 (fun _ h9 => h9) rfl dX3_check_60 ?_
        exact z_reti (by unfold ckA; rw [if_neg (by decide)]; rfl) (ret _ _ _ _ (by unfold ckW; rw [if_neg (by decide)]; exact hP) hS dX3_check_63)
      · refine lv_tableIn (tgt := 64) (off := 44) hx hb dX3_check_20 (by decide) (by decide) (by decide) (by decide) ?_
        refine lv_aload_n hx hb dX3_check_64 rfl (lv_at hl 0 rfl) ?_
        refine va_get (D := E.1) (ci := 4) (C := RX3) (T := TX3) (N := 4) hx hb hts hiX3 hown hK.1 hP 0 rfl rfl 2 (by decide) hf24 (fun _ h9 => h9) rfl dX3_check_65 ?_
        refine va_get (D := E.1) (ci := 3) (C := RX2) (T := TX2) (N := 7) hx hb hts hiX2 hown hK.1 hP 2 rfl rfl 5 (by decide) hf151 (fun _ h9 => h9) rfl dX3_check_68 ?_
        exact z_reti (by unfold ckA; rw [if_neg (by decide)]; rfl) (ret _ _ _ _ (by unfold ckW; rw [if_neg (by decide)]; exact hP) hS dX3_check_71)
      · refine lv_tableOut (tgt := 72) hx hb dX3_check_20 (by decide) (by decide) ?_
        refine lv_aload_n hx hb dX3_check_72 rfl (lv_at hl 0 rfl) ?_
        refine va_get (D := E.1) (ci := 4) (C := RX3) (T := TX3) (N := 4) hx hb hts hiX3 hown hK.1 hP 0 rfl rfl 2 (by decide) hf24 (fun _ h9 => h9) rfl dX3_check_73 ?_
        refine va_get (D := E.1) (ci := 3) (C := RX2) (T := TX2) (N := 7) hx hb hts hiX2 hown hK.1 hP 2 rfl rfl 6 (by decide) hf154 (fun _ h9 => h9) rfl dX3_check_76 ?_
        exact z_reti (by unfold ckA; rw [if_neg (by decide)]; rfl) (ret _ _ _ _ (by unfold ckW; rw [if_neg (by decide)]; exact hP) hS dX3_check_79)
    · have c_2 : nI 3 < wh := by rw [Int32.lt_iff_toInt_lt]; rw [Int32.le_iff_toInt_le] at c_2; omega
      refine lv_bipush (v := (-2)) hx hb dX3_check_9 (by decide) ?_
      exact z_reti (by unfold ckA; rw [if_pos (Or.inr c_2)]) (ret _ _ _ _ (by unfold ckW; rw [if_pos (Or.inr c_2)]; exact hP) hS dX3_check_11)
set_option maxHeartbeats 4000000 in
set_option maxRecDepth 100000 in
theorem kX3_real (l : Launch) (E : zE) (sz : Nat) (x0 fa tb st jn rs lm : Nat) (fh ft fv kd nz : Nat → Nat) (T : Nat → Nat → Int32) (V : Nat → Nat → Int64) (n b : Nat) (S J : Nat → Nat) (w1 w2 w3 w4 : Int32) (L : Nat → Int64) (hn : n ≤ 12) (hz : ∀ j, j < n → nz j ≤ 64) (hk5 : ∀ j, j < n → kd j < 5) (f : Int32) : Met l yX3_real wsX3_real (rmL 5) (va_Pc [.ref x0, .int f] (zS E (xB E x0 fa tb st jn rs lm fh n b S J w1 w2 w3 w4 L ++ fP E fh ft fv kd nz T V n) sz)) (va_Ql (fun (r9 : Int64) (_ : Unit) => r9 = rlA n kd nz V L f) (fun _ t9 => zW E (xB E x0 fa tb st jn rs lm fh n b S J w1 w2 w3 w4 (rlL n kd nz V L f) ++ fP E fh ft fv kd nz T V n) t9) (va_A (xB E x0 fa tb st jn rs lm fh n b S J w1 w2 w3 w4 L ++ fP E fh ft fv kd nz T V n) sz)) 0 0 (va_A (xB E x0 fa tb st jn rs lm fh n b S J w1 w2 w3 w4 L ++ fP E fh ft fv kd nz T V n) sz) := by
  refine z_ofWl (cc := cX3_real) (maxL := 3) (own := RX3) (by decide) rfl rfl (Nat.le_of_ble_eq_true rfl) ?_
  intro p e s m args below meth c R Q A B hP hD hA ret ls hl
  obtain ⟨hx, hb, hml, hown, hts, hK, hRf, hRl⟩ := B
  have hiX3 : ∀ w ∈ wsX30, w ∈ wsX3_real := by decide +kernel
  have hf31 := hts (.fieldLink RX3 31 "ExactFolds" "realSum" "LExactFolds$RealSum;") (by decide +kernel)
  have hS : va_S A s.heap s.heap [] := va_S.rf
  have hl : lv_has ls 3 [(0, .ref x0), (1, .int f)] := hl
  refine lv_aload_n hx hb dX3_real_0 rfl (lv_at hl 0 rfl) ?_
  refine lv_iload_n hx hb dX3_real_1 rfl (lv_at hl 1 rfl) ?_
  refine lv_iconst (v := nI 1) hx hb dX3_real_2 (by decide) ?_
  refine zc_q (W.runV ⟨hx, hb, hml, hown, hts⟩ (kX3_foldOfKind l E x0 fa tb st jn rs lm fh ft fv kd nz T V n b S J w1 w2 w3 w4 L hn hk5 f 1 (by decide)) (cwV 2 hts gX3_real_X3_foldOfKind rfl rfl rfl (by decide +kernel) ⟨Nat.le_trans (Nat.le_of_ble_eq_true rfl) hRf, Nat.le_trans (Nat.le_of_ble_eq_true rfl) hRl⟩) (z_preV (As := [.int f, .int (nI 1)]) hP hK 0 rfl rfl) rfl rfl hl.1 rfl (lv_room (Nat.le_of_ble_eq_true rfl)) dX3_real_3 ⟨Nat.zero_le _, Nat.zero_le _⟩) ?_
  rcases fok_cases n kd f 1 (by omega) with hfij | ⟨j, hjj, rfl, hkdj, hfij⟩
  · rw [hfij]
    refine W.eq (g2 := F0 m 6 ls ([.null])) rfl ?_
    refine lv_astore_nN (lv' := [(2, .null), (0, .ref x0), (1, .int f)]) hx hb dX3_real_6 rfl hl (by decide) rfl (fun ls hl => ?_)
    refine lv_aload_nN hx hb dX3_real_7 rfl (lv_at hl 0 rfl) ?_
    refine lv_ifnonnullN hx hb dX3_real_8 ?_
    refine lv_lconst (v := 0) hx hb dX3_real_11 rfl ?_
    refine lv_goto (tgt := 23) hx hb dX3_real_12 (by decide) ?_
    exact z_retl (by unfold rlA; rw [hfij, Option.elim_none]) (ret _ _ _ _ (by unfold rlL; rw [hfij, Option.elim_none]; exact hP) hS dX3_real_23)
  · rw [hfij]
    refine W.eq (g2 := F0 m 6 ls ([.ref (fh j)])) rfl ?_
    have hPfj : va_P E.1 vwCl (fW E (fh j) (ft j) (fv j) (kd j) (nz j) (T j) (V j)) _ := P_fP (app_r hP) hjj
    refine lv_astore_n (lv' := [(2, .ref (fh j)), (0, .ref x0), (1, .int (nI j))]) hx hb dX3_real_6 rfl hl (by decide) rfl (fun ls hl => ?_)
    refine lv_aload_n hx hb dX3_real_7 rfl (lv_at hl 0 rfl) ?_
    refine lv_ifnonnull (tgt := 15) hx hb dX3_real_8 (by decide) ?_
    refine lv_aload_n hx hb dX3_real_15 rfl (lv_at hl 1 rfl) ?_
    refine va_get (D := E.1) (ci := 4) (C := RX3) (T := TX3) (N := 4) hx hb hts hiX3 hown hK.1 hP 0 rfl rfl 3 (by decide) hf31 (fun _ h9 => h9) rfl dX3_real_16 ?_
    refine lv_aload_n hx hb dX3_real_19 rfl (lv_at hl 0 rfl) ?_
    refine zx_real (j := j) (L1 := endL (sumL L (V j) (nz j))) (v := realF L (V j) (nz j)) (va_runV ⟨hx, hb, hml, hown, hts⟩ (kX1_roundedSumOf l E _ rs lm L (fh j) (ft j) (fv j) (nI (kd j)) (nz j) (T j) (V j) (hz j hjj)) (cwV 1 hts gX3_real_X1_roundedSumOf rfl rfl rfl (by decide +kernel) ⟨Nat.le_trans (Nat.le_of_ble_eq_true rfl) hRf, Nat.le_trans (Nat.le_of_ble_eq_true rfl) hRl⟩) (z_preWV (As := [.ref (fh j)]) (((app_l hP).sub (ws' := [(rs, .inr (2, [.ref lm])), (lm, .inl (E.2.2.1, 67, .inr (.inl L)))]) [5, 6] rfl).app hPfj) (D_rsf hD hjj) hK 0 rfl rfl) rfl rfl hl.1 rfl (lv_room (Nat.le_of_ble_eq_true rfl)) dX3_real_20 ⟨Nat.zero_le _, Nat.zero_le _⟩) hP hD hS hA hjj (fun H locs hP hD hS => ?_)
    exact z_retl (by unfold rlA; rw [hfij, Option.elim_some]) (ret _ _ _ _ (by unfold rlL; rw [hfij, Option.elim_some]; exact hP) hS dX3_real_23)
