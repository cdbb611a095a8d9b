/-! ExactFolds: which fold a number names; what the calls answer -/
def fidx (n : Nat) (f : Int32) : Option Nat := if ¬ f < 0 ∧ ¬ nI n ≤ f then some f.toNatClampNeg else none
theorem fidx_n {n j : Nat} (hj : j < n) (hn : n < 2 ^ 31) : fidx n (nI j) = some j := by
  unfold fidx; rw [if_pos ⟨nI_pos (by omega), nI_ge hj hn⟩, nI_clamp (by omega)]
theorem fi_of {n : Nat} {f : Int32} (hn : n < 2 ^ 31) (c1 : ¬ f < 0) (c2 : ¬ nI n ≤ f) : ∃ j : Nat, j < n ∧ f = nI j := by
  rcases pk_ix f (n := n) hn with q | q | q
  · exact absurd q c1
  · exact absurd q c2
  · exact q
theorem fi_cases (n : Nat) (f : Int32) (hn : n < 2 ^ 31) : fidx n f = none ∨ ∃ j : Nat, j < n ∧ f = nI j ∧ fidx n f = some j := by
  by_cases h : ¬ f < 0 ∧ ¬ nI n ≤ f
  · obtain ⟨j, hj, rfl⟩ := fi_of hn h.1 h.2
    exact Or.inr ⟨j, hj, rfl, fidx_n hj hn⟩
  · exact Or.inl (by unfold fidx; rw [if_neg h])
/-- the fold of that number, if it is of the kind k -/
def fok (n : Nat) (kd : Nat → Nat) (f : Int32) (k : Nat) : Option Nat := (fidx n f).elim none (fun j => if kd j = k then some j else none)
theorem fok_cases (n : Nat) (kd : Nat → Nat) (f : Int32) (k : Nat) (hn : n < 2 ^ 31) : fok n kd f k = none ∨ ∃ j : Nat, j < n ∧ f = nI j ∧ kd j = k ∧ fok n kd f k = some j := by
  rcases fi_cases n f hn with h | ⟨j, hj, e, h⟩
  · exact Or.inl (by unfold fok; rw [h]; rfl)
  · by_cases c : kd j = k
    · exact Or.inr ⟨j, hj, e, c, by unfold fok; rw [h]; exact if_pos c⟩
    · exact Or.inl (by unfold fok; rw [h]; exact if_neg c)
theorem fRef_lt {fh : Nat → Nat} {n j : Nat} (h : j < n) : fRef fh n j = some (fh j) := if_pos h
def wz (v : Int64) : Int64 := if v = (-9223372036854775808) then 0 else v
def isVal (k : Nat) (v : Int64) : Bool := if k = 0 then true else if k = 1 then decide (¬ v &&& 9218868437227405312 = 9218868437227405312) else if k = 2 then decide (¬ v < (-1000000) ∧ ¬ 1000000 < v) else if k = 3 then decide (¬ v < (-100000000000000000) ∧ ¬ 100000000000000000 < v) else decide (¬ v < 0 ∧ v < 4)
def aRows (n : Nat) (nz : Nat → Nat) (f : Int32) : Int32 := (fidx n f).elim (-1) (fun j => nI (nz j))
def aRank (n : Nat) (kd nz : Nat → Nat) (V : Nat → Nat → Int64) (f : Int32) (v : Int64) : Int32 := (fidx n f).elim (-1) (fun j => if kd j = 3 then nI (cntB (V j) v (nz j)) else (-3))
def aUnl (n : Nat) (kd nz : Nat → Nat) (V : Nat → Nat → Int64) (f : Int32) : Int32 := (fidx n f).elim (-1) (fun j => if kd j = 3 then nI (cntU (V j) (nz j)) else (-3))
def aItem (n : Nat) (kd nz : Nat → Nat) (V : Nat → Nat → Int64) (f k : Int32) : Int64 := (fidx n f).elim (-9223372036854775808) (fun j => if kd j = 1 then (-9223372036854775808) else (fidx (nz j) k).elim (-9223372036854775808) (fun i => V j i))
def aState (n : Nat) (kd nz : Nat → Nat) (V : Nat → Nat → Int64) (b : Nat) (S : Nat → Nat) (f : Int32) : Int32 := (fidx n f).elim (-1) (fun j => if kd j = 4 then nI (stF S b (V j) (nz j)) else (-3))
def aJoined (n : Nat) (kd nz : Nat → Nat) (V : Nat → Nat → Int64) (b : Nat) (S J : Nat → Nat) (f w : Int32) : Int32 := (fidx n f).elim (-1) (fun j => if kd j = 4 then (if w < 0 ∨ nI 2 < w then (-2) else nI (joinF S J b (V j) (nz j) w)) else (-3))
def aLeast (n : Nat) (kd nz : Nat → Nat) (V : Nat → Nat → Int64) (f w : Int32) : Int64 := (fok n kd f 3).elim (-9223372036854775808) (fun j => if w < 0 ∨ nI 1 < w ∨ nz j = 0 then (-9223372036854775808) else if w = 0 then minV (V j) (nz j) else maxV (V j) (nz j))
def aSame (n : Nat) (kd nz : Nat → Nat) (T : Nat → Nat → Int32) (V : Nat → Nat → Int64) (f g : Int32) : Bool := (fidx n f).elim false (fun i => (fidx n g).elim false (fun j => decide (kd i = kd j) && sameR (T i) (T j) (V i) (V j) (nz i) (nz j)))
set_option maxHeartbeats 4000000 in
set_option maxRecDepth 100000 in
theorem kX3_foldNumbered (l : Launch) (E : zE) (x0 fa tb st jn rs lm : Nat) (fh ft fv kd nz : Nat → Nat) (T : Nat → Nat → Int32) (V : Nat → Nat → Int64) (n b : Nat) (S J : Nat → Nat) (w1 w2 w3 w4 : Int32) (L : Nat → Int64) (hn : n ≤ 12) (f : Int32) : Met l yX3_foldNumbered wsX3_foldNumbered (rmL 0) (va_Pc [.ref x0, .int f] (zW E (xB E x0 fa tb st jn rs lm fh n b S J w1 w2 w3 w4 L ++ fP E fh ft fv kd nz T V n))) (va_Sq (fun r9 => r9 = (fidx n f).map fh)) 0 0 (fun _ => False) := by
  refine z_ofRq (cc := cX3_foldNumbered) (maxL := 2) (own := RX3) (by decide) rfl rfl (Nat.le_of_ble_eq_true rfl) ?_
  intro p e s m args below meth c R Q B hP ret ls hl
  obtain ⟨hx, hb, hml, hown, hts, hK, hRf, hRl⟩ := B
  have hiX3 : ∀ w ∈ wsX30, w ∈ wsX3_foldNumbered := by decide +kernel
  have hf13 := hts (.fieldLink RX3 13 "ExactFolds" "folds" "[LExactFolds$Fold;") (by decide +kernel)
  have hf17 := hts (.fieldLink RX3 17 "ExactFolds" "foldCount" "I") (by decide +kernel)
  have hl : lv_has ls 2 [(0, .ref x0), (1, .int f)] := hl
  refine lv_iload_n hx hb dX3_foldNumbered_0 rfl (lv_at hl 1 rfl) ?_
  refine lv_if_lt (tgt := 21) hx hb dX3_foldNumbered_1 (by decide) (fun c_1 => ?_) (fun c_1 => ?_)
  · refine lv_null hx hb dX3_foldNumbered_21 ?_
    exact z_reta (by rw [show fidx n f = none from by unfold fidx; rw [if_neg (fun q => q.1 c_1)]]; rfl) (ret _ _ dX3_foldNumbered_22)
  · refine lv_iload_n hx hb dX3_foldNumbered_4 rfl (lv_at hl 1 rfl) ?_
    refine lv_aload_n hx hb dX3_foldNumbered_5 rfl (lv_at hl 0 rfl) ?_
    refine va_get (D := E.1) (ci := 4) (C := RX3) (T := TX3) (N := 4) hx hb hts hiX3 hown hK.1 hP 0 rfl rfl 1 (by decide) hf17 (fun _ h9 => h9) rfl dX3_foldNumbered_6 ?_
    refine lv_icmp_ge (tgt := 21) hx hb dX3_foldNumbered_9 (by decide) (fun c_2 => ?_) (fun c_2 => ?_)
    · refine lv_null hx hb dX3_foldNumbered_21 ?_
      exact z_reta (by rw [show fidx n f = none from by unfold fidx; rw [if_neg (fun q => q.2 c_2)]]; rfl) (ret _ _ dX3_foldNumbered_22)
    · obtain ⟨j, hj, rfl⟩ := fi_of (n := n) (by omega) c_1 c_2
      refine lv_aload_n hx hb dX3_foldNumbered_12 rfl (lv_at hl 0 rfl) ?_
      refine va_get (D := E.1) (ci := 4) (C := RX3) (T := TX3) (N := 4) hx hb hts hiX3 hown hK.1 hP 0 rfl rfl 0 (by decide) hf13 (fun _ h9 => h9) rfl dX3_foldNumbered_13 ?_
      refine lv_iload_n hx hb dX3_foldNumbered_16 rfl (lv_at hl 1 rfl) ?_
      refine zn_aldq hx hb hK.1 hP 1 3 rfl rfl (by omega) (by decide) dX3_foldNumbered_17 ?_
      refine lv_goto (tgt := 22) hx hb dX3_foldNumbered_18 (by decide) ?_
      exact z_reta (by rw [fidx_n hj (by omega), fRef_lt hj]; rfl) (ret _ _ dX3_foldNumbered_22)
set_option maxHeartbeats 4000000 in
set_option maxRecDepth 100000 in
theorem kX3_foldOfKind (l : Launch) (E : zE) (x0 fa tb st jn rs lm : Nat) (fh ft fv kd nz : Nat → Nat) (T : Nat → Nat → Int32) (V : Nat → Nat → Int64) (n b : Nat) (S J : Nat → Nat) (w1 w2 w3 w4 : Int32) (L : Nat → Int64) (hn : n ≤ 12) (hk5 : ∀ j, j < n → kd j < 5) (f : Int32) (k_ : Nat) (hk_ : k_ < 5) : Met l yX3_foldOfKind wsX3_foldOfKind (rmL 1) (va_Pc [.ref x0, .int f, .int (nI k_)] (zW E (xB E x0 fa tb st jn rs lm fh n b S J w1 w2 w3 w4 L ++ fP E fh ft fv kd nz T V n))) (va_Sq (fun r9 => r9 = (fok n kd f k_).map fh)) 0 0 (fun _ => False) := by
  refine z_ofRq (cc := cX3_foldOfKind) (maxL := 4) (own := RX3) (by decide) rfl rfl (Nat.le_of_ble_eq_true rfl) ?_
  intro p e s m args below meth c R Q B hP ret ls hl
  obtain ⟨hx, hb, hml, hown, hts, hK, hRf, hRl⟩ := B
  have hiX0 : ∀ w ∈ wsX00, w ∈ wsX3_foldOfKind := by decide +kernel
  have hf53 := hts (.fieldLink RX3 53 "ExactFolds$Fold" "kind" "I") (by decide +kernel)
  have hl : lv_has ls 4 [(0, .ref x0), (1, .int f), (2, .int (nI k_))] := hl
  refine lv_aload_n hx hb dX3_foldOfKind_0 rfl (lv_at hl 0 rfl) ?_
  refine lv_iload_n hx hb dX3_foldOfKind_1 rfl (lv_at hl 1 rfl) ?_
  refine zc_q (W.runV ⟨hx, hb, hml, hown, hts⟩ (kX3_foldNumbered l E x0 fa tb st jn rs lm fh ft fv kd nz T V n b S J w1 w2 w3 w4 L hn f) (cwV 1 hts gX3_foldOfKind_X3_foldNumbered rfl rfl rfl (by decide +kernel) ⟨Nat.le_trans (Nat.le_of_ble_eq_true rfl) hRf, Nat.le_trans (Nat.le_of_ble_eq_true rfl) hRl⟩) (z_preV (As := [.int f]) hP hK 0 rfl rfl) rfl rfl hl.1 rfl (lv_room (Nat.le_of_ble_eq_true rfl)) dX3_foldOfKind_2 ⟨Nat.zero_le _, Nat.zero_le _⟩) ?_
  rcases fi_cases n f (by omega) with hfij | ⟨j, hjj, rfl, hfij⟩
  · rw [hfij]
    refine W.eq (g2 := F0 m 5 ls ([.null])) rfl ?_
    refine lv_astore_nN (lv' := [(3, .null), (0, .ref x0), (1, .int f), (2, .int (nI k_))]) hx hb dX3_foldOfKind_5 rfl hl (by decide) rfl (fun ls hl => ?_)
    refine lv_aload_nN hx hb dX3_foldOfKind_6 rfl (lv_at hl 0 rfl) ?_
    refine lv_ifnullN (tgt := 22) hx hb dX3_foldOfKind_7 (by decide) ?_
    refine lv_null hx hb dX3_foldOfKind_22 ?_
    exact z_reta (by unfold fok; rw [hfij]; rfl) (ret _ _ dX3_foldOfKind_23)
  · rw [hfij]
    refine W.eq (g2 := F0 m 5 ls ([.ref (fh j)])) rfl ?_
    have hPfj : va_P E.1 vwCl (fW E (fh j) (ft j) (fv j) (kd j) (nz j) (T j) (V j)) _ := P_fP (app_r hP) hjj
    refine lv_astore_n (lv' := [(3, .ref (fh j)), (0, .ref x0), (1, .int (nI j)), (2, .int (nI k_))]) hx hb dX3_foldOfKind_5 rfl hl (by decide) rfl (fun ls hl => ?_)
    refine lv_aload_n hx hb dX3_foldOfKind_6 rfl (lv_at hl 0 rfl) ?_
    refine lv_ifnull hx hb dX3_foldOfKind_7 ?_
    refine lv_aload_n hx hb dX3_foldOfKind_10 rfl (lv_at hl 0 rfl) ?_
    refine va_get (D := E.1) (ci := 1) (C := RX0) (T := TX0) (N := 4) hx hb hts hiX0 hown hK.1 hPfj 0 rfl rfl 0 (by decide) hf53 (fun _ h9 => h9) rfl dX3_foldOfKind_11 ?_
    refine lv_iload_n hx hb dX3_foldOfKind_14 rfl (lv_at hl 3 rfl) ?_
    refine zn_icmp_ne (tgt := 22) hx hb dX3_foldOfKind_15 (by decide) (by have := hk5 j hjj; omega) (by omega) (fun c_1 => ?_) (fun c_1 => ?_)
    · refine lv_null hx hb dX3_foldOfKind_22 ?_
      exact z_reta (by unfold fok; rw [hfij]; show _ = va_rf ((if kd j = k_ then some j else none).map fh); rw [if_neg c_1]; rfl) (ret _ _ dX3_foldOfKind_23)
    · refine lv_aload_n hx hb dX3_foldOfKind_18 rfl (lv_at hl 0 rfl) ?_
      refine lv_goto (tgt := 23) hx hb dX3_foldOfKind_19 (by decide) ?_
      exact z_reta (by unfold fok; rw [hfij]; show _ = va_rf ((if kd j = k_ then some j else none).map fh); rw [if_pos c_1]; rfl) (ret _ _ dX3_foldOfKind_23)
set_option maxHeartbeats 4000000 in
set_option maxRecDepth 100000 in
theorem kX3_rows (l : Launch) (E : zE) (x0 fa tb st jn rs lm : Nat) (fh ft fv kd nz : Nat → Nat) (T : Nat → Nat → Int32) (V : Nat → Nat → Int64) (n b : Nat) (S J : Nat → Nat) (w1 w2 w3 w4 : Int32) (L : Nat → Int64) (hn : n ≤ 12) (f : Int32) : Met l yX3_rows wsX3_rows (rmL 1) (va_Pc [.ref x0, .int f] (zW E (xB E x0 fa tb st jn rs lm fh n b S J w1 w2 w3 w4 L ++ fP E fh ft fv kd nz T V n))) (vp_Si (fun r9 => r9 = aRows n nz f)) 0 0 (fun _ => False) := by
  refine z_ofRi (cc := cX3_rows) (maxL := 3) (own := RX3) (by decide) rfl rfl (Nat.le_of_ble_eq_true rfl) ?_
  intro p e s m args below meth c R Q B hP ret ls hl
  obtain ⟨hx, hb, hml, hown, hts, hK, hRf, hRl⟩ := B
  have hiX0 : ∀ w ∈ wsX00, w ∈ wsX3_rows := by decide +kernel
  have hf56 := hts (.fieldLink RX3 56 "ExactFolds$Fold" "size" "I") (by decide +kernel)
  have hl : lv_has ls 3 [(0, .ref x0), (1, .int f)] := hl
  refine lv_aload_n hx hb dX3_rows_0 rfl (lv_at hl 0 rfl) ?_
  refine lv_iload_n hx hb dX3_rows_1 rfl (lv_at hl 1 rfl) ?_
  refine zc_q (W.runV ⟨hx, hb, hml, hown, hts⟩ (kX3_foldNumbered l E x0 fa tb st jn rs lm fh ft fv kd nz T V n b S J w1 w2 w3 w4 L hn f) (cwV 1 hts gX3_rows_X3_foldNumbered rfl rfl rfl (by decide +kernel) ⟨Nat.le_trans (Nat.le_of_ble_eq_true rfl) hRf, Nat.le_trans (Nat.le_of_ble_eq_true rfl) hRl⟩) (z_preV (As := [.int f]) hP hK 0 rfl rfl) rfl rfl hl.1 rfl (lv_room (Nat.le_of_ble_eq_true rfl)) dX3_rows_2 ⟨Nat.zero_le _, Nat.zero_le _⟩) ?_
  rcases fi_cases n f (by omega) with hfij | ⟨j, hjj, rfl, hfij⟩
  · rw [hfij]
    refine W.eq (g2 := F0 m 5 ls ([.null])) rfl ?_
    refine lv_astore_nN (lv' := [(2, .null), (0, .ref x0), (1, .int f)]) hx hb dX3_rows_5 rfl hl (by decide) rfl (fun ls hl => ?_)
    refine lv_aload_nN hx hb dX3_rows_6 rfl (lv_at hl 0 rfl) ?_
    refine lv_ifnonnullN hx hb dX3_rows_7 ?_
    refine lv_iconst (v := (-1)) hx hb dX3_rows_10 (by decide) ?_
    refine lv_goto (tgt := 18) hx hb dX3_rows_11 (by decide) ?_
    exact z_reti (by unfold aRows; rw [hfij]; rfl) (ret _ _ dX3_rows_18)
  · rw [hfij]
    refine W.eq (g2 := F0 m 5 ls ([.ref (fh j)])) rfl ?_
    have hPfj : va_P E.1 vwCl (fW E (fh j) (ft j) (fv j) (kd j) (nz j) (T j) (V j)) _ := P_fP (app_r hP) hjj
    refine lv_astore_n (lv' := [(2, .ref (fh j)), (0, .ref x0), (1, .int (nI j))]) hx hb dX3_rows_5 rfl hl (by decide) rfl (fun ls hl => ?_)
    refine lv_aload_n hx hb dX3_rows_6 rfl (lv_at hl 0 rfl) ?_
    refine lv_ifnonnull (tgt := 14) hx hb dX3_rows_7 (by decide) ?_
    refine lv_aload_n hx hb dX3_rows_14 rfl (lv_at hl 0 rfl) ?_
    refine va_get (D := E.1) (ci := 1) (C := RX0) (T := TX0) (N := 4) hx hb hts hiX0 hown hK.1 hPfj 0 rfl rfl 3 (by decide) hf56 (fun _ h9 => h9) rfl dX3_rows_15 ?_
    exact z_reti (by unfold aRows; rw [hfij]; rfl) (ret _ _ dX3_rows_18)
set_option maxHeartbeats 4000000 in
set_option maxRecDepth 100000 in
theorem kX3_rank (l : Launch) (E : zE) (x0 fa tb st jn rs lm : Nat) (fh ft fv kd nz : Nat → Nat) (T : Nat → Nat → Int32) (V : Nat → Nat → Int64) (n b : Nat) (S J : Nat → Nat) (w1 w2 w3 w4 : Int32) (L : Nat → Int64) (hn : n ≤ 12) (hz : ∀ j, j < n → nz j ≤ 64) (hk5 : ∀ j, j < n → kd j < 5) (f : Int32) (v : Int64) : Met l yX3_rank wsX3_rank (rmL 1) (va_Pc [.ref x0, .int f, .long v] (zW E (xB E x0 fa tb st jn rs lm fh n b S J w1 w2 w3 w4 L ++ fP E fh ft fv kd nz T V n))) (vp_Si (fun r9 => r9 = aRank n kd nz V f v)) 0 0 (fun _ => False) := by
  refine z_ofRi (cc := cX3_rank) (maxL := 5) (own := RX3) (by decide) rfl rfl (Nat.le_of_ble_eq_true rfl) ?_
  intro p e s m args below meth c R Q B hP ret ls hl
  obtain ⟨hx, hb, hml, hown, hts, hK, hRf, hRl⟩ := B
  have hiX0 : ∀ w ∈ wsX00, w ∈ wsX3_rank := by decide +kernel
  have hf53 := hts (.fieldLink RX3 53 "ExactFolds$Fold" "kind" "I") (by decide +kernel)
  have hl : lv_has ls 5 [(0, .ref x0), (1, .int f), (2, .long v)] := hl
  refine lv_aload_n hx hb dX3_rank_0 rfl (lv_at hl 0 rfl) ?_
  refine lv_iload_n hx hb dX3_rank_1 rfl (lv_at hl 1 rfl) ?_
  refine zc_q (W.runV ⟨hx, hb, hml, hown, hts⟩ (kX3_foldNumbered l E x0 fa tb st jn rs lm fh ft fv kd nz T V n b S J w1 w2 w3 w4 L hn f) (cwV 1 hts gX3_rank_X3_foldNumbered rfl rfl rfl (by decide +kernel) ⟨Nat.le_trans (Nat.le_of_ble_eq_true rfl) hRf, Nat.le_trans (Nat.le_of_ble_eq_true rfl) hRl⟩) (z_preV (As := [.int f]) hP hK 0 rfl rfl) rfl rfl hl.1 rfl (lv_room (Nat.le_of_ble_eq_true rfl)) dX3_rank_2 ⟨Nat.zero_le _, Nat.zero_le _⟩) ?_
  rcases fi_cases n f (by omega) with hfij | ⟨j, hjj, rfl, hfij⟩
  · rw [hfij]
    refine W.eq (g2 := F0 m 5 ls ([.null])) rfl ?_
    refine lv_astoreN (lv' := [(4, .null), (0, .ref x0), (1, .int f), (2, .long v)]) hx hb dX3_rank_5 hl (by decide) rfl (fun ls hl => ?_)
    refine lv_aloadN hx hb dX3_rank_7 (lv_at hl 0 rfl) ?_
    refine lv_ifnonnullN hx hb dX3_rank_9 ?_
    refine lv_iconst (v := (-1)) hx hb dX3_rank_12 (by decide) ?_
    exact z_reti (by unfold aRank; rw [hfij]; rfl) (ret _ _ dX3_rank_13)
  · rw [hfij]
    refine W.eq (g2 := F0 m 5 ls ([.ref (fh j)])) rfl ?_
    have hPfj : va_P E.1 vwCl (fW E (fh j) (ft j) (fv j) (kd j) (nz j) (T j) (V j)) _ := P_fP (app_r hP) hjj
    refine lv_astore (lv' := [(4, .ref (fh j)), (0, .ref x0), (1, .int (nI j)), (2, .long v)]) hx hb dX3_rank_5 hl (by decide) rfl (fun ls hl => ?_)
    refine lv_aload hx hb dX3_rank_7 (lv_at hl 0 rfl) ?_
    refine lv_ifnonnull (tgt := 14) hx hb dX3_rank_9 (by decide) ?_
    refine lv_aload hx hb dX3_rank_14 (lv_at hl 0 rfl) ?_
    refine va_get (D := E.1) (ci := 1) (C := RX0) (T := TX0) (N := 4) hx hb hts hiX0 hown hK.1 hPfj 0 rfl rfl 0 (by decide) hf53 (fun _ h9 => h9) rfl dX3_rank_16 ?_
    refine lv_iconst (v := nI 3) hx hb dX3_rank_19 (by decide) ?_
    refine zn_icmp_ne (tgt := 32) hx hb dX3_rank_20 (by decide) (by have := hk5 j hjj; omega) (by omega) (fun c_1 => ?_) (fun c_1 => ?_)
    · refine lv_bipush (v := (-3)) hx hb dX3_rank_32 (by decide) ?_
      exact z_reti (by unfold aRank; rw [hfij]; show _ = if kd j = 3 then nI (cntB (V j) v (nz j)) else (-3); rw [if_neg c_1]) (ret _ _ dX3_rank_34)
    · refine lv_aload hx hb dX3_rank_23 (lv_at hl 0 rfl) ?_
      refine lv_lload_n hx hb dX3_rank_25 rfl (lv_at hl 3 rfl) ?_
      refine zc_i (W.runV ⟨hx, hb, hml, hown, hts⟩ (kX0_countBelow l E (fh j) (ft j) (fv j) (nI (kd j)) (nz j) (T j) (V j) (hz j hjj) v) (cwV 1 hts gX3_rank_X0_countBelow rfl rfl rfl (by decide +kernel) ⟨Nat.le_trans (Nat.le_of_ble_eq_true rfl) hRf, Nat.le_trans (Nat.le_of_ble_eq_true rfl) hRl⟩) (z_preV (As := [.long v]) hPfj hK 0 rfl rfl) rfl rfl hl.1 rfl (lv_room (Nat.le_of_ble_eq_true rfl)) dX3_rank_26 ⟨Nat.zero_le _, Nat.zero_le _⟩) ?_
      refine lv_goto (tgt := 34) hx hb dX3_rank_29 (by decide) ?_
      exact z_reti (by unfold aRank; rw [hfij]; show _ = if kd j = 3 then nI (cntB (V j) v (nz j)) else (-3); rw [if_pos c_1]) (ret _ _ dX3_rank_34)
set_option maxHeartbeats 4000000 in
set_option maxRecDepth 100000 in
theorem kX3_unlike (l : Launch) (E : zE) (x0 fa tb st jn rs lm : Nat) (fh ft fv kd nz : Nat → Nat) (T : Nat → Nat → Int32) (V : Nat → Nat → Int64) (n b : Nat) (S J : Nat → Nat) (w1 w2 w3 w4 : Int32) (L : Nat → Int64) (hn : n ≤ 12) (hz : ∀ j, j < n → nz j ≤ 64) (hk5 : ∀ j, j < n → kd j < 5) (f : Int32) : Met l yX3_unlike wsX3_unlike (rmL 2) (va_Pc [.ref x0, .int f] (zW E (xB E x0 fa tb st jn rs lm fh n b S J w1 w2 w3 w4 L ++ fP E fh ft fv kd nz T V n))) (vp_Si (fun r9 => r9 = aUnl n kd nz V f)) 0 0 (fun _ => False) := by
  refine z_ofRi (cc := cX3_unlike) (maxL := 3) (own := RX3) (by decide) rfl rfl (Nat.le_of_ble_eq_true rfl) ?_
  intro p e s m args below meth c R Q B hP ret ls hl
  obtain ⟨hx, hb, hml, hown, hts, hK, hRf, hRl⟩ := B
  have hiX0 : ∀ w ∈ wsX00, w ∈ wsX3_unlike := by decide +kernel
  have hf53 := hts (.fieldLink RX3 53 "ExactFolds$Fold" "kind" "I") (by decide +kernel)
  have hl : lv_has ls 3 [(0, .ref x0), (1, .int f)] := hl
  refine lv_aload_n hx hb dX3_unlike_0 rfl (lv_at hl 0 rfl) ?_
  refine lv_iload_n hx hb dX3_unlike_1 rfl (lv_at hl 1 rfl) ?_
  refine zc_q (W.runV ⟨hx, hb, hml, hown, hts⟩ (kX3_foldNumbered l E x0 fa tb st jn rs lm fh ft fv kd nz T V n b S J w1 w2 w3 w4 L hn f) (cwV 1 hts gX3_unlike_X3_foldNumbered rfl rfl rfl (by decide +kernel) ⟨Nat.le_trans (Nat.le_of_ble_eq_true rfl) hRf, Nat.le_trans (Nat.le_of_ble_eq_true rfl) hRl⟩) (z_preV (As := [.int f]) hP hK 0 rfl rfl) rfl rfl hl.1 rfl (lv_room (Nat.le_of_ble_eq_true rfl)) dX3_unlike_2 ⟨Nat.zero_le _, Nat.zero_le _⟩) ?_
  rcases fi_cases n f (by omega) with hfij | ⟨j, hjj, rfl, hfij⟩
  · rw [hfij]
    refine W.eq (g2 := F0 m 5 ls ([.null])) rfl ?_
    refine lv_astore_nN (lv' := [(2, .null), (0, .ref x0), (1, .int f)]) hx hb dX3_unlike_5 rfl hl (by decide) rfl (fun ls hl => ?_)
    refine lv_aload_nN hx hb dX3_unlike_6 rfl (lv_at hl 0 rfl) ?_
    refine lv_ifnonnullN hx hb dX3_unlike_7 ?_
    refine lv_iconst (v := (-1)) hx hb dX3_unlike_10 (by decide) ?_
    exact z_reti (by unfold aUnl; rw [hfij]; rfl) (ret _ _ dX3_unlike_11)
  · rw [hfij]
    refine W.eq (g2 := F0 m 5 ls ([.ref (fh j)])) rfl ?_
    have hPfj : va_P E.1 vwCl (fW E (fh j) (ft j) (fv j) (kd j) (nz j) (T j) (V j)) _ := P_fP (app_r hP) hjj
    refine lv_astore_n (lv' := [(2, .ref (fh j)), (0, .ref x0), (1, .int (nI j))]) hx hb dX3_unlike_5 rfl hl (by decide) rfl (fun ls hl => ?_)
    refine lv_aload_n hx hb dX3_unlike_6 rfl (lv_at hl 0 rfl) ?_
    refine lv_ifnonnull (tgt := 12) hx hb dX3_unlike_7 (by decide) ?_
    refine lv_aload_n hx hb dX3_unlike_12 rfl (lv_at hl 0 rfl) ?_
    refine va_get (D := E.1) (ci := 1) (C := RX0) (T := TX0) (N := 4) hx hb hts hiX0 hown hK.1 hPfj 0 rfl rfl 0 (by decide) hf53 (fun _ h9 => h9) rfl dX3_unlike_13 ?_
    refine lv_iconst (v := nI 3) hx hb dX3_unlike_16 (by decide) ?_
    refine zn_icmp_ne (tgt := 27) hx hb dX3_unlike_17 (by decide) (by have := hk5 j hjj; omega) (by omega) (fun c_1 => ?_) (fun c_1 => ?_)
    · refine lv_bipush (v := (-3)) hx hb dX3_unlike_27 (by decide) ?_
      exact z_reti (by unfold aUnl; rw [hfij]; show _ = if kd j = 3 then nI (cntU (V j) (nz j)) else (-3); rw [if_neg c_1]) (ret _ _ dX3_unlike_29)
    · refine lv_aload_n hx hb dX3_unlike_20 rfl (lv_at hl 0 rfl) ?_
      refine zc_i (W.runV ⟨hx, hb, hml, hown, hts⟩ (kX0_countUnlike l E (fh j) (ft j) (fv j) (nI (kd j)) (nz j) (T j) (V j) (hz j hjj)) (cwV 0 hts gX3_unlike_X0_countUnlike rfl rfl rfl (by decide +kernel) ⟨Nat.le_trans (Nat.le_of_ble_eq_true rfl) hRf, Nat.le_trans (Nat.le_of_ble_eq_true rfl) hRl⟩) (z_preV (As := []) hPfj hK 0 rfl rfl) rfl rfl hl.1 rfl (lv_room (Nat.le_of_ble_eq_true rfl)) dX3_unlike_21 ⟨Nat.zero_le _, Nat.zero_le _⟩) ?_
      refine lv_goto (tgt := 29) hx hb dX3_unlike_24 (by decide) ?_
      exact z_reti (by unfold aUnl; rw [hfij]; show _ = if kd j = 3 then nI (cntU (V j) (nz j)) else (-3); rw [if_pos c_1]) (ret _ _ dX3_unlike_29)
set_option maxHeartbeats 4000000 in
set_option maxRecDepth 100000 in
theorem kX3_item (l : Launch) (E : zE) (x0 fa tb st jn rs lm : Nat) (fh ft fv kd nz : Nat → Nat) (T : Nat → Nat → Int32) (V : Nat → Nat → Int64) (n b : Nat) (S J : Nat → Nat) (w1 w2 w3 w4 : Int32) (L : Nat → Int64) (hn : n ≤ 12) (hz : ∀ j, j < n → nz j ≤ 64) (hk5 : ∀ j, j < n → kd j < 5) (f k : Int32) : Met l yX3_item wsX3_item (rmL 1) (va_Pc [.ref x0, .int f, .int k] (zW E (xB E x0 fa tb st jn rs lm fh n b S J w1 w2 w3 w4 L ++ fP E fh ft fv kd nz T V n))) (vp_Sl (fun r9 => r9 = aItem n kd nz V f k)) 0 0 (fun _ => False) := by
  refine z_ofRl (cc := cX3_item) (maxL := 4) (own := RX3) (by decide) rfl rfl (Nat.le_of_ble_eq_true rfl) ?_
  intro p e s m args below meth c R Q B hP ret ls hl
  obtain ⟨hx, hb, hml, hown, hts, hK, hRf, hRl⟩ := B
  have hiX0 : ∀ w ∈ wsX00, w ∈ wsX3_item := by decide +kernel
  have hf53 := hts (.fieldLink RX3 53 "ExactFolds$Fold" "kind" "I") (by decide +kernel)
  have hf56 := hts (.fieldLink RX3 56 "ExactFolds$Fold" "size" "I") (by decide +kernel)
  have hf120 := hts (.fieldLink RX3 120 "ExactFolds$Fold" "values" "[J") (by decide +kernel)
  have hl : lv_has ls 4 [(0, .ref x0), (1, .int f), (2, .int k)] := hl
  refine lv_aload_n hx hb dX3_item_0 rfl (lv_at hl 0 rfl) ?_
  refine lv_iload_n hx hb dX3_item_1 rfl (lv_at hl 1 rfl) ?_
  refine zc_q (W.runV ⟨hx, hb, hml, hown, hts⟩ (kX3_foldNumbered l E x0 fa tb st jn rs lm fh ft fv kd nz T V n b S J w1 w2 w3 w4 L hn f) (cwV 1 hts gX3_item_X3_foldNumbered rfl rfl rfl (by decide +kernel) ⟨Nat.le_trans (Nat.le_of_ble_eq_true rfl) hRf, Nat.le_trans (Nat.le_of_ble_eq_true rfl) hRl⟩) (z_preV (As := [.int f]) hP hK 0 rfl rfl) rfl rfl hl.1 rfl (lv_room (Nat.le_of_ble_eq_true rfl)) dX3_item_2 ⟨Nat.zero_le _, Nat.zero_le _⟩) ?_
  rcases fi_cases n f (by omega) with hfij | ⟨j, hjj, rfl, hfij⟩
  · rw [hfij]
    refine W.eq (g2 := F0 m 5 ls ([.null])) rfl ?_
    refine lv_astore_nN (lv' := [(3, .null), (0, .ref x0), (1, .int f), (2, .int k)]) hx hb dX3_item_5 rfl hl (by decide) rfl (fun ls hl => ?_)
    refine lv_aload_nN hx hb dX3_item_6 rfl (lv_at hl 0 rfl) ?_
    refine lv_ifnullN (tgt := 30) hx hb dX3_item_7 (by decide) ?_
    refine lv_ldc2 (v := (-9223372036854775808)) hx hb hown (hts (.constantLong RX3 86 (-9223372036854775808)) (by decide +kernel)) dX3_item_30 ?_
    exact z_retl (by unfold aItem; rw [hfij]; rfl) (ret _ _ dX3_item_33)
  · rw [hfij]
    refine W.eq (g2 := F0 m 5 ls ([.ref (fh j)])) rfl ?_
    have hPfj : va_P E.1 vwCl (fW E (fh j) (ft j) (fv j) (kd j) (nz j) (T j) (V j)) _ := P_fP (app_r hP) hjj
    refine lv_astore_n (lv' := [(3, .ref (fh j)), (0, .ref x0), (1, .int (nI j)), (2, .int k)]) hx hb dX3_item_5 rfl hl (by decide) rfl (fun ls hl => ?_)
    refine lv_aload_n hx hb dX3_item_6 rfl (lv_at hl 0 rfl) ?_
    refine lv_ifnull hx hb dX3_item_7 ?_
    refine lv_aload_n hx hb dX3_item_10 rfl (lv_at hl 0 rfl) ?_
    refine va_get (D := E.1) (ci := 1) (C := RX0) (T := TX0) (N := 4) hx hb hts hiX0 hown hK.1 hPfj 0 rfl rfl 0 (by decide) hf53 (fun _ h9 => h9) rfl dX3_item_11 ?_
    refine lv_iconst (v := nI 1) hx hb dX3_item_14 (by decide) ?_
    refine zn_icmp_eq (tgt := 30) hx hb dX3_item_15 (by decide) (by have := hk5 j hjj; omega) (by omega) (fun c_1 => ?_) (fun c_1 => ?_)
    · refine lv_ldc2 (v := (-9223372036854775808)) hx hb hown (hts (.constantLong RX3 86 (-9223372036854775808)) (by decide +kernel)) dX3_item_30 ?_
      exact z_retl (by unfold aItem; rw [hfij]; show _ = if kd j = 1 then (-9223372036854775808) else (fidx (nz j) k).elim (-9223372036854775808) (fun i => V j i); rw [if_pos c_1]) (ret _ _ dX3_item_33)
    · refine lv_iload_n hx hb dX3_item_18 rfl (lv_at hl 3 rfl) ?_
      refine lv_if_lt (tgt := 30) hx hb dX3_item_19 (by decide) (fun c_2 => ?_) (fun c_2 => ?_)
      · refine lv_ldc2 (v := (-9223372036854775808)) hx hb hown (hts (.constantLong RX3 86 (-9223372036854775808)) (by decide +kernel)) dX3_item_30 ?_
        exact z_retl (by unfold aItem; rw [hfij]; show _ = if kd j = 1 then (-9223372036854775808) else (fidx (nz j) k).elim (-9223372036854775808) (fun i => V j i); rw [if_neg c_1, show fidx (nz j) k = none from by unfold fidx; rw [if_neg (fun q => q.1 c_2)]]; rfl) (ret _ _ dX3_item_33)
      · refine lv_iload_n hx hb dX3_item_22 rfl (lv_at hl 3 rfl) ?_
        refine lv_aload_n hx hb dX3_item_23 rfl (lv_at hl 0 rfl) ?_
        refine va_get (D := E.1) (ci := 1) (C := RX0) (T := TX0) (N := 4) hx hb hts hiX0 hown hK.1 hPfj 0 rfl rfl 3 (by decide) hf56 (fun _ h9 => h9) rfl dX3_item_24 ?_
        refine lv_icmp_lt (tgt := 34) hx hb dX3_item_27 (by decide) (fun c_3 => ?_) (fun c_3 => ?_)
        · obtain ⟨i, hi, rfl⟩ := fi_of (n := nz j) (by have := hz j hjj; omega) c_2 (by rw [Int32.le_iff_toInt_le]; rw [Int32.lt_iff_toInt_lt] at c_3; omega)
          refine lv_aload_n hx hb dX3_item_34 rfl (lv_at hl 0 rfl) ?_
          refine va_get (D := E.1) (ci := 1) (C := RX0) (T := TX0) (N := 4) hx hb hts hiX0 hown hK.1 hPfj 0 rfl rfl 2 (by decide) hf120 (fun _ h9 => h9) rfl dX3_item_35 ?_
          refine lv_iload_n hx hb dX3_item_38 rfl (lv_at hl 3 rfl) ?_
          refine zn_lald hx hb hK.1 hPfj 2 1 rfl rfl (by have := hz j hjj; omega) (by decide) dX3_item_39 ?_
          exact z_retl (by unfold aItem; rw [hfij]; show _ = if kd j = 1 then (-9223372036854775808) else (fidx (nz j) (nI i)).elim (-9223372036854775808) (fun i => V j i); rw [if_neg c_1, fidx_n hi (by have := hz j hjj; omega)]; rfl) (ret _ _ dX3_item_40)
        · refine lv_ldc2 (v := (-9223372036854775808)) hx hb hown (hts (.constantLong RX3 86 (-9223372036854775808)) (by decide +kernel)) dX3_item_30 ?_
          exact z_retl (by unfold aItem; rw [hfij]; show _ = if kd j = 1 then (-9223372036854775808) else (fidx (nz j) k).elim (-9223372036854775808) (fun i => V j i); rw [if_neg c_1, show fidx (nz j) k = none from by unfold fidx; rw [if_neg (fun q => c_3 (by rw [Int32.lt_iff_toInt_lt]; have := q.2; rw [Int32.le_iff_toInt_le] at this; omega))]]; rfl) (ret _ _ dX3_item_33)
set_option maxHeartbeats 4000000 in
set_option maxRecDepth 100000 in
theorem kX3_state (l : Launch) (E : zE) (x0 fa tb st jn rs lm : Nat) (fh ft fv kd nz : Nat → Nat) (T : Nat → Nat → Int32) (V : Nat → Nat → Int64) (n b : Nat) (S J : Nat → Nat) (w1 w2 w3 w4 : Int32) (L : Nat → Int64) (hn : n ≤ 12) (hz : ∀ j, j < n → nz j ≤ 64) (hk5 : ∀ j, j < n → kd j < 5) (hb0 : b < 8) (hS0 : ∀ j, S j < 8) (hJ0 : ∀ j, J j < 8) (hO : ∀ j, j < n → kd j = 4 → ∀ i, i < nz j → isOwn (V j i)) (f : Int32) : Met l yX3_state wsX3_state (rmL 3) (va_Pc [.ref x0, .int f] (zW E (xB E x0 fa tb st jn rs lm fh n b S J w1 w2 w3 w4 L ++ fP E fh ft fv kd nz T V n))) (vp_Si (fun r9 => r9 = aState n kd nz V b S f)) 0 0 (fun _ => False) := by
  refine z_ofRi (cc := cX3_state) (maxL := 3) (own := RX3) (by decide) rfl rfl (Nat.le_of_ble_eq_true rfl) ?_
  intro p e s m args below meth c R Q B hP ret ls hl
  obtain ⟨hx, hb, hml, hown, hts, hK, hRf, hRl⟩ := B
  have hiX0 : ∀ w ∈ wsX00, w ∈ wsX3_state := by decide +kernel
  have hiX3 : ∀ w ∈ wsX30, w ∈ wsX3_state := by decide +kernel
  have hf24 := hts (.fieldLink RX3 24 "ExactFolds" "tables" "LExactFolds$Tables;") (by decide +kernel)
  have hf53 := hts (.fieldLink RX3 53 "ExactFolds$Fold" "kind" "I") (by decide +kernel)
  have hl : lv_has ls 3 [(0, .ref x0), (1, .int f)] := hl
  refine lv_aload_n hx hb dX3_state_0 rfl (lv_at hl 0 rfl) ?_
  refine lv_iload_n hx hb dX3_state_1 rfl (lv_at hl 1 rfl) ?_
  refine zc_q (W.runV ⟨hx, hb, hml, hown, hts⟩ (kX3_foldNumbered l E x0 fa tb st jn rs lm fh ft fv kd nz T V n b S J w1 w2 w3 w4 L hn f) (cwV 1 hts gX3_state_X3_foldNumbered rfl rfl rfl (by decide +kernel) ⟨Nat.le_trans (Nat.le_of_ble_eq_true rfl) hRf, Nat.le_trans (Nat.le_of_ble_eq_true rfl) hRl⟩) (z_preV (As := [.int f]) hP hK 0 rfl rfl) rfl rfl hl.1 rfl (lv_room (Nat.le_of_ble_eq_true rfl)) dX3_state_2 ⟨Nat.zero_le _, Nat.zero_le _⟩) ?_
  rcases fi_cases n f (by omega) with hfij | ⟨j, hjj, rfl, hfij⟩
  · rw [hfij]
    refine W.eq (g2 := F0 m 5 ls ([.null])) rfl ?_
    refine lv_astore_nN (lv' := [(2, .null), (0, .ref x0), (1, .int f)]) hx hb dX3_state_5 rfl hl (by decide) rfl (fun ls hl => ?_)
    refine lv_aload_nN hx hb dX3_state_6 rfl (lv_at hl 0 rfl) ?_
    refine lv_ifnonnullN hx hb dX3_state_7 ?_
    refine lv_iconst (v := (-1)) hx hb dX3_state_10 (by decide) ?_
    exact z_reti (by unfold aState; rw [hfij]; rfl) (ret _ _ dX3_state_11)
  · rw [hfij]
    refine W.eq (g2 := F0 m 5 ls ([.ref (fh j)])) rfl ?_
    have hPfj : va_P E.1 vwCl (fW E (fh j) (ft j) (fv j) (kd j) (nz j) (T j) (V j)) _ := P_fP (app_r hP) hjj
    refine lv_astore_n (lv' := [(2, .ref (fh j)), (0, .ref x0), (1, .int (nI j))]) hx hb dX3_state_5 rfl hl (by decide) rfl (fun ls hl => ?_)
    refine lv_aload_n hx hb dX3_state_6 rfl (lv_at hl 0 rfl) ?_
    refine lv_ifnonnull (tgt := 12) hx hb dX3_state_7 (by decide) ?_
    refine lv_aload_n hx hb dX3_state_12 rfl (lv_at hl 0 rfl) ?_
    refine va_get (D := E.1) (ci := 1) (C := RX0) (T := TX0) (N := 4) hx hb hts hiX0 hown hK.1 hPfj 0 rfl rfl 0 (by decide) hf53 (fun _ h9 => h9) rfl dX3_state_13 ?_
    refine lv_iconst (v := nI 4) hx hb dX3_state_16 (by decide) ?_
    refine zn_icmp_ne (tgt := 31) hx hb dX3_state_17 (by decide) (by have := hk5 j hjj; omega) (by omega) (fun c_1 => ?_) (fun c_1 => ?_)
    · refine lv_bipush (v := (-3)) hx hb dX3_state_31 (by decide) ?_
      exact z_reti (by unfold aState; rw [hfij]; show _ = if kd j = 4 then nI (stF S b (V j) (nz j)) else (-3); rw [if_neg c_1]) (ret _ _ dX3_state_33)
    · have hkj : kd j = 4 := c_1
      refine lv_aload_n hx hb dX3_state_20 rfl (lv_at hl 1 rfl) ?_
      refine va_get (D := E.1) (ci := 4) (C := RX3) (T := TX3) (N := 4) hx hb hts hiX3 hown hK.1 hP 0 rfl rfl 2 (by decide) hf24 (fun _ h9 => h9) rfl dX3_state_21 ?_
      refine lv_aload_n hx hb dX3_state_24 rfl (lv_at hl 0 rfl) ?_
      refine zc_i (W.runV ⟨hx, hb, hml, hown, hts⟩ (kX2_stateOf l E tb st jn b S J w1 w2 w3 w4 hb0 hS0 hJ0 (fh j) (ft j) (fv j) (nI (kd j)) (nz j) (T j) (V j) (hz j hjj) (hO j hjj hkj)) (cwV 1 hts gX3_state_X2_stateOf rfl rfl rfl (by decide +kernel) ⟨Nat.le_trans (Nat.le_of_ble_eq_true rfl) hRf, Nat.le_trans (Nat.le_of_ble_eq_true rfl) hRl⟩) (z_preV (As := [.ref (fh j)]) ((hP.sub (ws' := [(tb, .inr (3, [.int (nI b), .ref st, .ref jn, .int w1, .int w2, .int w3, .int w4])), (st, .inl (E.2.1, 32, .inl (fun j => nI (S j)))), (jn, .inl (E.2.1, 64, .inl (fun j => nI (J j))))]) [2, 3, 4] rfl).app hPfj) hK 0 rfl rfl) rfl rfl hl.1 rfl (lv_room (Nat.le_of_ble_eq_true rfl)) dX3_state_25 ⟨Nat.zero_le _, Nat.zero_le _⟩) ?_
      refine lv_goto (tgt := 33) hx hb dX3_state_28 (by decide) ?_
      exact z_reti (by unfold aState; rw [hfij]; show _ = if kd j = 4 then nI (stF S b (V j) (nz j)) else (-3); rw [if_pos c_1]) (ret _ _ dX3_state_33)
set_option maxHeartbeats 4000000 in
set_option maxRecDepth 100000 in
theorem kX3_joined (l : Launch) (E : zE) (x0 fa tb st jn rs lm : Nat) (fh ft fv kd nz : Nat → Nat) (T : Nat → Nat → Int32) (V : Nat → Nat → Int64) (n b : Nat) (S J : Nat → Nat) (w1 w2 w3 w4 : Int32) (L : Nat → Int64) (hn : n ≤ 12) (hz : ∀ j, j < n → nz j ≤ 64) (hk5 : ∀ j, j < n → kd j < 5) (hb0 : b < 8) (hS0 : ∀ j, S j < 8) (hJ0 : ∀ j, J j < 8) (hO : ∀ j, j < n → kd j = 4 → ∀ i, i < nz j → isOwn (V j i)) (f w : Int32) : Met l yX3_joined wsX3_joined (rmL 13) (va_Pc [.ref x0, .int f, .int w] (zW E (xB E x0 fa tb st jn rs lm fh n b S J w1 w2 w3 w4 L ++ fP E fh ft fv kd nz T V n))) (vp_Si (fun r9 => r9 = aJoined n kd nz V b S J f w)) 0 0 (fun _ => False) := by
  refine z_ofRi (cc := cX3_joined) (maxL := 4) (own := RX3) (by decide) rfl rfl (Nat.le_of_ble_eq_true rfl) ?_
  intro p e s m args below meth c R Q B hP ret ls hl
  obtain ⟨hx, hb, hml, hown, hts, hK, hRf, hRl⟩ := B
  have hiX0 : ∀ w ∈ wsX00, w ∈ wsX3_joined := by decide +kernel
  have hiX3 : ∀ w ∈ wsX30, w ∈ wsX3_joined := by decide +kernel
  have hf24 := hts (.fieldLink RX3 24 "ExactFolds" "tables" "LExactFolds$Tables;") (by decide +kernel)
  have hf53 := hts (.fieldLink RX3 53 "ExactFolds$Fold" "kind" "I") (by decide +kernel)
  have hl : lv_has ls 4 [(0, .ref x0), (1, .int f), (2, .int w)] := hl
  refine lv_aload_n hx hb dX3_joined_0 rfl (lv_at hl 0 rfl) ?_
  refine lv_iload_n hx hb dX3_joined_1 rfl (lv_at hl 1 rfl) ?_
  refine zc_q (W.runV ⟨hx, hb, hml, hown, hts⟩ (kX3_foldNumbered l E x0 fa tb st jn rs lm fh ft fv kd nz T V n b S J w1 w2 w3 w4 L hn f) (cwV 1 hts gX3_joined_X3_foldNumbered rfl rfl rfl (by decide +kernel) ⟨Nat.le_trans (Nat.le_of_ble_eq_true rfl) hRf, Nat.le_trans (Nat.le_of_ble_eq_true rfl) hRl⟩) (z_preV (As := [.int f]) hP hK 0 rfl rfl) rfl rfl hl.1 rfl (lv_room (Nat.le_of_ble_eq_true rfl)) dX3_joined_2 ⟨Nat.zero_le _, Nat.zero_le _⟩) ?_
  rcases fi_cases n f (by omega) with hfij | ⟨j, hjj, rfl, hfij⟩
  · rw [hfij]
    refine W.eq (g2 := F0 m 5 ls ([.null])) rfl ?_
    refine lv_astore_nN (lv' := [(3, .null), (0, .ref x0), (1, .int f), (2, .int w)]) hx hb dX3_joined_5 rfl hl (by decide) rfl (fun ls hl => ?_)
    refine lv_aload_nN hx hb dX3_joined_6 rfl (lv_at hl 0 rfl) ?_
    refine lv_ifnonnullN hx hb dX3_joined_7 ?_
    refine lv_iconst (v := (-1)) hx hb dX3_joined_10 (by decide) ?_
    exact z_reti (by unfold aJoined; rw [hfij]; rfl) (ret _ _ dX3_joined_11)
  · rw [hfij]
    refine W.eq (g2 := F0 m 5 ls ([.ref (fh j)])) rfl ?_
    have hPfj : va_P E.1 vwCl (fW E (fh j) (ft j) (fv j) (kd j) (nz j) (T j) (V j)) _ := P_fP (app_r hP) hjj
    refine lv_astore_n (lv' := [(3, .ref (fh j)), (0, .ref x0), (1, .int (nI j)), (2, .int w)]) hx hb dX3_joined_5 rfl hl (by decide) rfl (fun ls hl => ?_)
    refine lv_aload_n hx hb dX3_joined_6 rfl (lv_at hl 0 rfl) ?_
    refine lv_ifnonnull (tgt := 12) hx hb dX3_joined_7 (by decide) ?_
    refine lv_aload_n hx hb dX3_joined_12 rfl (lv_at hl 0 rfl) ?_
    refine va_get (D := E.1) (ci := 1) (C := RX0) (T := TX0) (N := 4) hx hb hts hiX0 hown hK.1 hPfj 0 rfl rfl 0 (by decide) hf53 (fun _ h9 => h9) rfl dX3_joined_13 ?_
    refine lv_iconst (v := nI 4) hx hb dX3_joined_16 (by decide) ?_
    refine zn_icmp_eq (tgt := 23) hx hb dX3_joined_17 (by decide) (by have := hk5 j hjj; omega) (by omega) (fun c_1 => ?_) (fun c_1 => ?_)
    · have hkj : kd j = 4 := c_1
      refine lv_iload_n hx hb dX3_joined_23 rfl (lv_at hl 3 rfl) ?_
      refine lv_if_lt (tgt := 32) hx hb dX3_joined_24 (by decide) (fun c_2 => ?_) (fun c_2 => ?_)
      · refine lv_bipush (v := (-2)) hx hb dX3_joined_32 (by decide) ?_
        exact z_reti (by unfold aJoined; rw [hfij]; show _ = if kd j = 4 then (if w < 0 ∨ nI 2 < w then (-2) else nI (joinF S J b (V j) (nz j) w)) else (-3); rw [if_pos c_1, if_pos (Or.inl c_2)]) (ret _ _ dX3_joined_34)
      · refine lv_iload_n hx hb dX3_joined_27 rfl (lv_at hl 3 rfl) ?_
        refine lv_iconst (v := nI 2) hx hb dX3_joined_28 (by decide) ?_
        refine lv_icmp_le (tgt := 35) hx hb dX3_joined_29 (by decide) (fun c_3 => ?_) (fun c_3 => ?_)
        · refine lv_aload_n hx hb dX3_joined_35 rfl (lv_at hl 1 rfl) ?_
          refine va_get (D := E.1) (ci := 4) (C := RX3) (T := TX3) (N := 4) hx hb hts hiX3 hown hK.1 hP 0 rfl rfl 2 (by decide) hf24 (fun _ h9 => h9) rfl dX3_joined_36 ?_
          refine lv_aload_n hx hb dX3_joined_39 rfl (lv_at hl 0 rfl) ?_
          refine lv_iload_n hx hb dX3_joined_40 rfl (lv_at hl 3 rfl) ?_
          refine zc_i (W.runV ⟨hx, hb, hml, hown, hts⟩ (kX2_joinAll l E tb st jn b S J w1 w2 w3 w4 hb0 hS0 hJ0 (fh j) (ft j) (fv j) (nI (kd j)) (nz j) (T j) (V j) (hz j hjj) (hO j hjj hkj) w) (cwV 2 hts gX3_joined_X2_joinAll rfl rfl rfl (by decide +kernel) ⟨Nat.le_trans (Nat.le_of_ble_eq_true rfl) hRf, Nat.le_trans (Nat.le_of_ble_eq_true rfl) hRl⟩) (z_preV (As := [.ref (fh j), .int w]) ((hP.sub (ws' := [(tb, .inr (3, [.int (nI b), .ref st, .ref jn, .int w1, .int w2, .int w3, .int w4])), (st, .inl (E.2.1, 32, .inl (fun j => nI (S j)))), (jn, .inl (E.2.1, 64, .inl (fun j => nI (J j))))]) [2, 3, 4] rfl).app hPfj) hK 0 rfl rfl) rfl rfl hl.1 rfl (lv_room (Nat.le_of_ble_eq_true rfl)) dX3_joined_41 ⟨Nat.zero_le _, Nat.zero_le _⟩) ?_
          exact z_reti (by unfold aJoined; rw [hfij]; show _ = if kd j = 4 then (if w < 0 ∨ nI 2 < w then (-2) else nI (joinF S J b (V j) (nz j) w)) else (-3); rw [if_pos c_1, if_neg (fun q => q.elim c_2 (fun q => by rw [Int32.lt_iff_toInt_lt] at q; have := c_3; rw [Int32.le_iff_toInt_le] at this; omega))]) (ret _ _ dX3_joined_44)
        · refine lv_bipush (v := (-2)) hx hb dX3_joined_32 (by decide) ?_
          exact z_reti (by unfold aJoined; rw [hfij]; show _ = if kd j = 4 then (if w < 0 ∨ nI 2 < w then (-2) else nI (joinF S J b (V j) (nz j) w)) else (-3); rw [if_pos c_1, if_pos (Or.inr (by rw [Int32.lt_iff_toInt_lt]; have := c_3; rw [Int32.le_iff_toInt_le] at this; omega))]) (ret _ _ dX3_joined_34)
    · refine lv_bipush (v := (-3)) hx hb dX3_joined_20 (by decide) ?_
      exact z_reti (by unfold aJoined; rw [hfij]; show _ = if kd j = 4 then (if w < 0 ∨ nI 2 < w then (-2) else nI (joinF S J b (V j) (nz j) w)) else (-3); rw [if_neg c_1]) (ret _ _ dX3_joined_22)
set_option maxHeartbeats 4000000 in
set_option maxRecDepth 100000 in
theorem kX3_least (l : Launch) (E : zE) (x0 fa tb st jn rs lm : Nat) (fh ft fv kd nz : Nat → Nat) (T : Nat → Nat → Int32) (V : Nat → Nat → Int64) (n b : Nat) (S J : Nat → Nat) (w1 w2 w3 w4 : Int32) (L : Nat → Int64) (hn : n ≤ 12) (hz : ∀ j, j < n → nz j ≤ 64) (hk5 : ∀ j, j < n → kd j < 5) (f w : Int32) : Met l yX3_least wsX3_least (rmL 2) (va_Pc [.ref x0, .int f, .int w] (zW E (xB E x0 fa tb st jn rs lm fh n b S J w1 w2 w3 w4 L ++ fP E fh ft fv kd nz T V n))) (vp_Sl (fun r9 => r9 = aLeast n kd nz V f w)) 0 0 (fun _ => False) := by
  refine z_ofRl (cc := cX3_least) (maxL := 4) (own := RX3) (by decide) rfl rfl (Nat.le_of_ble_eq_true rfl) ?_
  intro p e s m args below meth c R Q B hP ret ls hl
  obtain ⟨hx, hb, hml, hown, hts, hK, hRf, hRl⟩ := B
  have hiX0 : ∀ w ∈ wsX00, w ∈ wsX3_least := by decide +kernel
  have hf56 := hts (.fieldLink RX3 56 "ExactFolds$Fold" "size" "I") (by decide +kernel)
  have hl : lv_has ls 4 [(0, .ref x0), (1, .int f), (2, .int w)] := hl
  refine lv_aload_n hx hb dX3_least_0 rfl (lv_at hl 0 rfl) ?_
  refine lv_iload_n hx hb dX3_least_1 rfl (lv_at hl 1 rfl) ?_
  refine lv_iconst (v := nI 3) hx hb dX3_least_2 (by decide) ?_
  refine zc_q (W.runV ⟨hx, hb, hml, hown, hts⟩ (kX3_foldOfKind l E x0 fa tb st jn rs lm fh ft fv kd nz T V n b S J w1 w2 w3 w4 L hn hk5 f 3 (by decide)) (cwV 2 hts gX3_least_X3_foldOfKind rfl rfl rfl (by decide +kernel) ⟨Nat.le_trans (Nat.le_of_ble_eq_true rfl) hRf, Nat.le_trans (Nat.le_of_ble_eq_true rfl) hRl⟩) (z_preV (As := [.int f, .int (nI 3)]) hP hK 0 rfl rfl) rfl rfl hl.1 rfl (lv_room (Nat.le_of_ble_eq_true rfl)) dX3_least_3 ⟨Nat.zero_le _, Nat.zero_le _⟩) ?_
  rcases fok_cases n kd f 3 (by omega) with hfij | ⟨j, hjj, rfl, hkdj, hfij⟩
  · rw [hfij]
    refine W.eq (g2 := F0 m 6 ls ([.null])) rfl ?_
    refine lv_astore_nN (lv' := [(3, .null), (0, .ref x0), (1, .int f), (2, .int w)]) hx hb dX3_least_6 rfl hl (by decide) rfl (fun ls hl => ?_)
    refine lv_aload_nN hx hb dX3_least_7 rfl (lv_at hl 0 rfl) ?_
    refine lv_ifnullN (tgt := 27) hx hb dX3_least_8 (by decide) ?_
    refine lv_ldc2 (v := (-9223372036854775808)) hx hb hown (hts (.constantLong RX3 86 (-9223372036854775808)) (by decide +kernel)) dX3_least_27 ?_
    exact z_retl (by unfold aLeast; rw [hfij]; rfl) (ret _ _ dX3_least_30)
  · rw [hfij]
    refine W.eq (g2 := F0 m 6 ls ([.ref (fh j)])) rfl ?_
    have hPfj : va_P E.1 vwCl (fW E (fh j) (ft j) (fv j) (kd j) (nz j) (T j) (V j)) _ := P_fP (app_r hP) hjj
    refine lv_astore_n (lv' := [(3, .ref (fh j)), (0, .ref x0), (1, .int (nI j)), (2, .int w)]) hx hb dX3_least_6 rfl hl (by decide) rfl (fun ls hl => ?_)
    refine lv_aload_n hx hb dX3_least_7 rfl (lv_at hl 0 rfl) ?_
    refine lv_ifnull hx hb dX3_least_8 ?_
    refine lv_iload_n hx hb dX3_least_11 rfl (lv_at hl 3 rfl) ?_
    refine lv_if_lt (tgt := 27) hx hb dX3_least_12 (by decide) (fun c_1 => ?_) (fun c_1 => ?_)
    · refine lv_ldc2 (v := (-9223372036854775808)) hx hb hown (hts (.constantLong RX3 86 (-9223372036854775808)) (by decide +kernel)) dX3_least_27 ?_
      exact z_retl (by unfold aLeast; rw [hfij]; show _ = if w < 0 ∨ nI 1 < w ∨ nz j = 0 then (-9223372036854775808) else if w = 0 then minV (V j) (nz j) else maxV (V j) (nz j); rw [if_pos (Or.inl c_1)]) (ret _ _ dX3_least_30)
    · refine lv_iload_n hx hb dX3_least_15 rfl (lv_at hl 3 rfl) ?_
      refine lv_iconst (v := nI 1) hx hb dX3_least_16 (by decide) ?_
      refine lv_icmp_gt (tgt := 27) hx hb dX3_least_17 (by decide) (fun c_2 => ?_) (fun c_2 => ?_)
      · refine lv_ldc2 (v := (-9223372036854775808)) hx hb hown (hts (.constantLong RX3 86 (-9223372036854775808)) (by decide +kernel)) dX3_least_27 ?_
        exact z_retl (by unfold aLeast; rw [hfij]; show _ = if w < 0 ∨ nI 1 < w ∨ nz j = 0 then (-9223372036854775808) else if w = 0 then minV (V j) (nz j) else maxV (V j) (nz j); rw [if_pos (Or.inr (Or.inl c_2))]) (ret _ _ dX3_least_30)
      · refine lv_aload_n hx hb dX3_least_20 rfl (lv_at hl 0 rfl) ?_
        refine va_get (D := E.1) (ci := 1) (C := RX0) (T := TX0) (N := 4) hx hb hts hiX0 hown hK.1 hPfj 0 rfl rfl 3 (by decide) hf56 (fun _ h9 => h9) rfl dX3_least_21 ?_
        refine zn_if_ne (tgt := 31) hx hb dX3_least_24 (by decide) (by have := hz j hjj; omega) (fun c_3 => ?_) (fun c_3 => ?_)
        · refine lv_iload_n hx hb dX3_least_31 rfl (lv_at hl 3 rfl) ?_
          refine lv_if_ne (tgt := 42) hx hb dX3_least_32 (by decide) (fun c_4 => ?_) (fun c_4 => ?_)
          · refine lv_aload_n hx hb dX3_least_42 rfl (lv_at hl 0 rfl) ?_
            refine zc_l (W.runV ⟨hx, hb, hml, hown, hts⟩ (kX0_greatestValue l E (fh j) (ft j) (fv j) (nI (kd j)) (nz j) (T j) (V j) (hz j hjj)) (cwV 0 hts gX3_least_X0_greatestValue rfl rfl rfl (by decide +kernel) ⟨Nat.le_trans (Nat.le_of_ble_eq_true rfl) hRf, Nat.le_trans (Nat.le_of_ble_eq_true rfl) hRl⟩) (z_preV (As := []) hPfj hK 0 rfl rfl) rfl rfl hl.1 rfl (lv_room (Nat.le_of_ble_eq_true rfl)) dX3_least_43 ⟨Nat.zero_le _, Nat.zero_le _⟩) ?_
            exact z_retl (by unfold aLeast; rw [hfij]; show _ = if w < 0 ∨ nI 1 < w ∨ nz j = 0 then (-9223372036854775808) else if w = 0 then minV (V j) (nz j) else maxV (V j) (nz j); rw [if_neg (fun q => q.elim c_1 (fun q => q.elim c_2 c_3)), if_neg c_4]) (ret _ _ dX3_least_46)
          · refine lv_aload_n hx hb dX3_least_35 rfl (lv_at hl 0 rfl) ?_
            refine zc_l (W.runV ⟨hx, hb, hml, hown, hts⟩ (kX0_leastValue l E (fh j) (ft j) (fv j) (nI (kd j)) (nz j) (T j) (V j) (hz j hjj)) (cwV 0 hts gX3_least_X0_leastValue rfl rfl rfl (by decide +kernel) ⟨Nat.le_trans (Nat.le_of_ble_eq_true rfl) hRf, Nat.le_trans (Nat.le_of_ble_eq_true rfl) hRl⟩) (z_preV (As := []) hPfj hK 0 rfl rfl) rfl rfl hl.1 rfl (lv_room (Nat.le_of_ble_eq_true rfl)) dX3_least_36 ⟨Nat.zero_le _, Nat.zero_le _⟩) ?_
            refine lv_goto (tgt := 46) hx hb dX3_least_39 (by decide) ?_
            exact z_retl (by unfold aLeast; rw [hfij]; show _ = if w < 0 ∨ nI 1 < w ∨ nz j = 0 then (-9223372036854775808) else if w = 0 then minV (V j) (nz j) else maxV (V j) (nz j); rw [if_neg (fun q => q.elim c_1 (fun q => q.elim c_2 c_3)), if_pos c_4]) (ret _ _ dX3_least_46)
        · refine lv_ldc2 (v := (-9223372036854775808)) hx hb hown (hts (.constantLong RX3 86 (-9223372036854775808)) (by decide +kernel)) dX3_least_27 ?_
          exact z_retl (by unfold aLeast; rw [hfij]; show _ = if w < 0 ∨ nI 1 < w ∨ nz j = 0 then (-9223372036854775808) else if w = 0 then minV (V j) (nz j) else maxV (V j) (nz j); rw [if_pos (Or.inr (Or.inr c_3))]) (ret _ _ dX3_least_30)
set_option maxHeartbeats 4000000 in
set_option maxRecDepth 100000 in
theorem kX3_same (l : Launch) (E : zE) (x0 fa tb st jn rs lm : Nat) (fh ft fv kd nz : Nat → Nat) (T : Nat → Nat → Int32) (V : Nat → Nat → Int64) (n b : Nat) (S J : Nat → Nat) (w1 w2 w3 w4 : Int32) (L : Nat → Int64) (hn : n ≤ 12) (hz : ∀ j, j < n → nz j ≤ 64) (hk5 : ∀ j, j < n → kd j < 5) (f g : Int32) : Met l yX3_same wsX3_same (rmL 2) (va_Pc [.ref x0, .int f, .int g] (zW E (xB E x0 fa tb st jn rs lm fh n b S J w1 w2 w3 w4 L ++ fP E fh ft fv kd nz T V n))) (vp_Si (fun r9 => r9 = bI (aSame n kd nz T V f g))) 0 0 (fun _ => False) := by
  refine z_ofRz (cc := cX3_same) (maxL := 5) (own := RX3) (by decide) rfl rfl (Nat.le_of_ble_eq_true rfl) ?_
  intro p e s m args below meth c R Q B hP ret ls hl
  obtain ⟨hx, hb, hml, hown, hts, hK, hRf, hRl⟩ := B
  have hiX0 : ∀ w ∈ wsX00, w ∈ wsX3_same := by decide +kernel
  have hf53 := hts (.fieldLink RX3 53 "ExactFolds$Fold" "kind" "I") (by decide +kernel)
  have hl : lv_has ls 5 [(0, .ref x0), (1, .int f), (2, .int g)] := hl
  refine lv_aload_n hx hb dX3_same_0 rfl (lv_at hl 0 rfl) ?_
  refine lv_iload_n hx hb dX3_same_1 rfl (lv_at hl 1 rfl) ?_
  refine zc_q (W.runV ⟨hx, hb, hml, hown, hts⟩ (kX3_foldNumbered l E x0 fa tb st jn rs lm fh ft fv kd nz T V n b S J w1 w2 w3 w4 L hn f) (cwV 1 hts gX3_same_X3_foldNumbered rfl rfl rfl (by decide +kernel) ⟨Nat.le_trans (Nat.le_of_ble_eq_true rfl) hRf, Nat.le_trans (Nat.le_of_ble_eq_true rfl) hRl⟩) (z_preV (As := [.int f]) hP hK 0 rfl rfl) rfl rfl hl.1 rfl (lv_room (Nat.le_of_ble_eq_true rfl)) dX3_same_2 ⟨Nat.zero_le _, Nat.zero_le _⟩) ?_
  rcases fi_cases n f (by omega) with hfii | ⟨i, hji, rfl, hfii⟩
  · rw [hfii]
    refine W.eq (g2 := F0 m 5 ls ([.null])) rfl ?_
    refine lv_astore_nN (lv' := [(3, .null), (0, .ref x0), (1, .int f), (2, .int g)]) hx hb dX3_same_5 rfl hl (by decide) rfl (fun ls hl => ?_)
    refine lv_aload_n hx hb dX3_same_6 rfl (lv_at hl 1 rfl) ?_
    refine lv_iload_n hx hb dX3_same_7 rfl (lv_at hl 3 rfl) ?_
    refine zc_q (W.runV ⟨hx, hb, hml, hown, hts⟩ (kX3_foldNumbered l E x0 fa tb st jn rs lm fh ft fv kd nz T V n b S J w1 w2 w3 w4 L hn g) (cwV 1 hts gX3_same_X3_foldNumbered rfl rfl rfl (by decide +kernel) ⟨Nat.le_trans (Nat.le_of_ble_eq_true rfl) hRf, Nat.le_trans (Nat.le_of_ble_eq_true rfl) hRl⟩) (z_preV (As := [.int g]) hP hK 0 rfl rfl) rfl rfl hl.1 rfl (lv_room (Nat.le_of_ble_eq_true rfl)) dX3_same_8 ⟨Nat.zero_le _, Nat.zero_le _⟩) ?_
    rcases fi_cases n g (by omega) with hfij | ⟨j, hjj, rfl, hfij⟩
    · rw [hfij]
      refine W.eq (g2 := F0 m 11 ls ([.null])) rfl ?_
      refine lv_astoreN (lv' := [(4, .null), (3, .null), (0, .ref x0), (1, .int f), (2, .int g)]) hx hb dX3_same_11 hl (by decide) rfl (fun ls hl => ?_)
      refine lv_aload_nN hx hb dX3_same_13 rfl (lv_at hl 1 rfl) ?_
      refine lv_ifnullN (tgt := 22) hx hb dX3_same_14 (by decide) ?_
      refine lv_iconst (v := nI 0) hx hb dX3_same_22 (by decide) ?_
      exact z_reti (by rw [show aSame n kd nz T V f g = false from by unfold aSame; rw [hfii]; rfl]; rfl) (ret _ _ dX3_same_23)
    · rw [hfij]
      refine W.eq (g2 := F0 m 11 ls ([.ref (fh j)])) rfl ?_
      have hPfj : va_P E.1 vwCl (fW E (fh j) (ft j) (fv j) (kd j) (nz j) (T j) (V j)) _ := P_fP (app_r hP) hjj
      refine lv_astore (lv' := [(4, .ref (fh j)), (3, .null), (0, .ref x0), (1, .int f), (2, .int (nI j))]) hx hb dX3_same_11 hl (by decide) rfl (fun ls hl => ?_)
      refine lv_aload_nN hx hb dX3_same_13 rfl (lv_at hl 1 rfl) ?_
      refine lv_ifnullN (tgt := 22) hx hb dX3_same_14 (by decide) ?_
      refine lv_iconst (v := nI 0) hx hb dX3_same_22 (by decide) ?_
      exact z_reti (by rw [show aSame n kd nz T V f (nI j) = false from by unfold aSame; rw [hfii]; rfl]; rfl) (ret _ _ dX3_same_23)
  · rw [hfii]
    refine W.eq (g2 := F0 m 5 ls ([.ref (fh i)])) rfl ?_
    have hPfi : va_P E.1 vwCl (fW E (fh i) (ft i) (fv i) (kd i) (nz i) (T i) (V i)) _ := P_fP (app_r hP) hji
    refine lv_astore_n (lv' := [(3, .ref (fh i)), (0, .ref x0), (1, .int (nI i)), (2, .int g)]) hx hb dX3_same_5 rfl hl (by decide) rfl (fun ls hl => ?_)
    refine lv_aload_n hx hb dX3_same_6 rfl (lv_at hl 1 rfl) ?_
    refine lv_iload_n hx hb dX3_same_7 rfl (lv_at hl 3 rfl) ?_
    refine zc_q (W.runV ⟨hx, hb, hml, hown, hts⟩ (kX3_foldNumbered l E x0 fa tb st jn rs lm fh ft fv kd nz T V n b S J w1 w2 w3 w4 L hn g) (cwV 1 hts gX3_same_X3_foldNumbered rfl rfl rfl (by decide +kernel) ⟨Nat.le_trans (Nat.le_of_ble_eq_true rfl) hRf, Nat.le_trans (Nat.le_of_ble_eq_true rfl) hRl⟩) (z_preV (As := [.int g]) hP hK 0 rfl rfl) rfl rfl hl.1 rfl (lv_room (Nat.le_of_ble_eq_true rfl)) dX3_same_8 ⟨Nat.zero_le _, Nat.zero_le _⟩) ?_
    rcases fi_cases n g (by omega) with hfij | ⟨j, hjj, rfl, hfij⟩
    · rw [hfij]
      refine W.eq (g2 := F0 m 11 ls ([.null])) rfl ?_
      refine lv_astoreN (lv' := [(4, .null), (3, .ref (fh i)), (0, .ref x0), (1, .int (nI i)), (2, .int g)]) hx hb dX3_same_11 hl (by decide) rfl (fun ls hl => ?_)
      refine lv_aload_n hx hb dX3_same_13 rfl (lv_at hl 1 rfl) ?_
      refine lv_ifnull hx hb dX3_same_14 ?_
      refine lv_aloadN hx hb dX3_same_17 (lv_at hl 0 rfl) ?_
      refine lv_ifnonnullN hx hb dX3_same_19 ?_
      refine lv_iconst (v := nI 0) hx hb dX3_same_22 (by decide) ?_
      exact z_reti (by rw [show aSame n kd nz T V (nI i) g = false from by unfold aSame; rw [hfii]; show (fidx n g).elim false (fun j => decide (kd i = kd j) && sameR (T i) (T j) (V i) (V j) (nz i) (nz j)) = _; rw [hfij]; rfl]; rfl) (ret _ _ dX3_same_23)
    · rw [hfij]
      refine W.eq (g2 := F0 m 11 ls ([.ref (fh j)])) rfl ?_
      have hPfj : va_P E.1 vwCl (fW E (fh j) (ft j) (fv j) (kd j) (nz j) (T j) (V j)) _ := P_fP (app_r hP) hjj
      refine lv_astore (lv' := [(4, .ref (fh j)), (3, .ref (fh i)), (0, .ref x0), (1, .int (nI i)), (2, .int (nI j))]) hx hb dX3_same_11 hl (by decide) rfl (fun ls hl => ?_)
      refine lv_aload_n hx hb dX3_same_13 rfl (lv_at hl 1 rfl) ?_
      refine lv_ifnull hx hb dX3_same_14 ?_
      refine lv_aload hx hb dX3_same_17 (lv_at hl 0 rfl) ?_
      refine lv_ifnonnull (tgt := 24) hx hb dX3_same_19 (by decide) ?_
      refine lv_aload_n hx hb dX3_same_24 rfl (lv_at hl 1 rfl) ?_
      refine va_get (D := E.1) (ci := 1) (C := RX0) (T := TX0) (N := 4) hx hb hts hiX0 hown hK.1 hPfi 0 rfl rfl 0 (by decide) hf53 (fun _ h9 => h9) rfl dX3_same_25 ?_
      refine lv_aload hx hb dX3_same_28 (lv_at hl 0 rfl) ?_
      refine va_get (D := E.1) (ci := 1) (C := RX0) (T := TX0) (N := 4) hx hb hts hiX0 hown hK.1 hPfj 0 rfl rfl 0 (by decide) hf53 (fun _ h9 => h9) rfl dX3_same_30 ?_
      refine zn_icmp_ne (tgt := 49) hx hb dX3_same_33 (by decide) (by have := hk5 i hji; omega) (by have := hk5 j hjj; omega) (fun c_1 => ?_) (fun c_1 => ?_)
      · refine lv_iconst (v := nI 0) hx hb dX3_same_49 (by decide) ?_
        exact z_reti (by rw [show aSame n kd nz T V (nI i) (nI j) = false from by unfold aSame; rw [hfii]; show (fidx n (nI j)).elim false (fun j => decide (kd i = kd j) && sameR (T i) (T j) (V i) (V j) (nz i) (nz j)) = _; rw [hfij]; show (decide (kd i = kd j) && sameR (T i) (T j) (V i) (V j) (nz i) (nz j)) = _; rw [decide_eq_false c_1]; rfl]; rfl) (ret _ _ dX3_same_50)
      · refine lv_aload_n hx hb dX3_same_36 rfl (lv_at hl 1 rfl) ?_
        refine lv_aload hx hb dX3_same_37 (lv_at hl 0 rfl) ?_
        refine zc_i (W.runV ⟨hx, hb, hml, hown, hts⟩ (kX0_hasTheRowsOf l E (fh i) (ft i) (fv i) (nI (kd i)) (nz i) (T i) (V i) (hz i hji) (fh j) (ft j) (fv j) (nI (kd j)) (nz j) (T j) (V j) (hz j hjj)) (cwV 1 hts gX3_same_X0_hasTheRowsOf rfl rfl rfl (by decide +kernel) ⟨Nat.le_trans (Nat.le_of_ble_eq_true rfl) hRf, Nat.le_trans (Nat.le_of_ble_eq_true rfl) hRl⟩) (z_preV (As := [.ref (fh j)]) (hPfi.app hPfj) hK 0 rfl rfl) rfl rfl hl.1 rfl (lv_room (Nat.le_of_ble_eq_true rfl)) dX3_same_39 ⟨Nat.zero_le _, Nat.zero_le _⟩) ?_
        refine zb_if_eq (tgt := 49) hx hb dX3_same_42 (by decide) (fun c_2 => ?_) (fun c_2 => ?_)
        · refine lv_iconst (v := nI 0) hx hb dX3_same_49 (by decide) ?_
          exact z_reti (by rw [show aSame n kd nz T V (nI i) (nI j) = false from by unfold aSame; rw [hfii]; show (fidx n (nI j)).elim false (fun j => decide (kd i = kd j) && sameR (T i) (T j) (V i) (V j) (nz i) (nz j)) = _; rw [hfij]; show (decide (kd i = kd j) && sameR (T i) (T j) (V i) (V j) (nz i) (nz j)) = _; rw [decide_eq_true c_1, c_2]; rfl]; rfl) (ret _ _ dX3_same_50)
        · refine lv_iconst (v := nI 1) hx hb dX3_same_45 (by decide) ?_
          refine lv_goto (tgt := 50) hx hb dX3_same_46 (by decide) ?_
          exact z_reti (by rw [show aSame n kd nz T V (nI i) (nI j) = true from by unfold aSame; rw [hfii]; show (fidx n (nI j)).elim false (fun j => decide (kd i = kd j) && sameR (T i) (T j) (V i) (V j) (nz i) (nz j)) = _; rw [hfij]; show (decide (kd i = kd j) && sameR (T i) (T j) (V i) (V j) (nz i) (nz j)) = _; rw [decide_eq_true c_1, c_2]; rfl]; rfl) (ret _ _ dX3_same_50)
set_option maxHeartbeats 4000000 in
set_option maxRecDepth 100000 in
theorem kX3_withOneZero (l : Launch) (E : zE) (v : Int64) : Met l yX3_withOneZero wsX3_withOneZero (rmL 0) (va_Pc [.long v] (zW E [])) (vp_Sl (fun r9 => r9 = wz v)) 0 0 (fun _ => False) := by
  refine z_ofRl (cc := cX3_withOneZero) (maxL := 2) (own := RX3) (by decide) rfl rfl (Nat.le_of_ble_eq_true rfl) ?_
  intro p e s m args below meth c R Q B hP ret ls hl
  obtain ⟨hx, hb, hml, hown, hts, hK, hRf, hRl⟩ := B
  have hl : lv_has ls 2 [(0, .long v)] := hl
  refine lv_lload_n hx hb dX3_withOneZero_0 rfl (lv_at hl 0 rfl) ?_
  refine lv_ldc2 (v := (-9223372036854775808)) hx hb hown (hts (.constantLong RX3 86 (-9223372036854775808)) (by decide +kernel)) dX3_withOneZero_1 ?_
  refine zl_ne (tgt := 12) hx hb dX3_withOneZero_4 dX3_withOneZero_5 (by decide) (fun c_1 => ?_) (fun c_1 => ?_)
  · refine lv_lload_n hx hb dX3_withOneZero_12 rfl (lv_at hl 0 rfl) ?_
    exact z_retl (by unfold wz; rw [if_neg c_1]) (ret _ _ dX3_withOneZero_13)
  · refine lv_lconst (v := 0) hx hb dX3_withOneZero_8 rfl ?_
    refine lv_goto (tgt := 13) hx hb dX3_withOneZero_9 (by decide) ?_
    exact z_retl (by unfold wz; rw [if_pos c_1]) (ret _ _ dX3_withOneZero_13)
set_option maxHeartbeats 4000000 in
set_option maxRecDepth 100000 in
theorem kX3_isValueOf (l : Launch) (E : zE) (k : Nat) (hk : k < 5) (v : Int64) : Met l yX3_isValueOf wsX3_isValueOf (rmL 0) (va_Pc [.int (nI k), .long v] (zW E [])) (vp_Si (fun r9 => r9 = bI (isVal k v))) 0 0 (fun _ => False) := by
  refine z_ofRz (cc := cX3_isValueOf) (maxL := 3) (own := RX3) (by decide) rfl rfl (Nat.le_of_ble_eq_true rfl) ?_
  intro p e s m args below meth c R Q B hP ret ls hl
  obtain ⟨hx, hb, hml, hown, hts, hK, hRf, hRl⟩ := B
  have hl : lv_has ls 3 [(0, .int (nI k)), (1, .long v)] := hl
  refine lv_iload_n hx hb dX3_isValueOf_0 rfl (lv_at hl 0 rfl) ?_
  rcases (show k = 0 ∨ k = 1 ∨ k = 2 ∨ k = 3 ∨ k = 4 by omega) with rfl | rfl | rfl | rfl | rfl
  · refine lv_tableIn (tgt := 32) (off := 31) hx hb dX3_isValueOf_1 (by decide) (by decide) (by decide) (by decide) ?_
    refine lv_iconst (v := nI 1) hx hb dX3_isValueOf_32 (by decide) ?_
    exact z_reti (by rw [show isVal 0 v = true from by unfold isVal; simp [if_true]]; rfl) (ret _ _ dX3_isValueOf_33)
  · refine lv_tableIn (tgt := 34) (off := 33) hx hb dX3_isValueOf_1 (by decide) (by decide) (by decide) (by decide) ?_
    refine lv_lload_n hx hb dX3_isValueOf_34 rfl (lv_at hl 1 rfl) ?_
    refine lv_ldc2 (v := 9218868437227405312) hx hb hown (hts (.constantLong RX3 181 (9218868437227405312)) (by decide +kernel)) dX3_isValueOf_35 ?_
    refine lv_land hx hb dX3_isValueOf_38 ?_
    refine lv_ldc2 (v := 9218868437227405312) hx hb hown (hts (.constantLong RX3 181 (9218868437227405312)) (by decide +kernel)) dX3_isValueOf_39 ?_
    refine zl_eq (tgt := 50) hx hb dX3_isValueOf_42 dX3_isValueOf_43 (by decide) (fun c_1 => ?_) (fun c_1 => ?_)
    · refine lv_iconst (v := nI 0) hx hb dX3_isValueOf_50 (by decide) ?_
      exact z_reti (by rw [show isVal 1 v = false from by unfold isVal; simp [c_1]]; rfl) (ret _ _ dX3_isValueOf_51)
    · refine lv_iconst (v := nI 1) hx hb dX3_isValueOf_46 (by decide) ?_
      refine lv_goto (tgt := 51) hx hb dX3_isValueOf_47 (by decide) ?_
      exact z_reti (by rw [show isVal 1 v = true from by unfold isVal; simp [c_1]]; rfl) (ret _ _ dX3_isValueOf_51)
  · refine lv_tableIn (tgt := 52) (off := 51) hx hb dX3_isValueOf_1 (by decide) (by decide) (by decide) (by decide) ?_
    refine lv_lload_n hx hb dX3_isValueOf_52 rfl (lv_at hl 1 rfl) ?_
    refine lv_ldc2 (v := (-1000000)) hx hb hown (hts (.constantLong RX3 183 (-1000000)) (by decide +kernel)) dX3_isValueOf_53 ?_
    refine zl_lt (tgt := 72) hx hb dX3_isValueOf_56 dX3_isValueOf_57 (by decide) (fun c_2 => ?_) (fun c_2 => ?_)
    · refine lv_iconst (v := nI 0) hx hb dX3_isValueOf_72 (by decide) ?_
      exact z_reti (by rw [show isVal 2 v = false from by unfold isVal; simp [c_2]]; rfl) (ret _ _ dX3_isValueOf_73)
    · refine lv_lload_n hx hb dX3_isValueOf_60 rfl (lv_at hl 1 rfl) ?_
      refine lv_ldc2 (v := 1000000) hx hb hown (hts (.constantLong RX3 185 (1000000)) (by decide +kernel)) dX3_isValueOf_61 ?_
      refine zl_gt (tgt := 72) hx hb dX3_isValueOf_64 dX3_isValueOf_65 (by decide) (fun c_3 => ?_) (fun c_3 => ?_)
      · refine lv_iconst (v := nI 0) hx hb dX3_isValueOf_72 (by decide) ?_
        exact z_reti (by rw [show isVal 2 v = false from by unfold isVal; simp [c_2, c_3]]; rfl) (ret _ _ dX3_isValueOf_73)
      · refine lv_iconst (v := nI 1) hx hb dX3_isValueOf_68 (by decide) ?_
        refine lv_goto (tgt := 73) hx hb dX3_isValueOf_69 (by decide) ?_
        exact z_reti (by rw [show isVal 2 v = true from by unfold isVal; simp [c_2, c_3]]; rfl) (ret _ _ dX3_isValueOf_73)
  · refine lv_tableIn (tgt := 74) (off := 73) hx hb dX3_isValueOf_1 (by decide) (by decide) (by decide) (by decide) ?_
    refine lv_lload_n hx hb dX3_isValueOf_74 rfl (lv_at hl 1 rfl) ?_
    refine lv_ldc2 (v := (-100000000000000000)) hx hb hown (hts (.constantLong RX3 187 (-100000000000000000)) (by decide +kernel)) dX3_isValueOf_75 ?_
    refine zl_lt (tgt := 94) hx hb dX3_isValueOf_78 dX3_isValueOf_79 (by decide) (fun c_4 => ?_) (fun c_4 => ?_)
    · refine lv_iconst (v := nI 0) hx hb dX3_isValueOf_94 (by decide) ?_
      exact z_reti (by rw [show isVal 3 v = false from by unfold isVal; simp [c_4]]; rfl) (ret _ _ dX3_isValueOf_95)
    · refine lv_lload_n hx hb dX3_isValueOf_82 rfl (lv_at hl 1 rfl) ?_
      refine lv_ldc2 (v := 100000000000000000) hx hb hown (hts (.constantLong RX3 189 (100000000000000000)) (by decide +kernel)) dX3_isValueOf_83 ?_
      refine zl_gt (tgt := 94) hx hb dX3_isValueOf_86 dX3_isValueOf_87 (by decide) (fun c_5 => ?_) (fun c_5 => ?_)
      · refine lv_iconst (v := nI 0) hx hb dX3_isValueOf_94 (by decide) ?_
        exact z_reti (by rw [show isVal 3 v = false from by unfold isVal; simp [c_4, c_5]]; rfl) (ret _ _ dX3_isValueOf_95)
      · refine lv_iconst (v := nI 1) hx hb dX3_isValueOf_90 (by decide) ?_
        refine lv_goto (tgt := 95) hx hb dX3_isValueOf_91 (by decide) ?_
        exact z_reti (by rw [show isVal 3 v = true from by unfold isVal; simp [c_4, c_5]]; rfl) (ret _ _ dX3_isValueOf_95)
  · refine lv_tableOut (tgt := 96) hx hb dX3_isValueOf_1 (by decide) (by decide) ?_
    refine lv_lload_n hx hb dX3_isValueOf_96 rfl (lv_at hl 1 rfl) ?_
    refine lv_lconst (v := 0) hx hb dX3_isValueOf_97 rfl ?_
    refine zl_lt (tgt := 114) hx hb dX3_isValueOf_98 dX3_isValueOf_99 (by decide) (fun c_6 => ?_) (fun c_6 => ?_)
    · refine lv_iconst (v := nI 0) hx hb dX3_isValueOf_114 (by decide) ?_
      exact z_reti (by rw [show isVal 4 v = false from by unfold isVal; simp [c_6]]; rfl) (ret _ _ dX3_isValueOf_115)
    · refine lv_lload_n hx hb dX3_isValueOf_102 rfl (lv_at hl 1 rfl) ?_
      refine lv_ldc2 (v := 4) hx hb hown (hts (.constantLong RX3 191 (4)) (by decide +kernel)) dX3_isValueOf_103 ?_
      refine zl_ge (tgt := 114) hx hb dX3_isValueOf_106 dX3_isValueOf_107 (by decide) (fun c_7 => ?_) (fun c_7 => ?_)
      · refine lv_iconst (v := nI 0) hx hb dX3_isValueOf_114 (by decide) ?_
        exact z_reti (by rw [show isVal 4 v = false from by unfold isVal; simp [c_6, c_7]]; rfl) (ret _ _ dX3_isValueOf_115)
      · refine lv_iconst (v := nI 1) hx hb dX3_isValueOf_110 (by decide) ?_
        refine lv_goto (tgt := 115) hx hb dX3_isValueOf_111 (by decide) ?_
        exact z_reti (by rw [show isVal 4 v = true from by unfold isVal; simp [c_6, c_7]]; rfl) (ret _ _ dX3_isValueOf_115)
