/-! the model: fractions, the least and greatest, unlike values, the order of rows -/
theorem nle_of_lt {x y : Int32} (h : x < y) : ¬ y ≤ x := by rw [Int32.le_iff_toInt_le]; rw [Int32.lt_iff_toInt_lt] at h; omega
theorem inw3_t {w : Int32} (h : inL w.toInt64 0 3 = true) : ¬ w < 0 ∧ ¬ nI 4 ≤ w := by
  have h : inL w.toInt64 0 (nI 3).toInt64 = true := h
  rw [inw_b] at h
  have h := of_decide_eq_true h
  refine ⟨h.1, ?_⟩
  have h2 := h.2
  rw [Int32.le_iff_toInt_le]
  rw [Int32.lt_iff_toInt_lt] at h2
  have h3 : (nI 3).toInt = 3 := rfl
  have h4 : (nI 4).toInt = 4 := rfl
  omega
theorem inw3_f {w : Int32} (h : inL w.toInt64 0 3 = false) : w < 0 ∨ nI 4 ≤ w := by
  have h : inL w.toInt64 0 (nI 3).toInt64 = false := h
  rw [inw_b] at h
  have h := of_decide_eq_false h
  by_cases c : w < 0
  · exact Or.inl c
  · refine Or.inr (Decidable.of_not_not (fun q => h ⟨c, fun q2 => q ?_⟩))
    rw [Int32.le_iff_toInt_le]
    rw [Int32.lt_iff_toInt_lt] at q2
    have h3 : (nI 3).toInt = 3 := rfl
    have h4 : (nI 4).toInt = 4 := rfl
    omega
theorem inw1_t {w : Int32} (h : inL w.toInt64 0 1 = true) : ¬ (w < 0 ∨ nI 1 < w) := by
  have h : inL w.toInt64 0 (nI 1).toInt64 = true := h
  rw [inw_b] at h; exact fun q => q.elim (of_decide_eq_true h).1 (of_decide_eq_true h).2
theorem inw1_f {w : Int32} (h : inL w.toInt64 0 1 = false) : w < 0 ∨ nI 1 < w := by
  have h : inL w.toInt64 0 (nI 1).toInt64 = false := h
  rw [inw_b] at h
  have h := of_decide_eq_false h
  by_cases c : w < 0
  · exact Or.inl c
  · exact Or.inr (Decidable.of_not_not (fun q => h ⟨c, q⟩))
def mnA (n : Nat) (K M : Nat → Nat) (V : Nat → Nat → Int64) (f w : Int32) : Int64 := (fok n K f 2).elim (-9223372036854775808) (fun j => if w < 0 ∨ nI 1 < w then (-9223372036854775808) else if M j = 0 then 0 else pof (sumV (V j) (M j)) (M j) w)
def mnC (n : Nat) (K M : Nat → Nat) (f w : Int32) : Int32 := (fok n K f 2).elim (nI 0) (fun j => if w < 0 ∨ nI 1 < w then nI 0 else if M j = 0 then nI 1 else nI 0)
def spU (V : Nat → Int64) (n : Nat) : Int64 := lN n * sumQ V n - sumV V n * sumV V n
def sdA (n : Nat) (K M : Nat → Nat) (V : Nat → Nat → Int64) (f w : Int32) : Int64 := (fok n K f 2).elim (-9223372036854775808) (fun j => if w < 0 ∨ nI 1 < w then (-9223372036854775808) else if M j = 0 then 0 else pof (spU (V j) (M j)) (M j * M j) w)
/-- the values of a SPREAD fold are small: so are their sums -/
def isSp (V : Nat → Int64) (n : Nat) : Prop := ∀ i, i < n → -1000000 ≤ (V i).toInt ∧ (V i).toInt ≤ 1000000
theorem isSp_lt {V : Nat → Int64} {n m : Nat} (h : isSp V n) (hm : m ≤ n) : isSp V m := fun i hi => h i (by omega)
theorem sp_add {x y : Int64} (h1 : -(2 ^ 62) ≤ x.toInt ∧ x.toInt ≤ 2 ^ 62) (h2 : -(2 ^ 61) ≤ y.toInt ∧ y.toInt ≤ 2 ^ 61) : (x + y).toInt = x.toInt + y.toInt := by
  rw [Int64.toInt_add, Int.bmod_def]; split <;> omega
theorem sumV_b {V : Nat → Int64} {n : Nat} (hn : n ≤ 64) (h : isSp V n) : -(1000000 * n) ≤ (sumV V n).toInt ∧ (sumV V n).toInt ≤ 1000000 * n := by
  induction n with
  | zero => exact ⟨show -(1000000 * (0 : Int)) ≤ (0 : Int64).toInt by decide, show (0 : Int64).toInt ≤ 1000000 * (0 : Int) by decide⟩
  | succ n ih =>
    have h1 := ih (by omega) (isSp_lt h (by omega))
    have h2 := h n (by omega)
    have e : (sumV V (n + 1)).toInt = (sumV V n).toInt + (V n).toInt := sp_add (by omega) (by omega)
    omega
theorem sq_b {x : Int} (h : -1000000 ≤ x ∧ x ≤ 1000000) : 0 ≤ x * x ∧ x * x ≤ 1000000000000 := by
  constructor
  · rcases Int.le_total 0 x with q | q
    · exact Int.mul_nonneg q q
    · exact Int.mul_nonneg_of_nonpos_of_nonpos q q
  · have h1 : 0 ≤ (1000000 - x) * (1000000 + x) := Int.mul_nonneg (by omega) (by omega)
    have h2 : (1000000 - x) * (1000000 + x) = 1000000 * 1000000 - x * x := by
      rw [Int.sub_mul, Int.mul_add, Int.mul_add]; omega
    omega
theorem sp_mul {x y : Int64} (h : -(2 ^ 62) ≤ x.toInt * y.toInt ∧ x.toInt * y.toInt ≤ 2 ^ 62) : (x * y).toInt = x.toInt * y.toInt := by
  rw [Int64.toInt_mul, Int.bmod_def]; split <;> omega
theorem sumQ_b {V : Nat → Int64} {n : Nat} (hn : n ≤ 64) (h : isSp V n) : 0 ≤ (sumQ V n).toInt ∧ (sumQ V n).toInt ≤ 1000000000000 * n := by
  induction n with
  | zero => exact ⟨show 0 ≤ (0 : Int64).toInt by decide, show (0 : Int64).toInt ≤ 1000000000000 * (0 : Int) by decide⟩
  | succ n ih =>
    have h1 := ih (by omega) (isSp_lt h (by omega))
    have h2 := sq_b (h n (by omega))
    have e1 : (V n * V n).toInt = (V n).toInt * (V n).toInt := sp_mul (by omega)
    have e : (sumQ V (n + 1)).toInt = (sumQ V n).toInt + (V n * V n).toInt := sp_add (by omega) (by omega)
    omega
theorem nl_of {x : Int64} (h : x < 0) : ¬ 0 < x := by rw [Int64.lt_iff_toInt_lt] at h ⊢; omega
theorem l_abs2 {x : Int64} (h : x ≠ (-9223372036854775808)) (c : ¬ x < 0) : x = lN x.toInt.natAbs := by
  rw [← l_abs h]
  split
  · rfl
  · rename_i c2
    have e : x = 0 := Int64.toInt_inj.mp (by rw [Int64.lt_iff_toInt_lt] at c c2; have z : (0 : Int64).toInt = 0 := rfl; omega)
    rw [e]; rfl
theorem ne_min {x : Int64} (h : -(2 ^ 62) ≤ x.toInt) : x ≠ (-9223372036854775808) := by
  intro q; rw [q] at h; exact absurd h (by decide)
theorem sumV_ne {V : Nat → Int64} {n : Nat} (hn : n ≤ 64) (h : isSp V n) : sumV V n ≠ (-9223372036854775808) := ne_min (by have := sumV_b hn h; omega)
theorem spU_ne {V : Nat → Int64} {n : Nat} (hn : n ≤ 64) (h : isSp V n) : spU V n ≠ (-9223372036854775808) := by
  have a := sumV_b hn h
  have b := sumQ_b hn h
  have hl : (lN n).toInt = (n : Int) := pk_lT (by omega)
  have m1 : 0 ≤ (n : Int) * (sumQ V n).toInt ∧ (n : Int) * (sumQ V n).toInt ≤ 64 * 64000000000000 := by
    refine ⟨Int.mul_nonneg (by omega) b.1, Int.mul_le_mul (by omega) (by omega) b.1 (by omega)⟩
  have e1 : (lN n * sumQ V n).toInt = (n : Int) * (sumQ V n).toInt := by rw [sp_mul (by rw [hl]; omega), hl]
  have m2 : 0 ≤ (sumV V n).toInt * (sumV V n).toInt ∧ (sumV V n).toInt * (sumV V n).toInt ≤ 64000000 * 64000000 := by
    have h1 : -64000000 ≤ (sumV V n).toInt ∧ (sumV V n).toInt ≤ 64000000 := by omega
    constructor
    · rcases Int.le_total 0 (sumV V n).toInt with q | q
      · exact Int.mul_nonneg q q
      · exact Int.mul_nonneg_of_nonpos_of_nonpos q q
    · have h2 : 0 ≤ (64000000 - (sumV V n).toInt) * (64000000 + (sumV V n).toInt) := Int.mul_nonneg (by omega) (by omega)
      have h3 : (64000000 - (sumV V n).toInt) * (64000000 + (sumV V n).toInt) = 64000000 * 64000000 - (sumV V n).toInt * (sumV V n).toInt := by
        rw [Int.sub_mul, Int.mul_add, Int.mul_add]; omega
      omega
  have e2 : (sumV V n * sumV V n).toInt = (sumV V n).toInt * (sumV V n).toInt := sp_mul (by omega)
  refine ne_min ?_
  unfold spU
  rw [Int64.toInt_sub, e1, e2, Int.bmod_def]
  split <;> omega
set_option maxHeartbeats 4000000 in
set_option maxRecDepth 100000 in
theorem kX4_divisor (l : Launch) (E : zE) (up : Int64) (d : Nat) (hup : up ≠ (-9223372036854775808)) (hd : d ≤ 4096) : Met l yX4_divisor wsX4_divisor (rmL 0) (va_Pc [.long up, .long (lN d)] (zW E [])) (vp_Sl (fun r9 => r9 = lN (Nat.gcd up.toInt.natAbs d))) 0 0 (fun _ => False) := by
  refine z_ofRl (cc := cX4_divisor) (maxL := 10) (own := RX4) (by decide) rfl rfl (Nat.le_of_ble_eq_true rfl) ?_
  intro p e s m args below meth c R Q B hP ret ls hl
  obtain ⟨hx, hb, hml, hown, hts, hK, hRf, hRl⟩ := B
  have hl : lv_has ls 10 [(0, .long up), (2, .long (lN d))] := hl
  have lp : ∀ (fu : Nat) (x : Nat) (y : Nat) (ls : Array Slot), y < fu → (Nat.gcd x y = Nat.gcd up.toInt.natAbs d) → (x < 2 ^ 63) → (y ≤ 4096) → lv_has ls 10 [(0, .long up), (2, .long (lN d)), (4, .long (lN x)), (6, .long (lN y))] → W p l e R s m args below meth c s.heap [] 0 0 Q (F0 m 17 ls []) := by
    intro fu
    induction fu with
    | zero => intros; exact absurd (by assumption) (Nat.not_lt_zero _)
    | succ fu ihlp =>
      intro x y ls hfu hg hx1 hy1 hl
      refine lv_lload hx hb dX4_divisor_17 (lv_at hl 3 rfl) ?_
      refine lv_lconst (v := 0) hx hb dX4_divisor_19 rfl ?_
      refine zl_eq (tgt := 42) hx hb dX4_divisor_20 dX4_divisor_21 (by decide) (fun c_1 => ?_) (fun c_1 => ?_)
      · have hy0 : y = 0 := by
          have h9 := congrArg Int64.toInt c_1
          rw [pk_lT (by omega)] at h9
          have h9 : (y : Int) = 0 := h9
          omega
        subst hy0
        refine lv_lload hx hb dX4_divisor_42 (lv_at hl 2 rfl) ?_
        exact z_retl (by rw [← hg, Nat.gcd_zero_right]) (ret _ _ dX4_divisor_44)
      · have hyp : 0 < y := Nat.pos_of_ne_zero (fun q9 => c_1 (by rw [q9]; rfl))
        have hml2 := Nat.mod_lt x hyp
        refine lv_lload hx hb dX4_divisor_24 (lv_at hl 2 rfl) ?_
        refine lv_lload hx hb dX4_divisor_26 (lv_at hl 3 rfl) ?_
        refine lv_lrem hx hb dX4_divisor_28 (lN_ne0 hyp (by omega)) ?_
        refine lv_lstore (lv' := [(8, .long ((lN x) - (lN x) / (lN y) * (lN y))), (0, .long up), (2, .long (lN d)), (4, .long (lN x)), (6, .long (lN y))]) hx hb dX4_divisor_29 hl (by decide) rfl (fun ls hl => ?_)
        refine lv_lload hx hb dX4_divisor_31 (lv_at hl 4 rfl) ?_
        refine lv_lstore (lv' := [(4, .long (lN y)), (8, .long ((lN x) - (lN x) / (lN y) * (lN y))), (0, .long up), (2, .long (lN d)), (6, .long (lN y))]) hx hb dX4_divisor_33 hl (by decide) rfl (fun ls hl => ?_)
        refine lv_lload hx hb dX4_divisor_35 (lv_at hl 1 rfl) ?_
        refine lv_lstore (lv' := [(6, .long ((lN x) - (lN x) / (lN y) * (lN y))), (4, .long (lN y)), (8, .long ((lN x) - (lN x) / (lN y) * (lN y))), (0, .long up), (2, .long (lN d))]) hx hb dX4_divisor_37 hl (by decide) rfl (fun ls hl => ?_)
        refine lv_goto (tgt := 17) hx hb dX4_divisor_39 (by decide) ?_
        exact ihlp y (x % y) ls (by omega) (by rw [gcd_step]; exact hg) (by omega) (by omega) (lv_sub hl [3, 4, 1, 0] (by rw [← pk_lRem hx1 (by omega) (by omega)]; rfl))
  refine lv_lload_n hx hb dX4_divisor_0 rfl (lv_at hl 0 rfl) ?_
  refine lv_lconst (v := 0) hx hb dX4_divisor_1 rfl ?_
  refine zl_ge (tgt := 11) hx hb dX4_divisor_2 dX4_divisor_3 (by decide) (fun c_2 => ?_) (fun c_2 => ?_)
  · refine lv_lload_n hx hb dX4_divisor_11 rfl (lv_at hl 0 rfl) ?_
    refine lv_lstore (lv' := [(4, .long up), (0, .long up), (2, .long (lN d))]) hx hb dX4_divisor_12 hl (by decide) rfl (fun ls hl => ?_)
    refine lv_lload_n hx hb dX4_divisor_14 rfl (lv_at hl 2 rfl) ?_
    refine lv_lstore (lv' := [(6, .long (lN d)), (4, .long up), (0, .long up), (2, .long (lN d))]) hx hb dX4_divisor_15 hl (by decide) rfl (fun ls hl => ?_)
    exact lp _ up.toInt.natAbs d ls (Nat.lt_succ_self _) (rfl) (l_absb hup) (hd) (lv_sub hl [2, 3, 1, 0] (by rw [← l_abs2 hup c_2]; rfl))
  · refine lv_lload_n hx hb dX4_divisor_6 rfl (lv_at hl 0 rfl) ?_
    refine lv_lneg hx hb dX4_divisor_7 ?_
    refine lv_goto (tgt := 12) hx hb dX4_divisor_8 (by decide) ?_
    refine lv_lstore (lv' := [(4, .long (-up)), (0, .long up), (2, .long (lN d))]) hx hb dX4_divisor_12 hl (by decide) rfl (fun ls hl => ?_)
    refine lv_lload_n hx hb dX4_divisor_14 rfl (lv_at hl 2 rfl) ?_
    refine lv_lstore (lv' := [(6, .long (lN d)), (4, .long (-up)), (0, .long up), (2, .long (lN d))]) hx hb dX4_divisor_15 hl (by decide) rfl (fun ls hl => ?_)
    exact lp _ up.toInt.natAbs d ls (Nat.lt_succ_self _) (rfl) (l_absb hup) (hd) (lv_sub hl [2, 3, 1, 0] (by rw [← l_abs hup]; rw [if_neg (nl_of c_2)]; rfl))
set_option maxHeartbeats 4000000 in
set_option maxRecDepth 100000 in
theorem kX4_part (l : Launch) (E : zE) (up : Int64) (d : Nat) (w : Int32) (hup : up ≠ (-9223372036854775808)) (hd : d ≤ 4096) (hd0 : 0 < d) : Met l yX4_part wsX4_part (rmL 1) (va_Pc [.long up, .long (lN d), .int w] (zW E [])) (vp_Sl (fun r9 => r9 = pof up d w)) 0 0 (fun _ => False) := by
  refine z_ofRl (cc := cX4_part) (maxL := 7) (own := RX4) (by decide) rfl rfl (Nat.le_of_ble_eq_true rfl) ?_
  intro p e s m args below meth c R Q B hP ret ls hl
  obtain ⟨hx, hb, hml, hown, hts, hK, hRf, hRl⟩ := B
  have hl : lv_has ls 7 [(0, .long up), (2, .long (lN d)), (4, .int w)] := hl
  have hgp : 0 < Nat.gcd up.toInt.natAbs d := Nat.gcd_pos_of_pos_right _ hd0
  have hgl : Nat.gcd up.toInt.natAbs d ≤ d := Nat.gcd_le_right _ hd0
  refine lv_lload_n hx hb dX4_part_0 rfl (lv_at hl 0 rfl) ?_
  refine lv_lload_n hx hb dX4_part_1 rfl (lv_at hl 1 rfl) ?_
  refine zc_l (W.runS ⟨hx, hb, hml, hown, hts⟩ (kX4_divisor l E up d hup hd) (cwS 2 hts gX4_part_X4_divisor rfl rfl rfl (by decide +kernel) ⟨Nat.le_trans (Nat.le_of_ble_eq_true rfl) hRf, Nat.le_trans (Nat.le_of_ble_eq_true rfl) hRl⟩) (z_preR (av := [.long up, .long (lN d)]) (hP.sub (ws' := []) [] rfl) hK) rfl rfl hl.1 rfl (lv_room (Nat.le_of_ble_eq_true rfl)) dX4_part_2 ⟨Nat.zero_le _, Nat.zero_le _⟩) ?_
  refine lv_lstore (lv' := [(5, .long (lN (Nat.gcd up.toInt.natAbs d))), (0, .long up), (2, .long (lN d)), (4, .int w)]) hx hb dX4_part_5 hl (by decide) rfl (fun ls hl => ?_)
  refine lv_iload hx hb dX4_part_7 (lv_at hl 3 rfl) ?_
  refine lv_if_ne (tgt := 19) hx hb dX4_part_9 (by decide) (fun c_1 => ?_) (fun c_1 => ?_)
  · refine lv_lload_n hx hb dX4_part_19 rfl (lv_at hl 2 rfl) ?_
    refine lv_lload hx hb dX4_part_20 (lv_at hl 0 rfl) ?_
    refine lv_ldiv hx hb dX4_part_22 (lN_ne0 hgp (by omega)) ?_
    exact z_retl (by unfold pof; rw [if_neg c_1]) (ret _ _ dX4_part_23)
  · refine lv_lload_n hx hb dX4_part_12 rfl (lv_at hl 1 rfl) ?_
    refine lv_lload hx hb dX4_part_13 (lv_at hl 0 rfl) ?_
    refine lv_ldiv hx hb dX4_part_15 (lN_ne0 hgp (by omega)) ?_
    refine lv_goto (tgt := 23) hx hb dX4_part_16 (by decide) ?_
    exact z_retl (by unfold pof; rw [if_pos c_1]) (ret _ _ dX4_part_23)
set_option maxHeartbeats 4000000 in
set_option maxRecDepth 100000 in
theorem kX4_summed0 (l : Launch) (E : zE) (m0 k0 q0 t0 v0 c0 o0 s0 j0 r0 f0 g0 h0 : Nat) (cd : Int32) (n : Nat) (K M : Nat → Nat) (TT : Nat → Int32) (VV CC : Nat → Int64) (OO : Nat → Nat) (b : Nat) (S J : Nat → Nat) (RR : Nat → Bool) (w1 w2 w3 w4 : Int32) (SF SM FD : Nat → Nat) (hn : n ≤ 12) (hM : ∀ j, j < n → M j ≤ 64) (j : Nat) (hjj : j < n) : Met l yX4_summed wsX4_summed (rmL 0) (va_Pc [.ref m0, .int (nI j), .int (nI 0)] (zW E (mW E m0 k0 q0 t0 v0 c0 o0 s0 j0 r0 f0 g0 h0 cd n K M TT VV CC OO b S J RR w1 w2 w3 w4 SF SM FD))) (vp_Sl (fun r9 => r9 = sumV (vw VV j) (M j))) 0 0 (fun _ => False) := by
  refine z_ofRl (cc := cX4_summed) (maxL := 6) (own := RX4) (by decide) rfl rfl (Nat.le_of_ble_eq_true rfl) ?_
  intro p e s m args below meth c R Q B hP ret ls hl
  obtain ⟨hx, hb, hml, hown, hts, hK, hRf, hRl⟩ := B
  have hiX4 : ∀ w ∈ wsX40, w ∈ wsX4_summed := by decide +kernel
  have hf13 := hts (.fieldLink RX4 13 "ExactFoldsModel" "many" "[I") (by decide +kernel)
  have hf19 := hts (.fieldLink RX4 19 "ExactFoldsModel" "values" "[J") (by decide +kernel)
  have hl : lv_has ls 6 [(0, .ref m0), (1, .int (nI j)), (2, .int (nI 0))] := hl
  have hMj := hM j hjj
  refine lv_lconst (v := 0) hx hb dX4_summed_0 rfl ?_
  refine lv_lstore_n (lv' := [(3, .long 0), (0, .ref m0), (1, .int (nI j)), (2, .int (nI 0))]) hx hb dX4_summed_1 rfl hl (by decide) rfl (fun ls hl => ?_)
  refine lv_bipush (v := nI 64) hx hb dX4_summed_2 (by decide) ?_
  refine lv_iload_n hx hb dX4_summed_4 rfl (lv_at hl 2 rfl) ?_
  refine zn_imul hx hb dX4_summed_5 ?_
  refine lv_istore (lv' := [(5, .int (nI (64 * j))), (3, .long 0), (0, .ref m0), (1, .int (nI j)), (2, .int (nI 0))]) hx hb dX4_summed_6 hl (by decide) rfl (fun ls hl => ?_)
  have lp : ∀ (fu : Nat) (i : Nat) (ls : Array Slot), M j - i < fu → (i ≤ M j) → lv_has ls 6 [(0, .ref m0), (1, .int (nI j)), (2, .int (nI 0)), (3, .long (sumV (vw VV j) i)), (5, .int (nI (64 * j + i)))] → W p l e R s m args below meth c s.heap [] 0 0 Q (F0 m 8 ls []) := by
    intro fu
    induction fu with
    | zero => intros; exact absurd (by assumption) (Nat.not_lt_zero _)
    | succ fu ihlp =>
      intro i ls hfu hi hl
      refine lv_iload hx hb dX4_summed_8 (lv_at hl 4 rfl) ?_
      refine lv_bipush (v := nI 64) hx hb dX4_summed_10 (by decide) ?_
      refine lv_iload_n hx hb dX4_summed_12 rfl (lv_at hl 1 rfl) ?_
      refine zn_imul hx hb dX4_summed_13 ?_
      refine lv_aload_n hx hb dX4_summed_14 rfl (lv_at hl 0 rfl) ?_
      refine va_get (D := E.1) (ci := 5) (C := RX4) (T := TX4) (N := 19) hx hb hts hiX4 hown hK.1 hP 0 rfl rfl 3 (by decide) hf13 (fun _ h9 => h9) rfl dX4_summed_15 ?_
      refine lv_iload_n hx hb dX4_summed_18 rfl (lv_at hl 1 rfl) ?_
      refine zn_iald hx hb hK.1 hP 2 0 rfl rfl (by omega) (by decide) dX4_summed_19 ?_
      refine zn_iadd hx hb dX4_summed_20 ?_
      refine zn_icmp_ge (tgt := 62) hx hb dX4_summed_21 (by decide) (by omega) (by omega) (fun c_1 => ?_) (fun c_1 => ?_)
      · obtain rfl : i = M j := by omega
        refine lv_lload_n hx hb dX4_summed_62 rfl (lv_at hl 3 rfl) ?_
        exact z_retl (rfl) (ret _ _ dX4_summed_63)
      · refine lv_lload_n hx hb dX4_summed_24 rfl (lv_at hl 3 rfl) ?_
        refine lv_iload_n hx hb dX4_summed_25 rfl (lv_at hl 2 rfl) ?_
        refine zn_if_eq (tgt := 47) hx hb dX4_summed_26 (by decide) (by decide) (fun _ => ?_) (fun h => absurd h (by decide))
        refine lv_aload_n hx hb dX4_summed_47 rfl (lv_at hl 0 rfl) ?_
        refine va_get (D := E.1) (ci := 5) (C := RX4) (T := TX4) (N := 19) hx hb hts hiX4 hown hK.1 hP 0 rfl rfl 5 (by decide) hf19 (fun _ h9 => h9) rfl dX4_summed_48 ?_
        refine lv_iload hx hb dX4_summed_51 (lv_at hl 4 rfl) ?_
        refine zn_lald hx hb hK.1 hP 4 1 rfl rfl (by omega) (by decide) dX4_summed_53 ?_
        refine lv_ladd hx hb dX4_summed_54 ?_
        refine lv_lstore_n (lv' := [(3, .long ((sumV (vw VV j) i) + (VV (64 * j + i)))), (0, .ref m0), (1, .int (nI j)), (2, .int (nI 0)), (5, .int (nI (64 * j + i)))]) hx hb dX4_summed_55 rfl hl (by decide) rfl (fun ls hl => ?_)
        refine lv_iinc (v := nI (64 * j + i + 1)) (lv' := [(5, .int (nI (64 * j + i + 1))), (3, .long ((sumV (vw VV j) i) + (VV (64 * j + i)))), (0, .ref m0), (1, .int (nI j)), (2, .int (nI 0))]) hx hb dX4_summed_56 hl (k := 4) rfl (z_inc _ 1) (by decide) rfl (fun ls hl => ?_)
        refine lv_goto (tgt := 8) hx hb dX4_summed_59 (by decide) ?_
        exact ihlp (i + 1) ls (by omega) (by omega) (lv_sub hl [2, 3, 4, 1, 0] rfl)
  exact lp _ 0 ls (Nat.lt_succ_self _) (Nat.zero_le _) (lv_sub hl [2, 3, 4, 1, 0] rfl)
set_option maxHeartbeats 4000000 in
set_option maxRecDepth 100000 in
theorem kX4_summed1 (l : Launch) (E : zE) (m0 k0 q0 t0 v0 c0 o0 s0 j0 r0 f0 g0 h0 : Nat) (cd : Int32) (n : Nat) (K M : Nat → Nat) (TT : Nat → Int32) (VV CC : Nat → Int64) (OO : Nat → Nat) (b : Nat) (S J : Nat → Nat) (RR : Nat → Bool) (w1 w2 w3 w4 : Int32) (SF SM FD : Nat → Nat) (hn : n ≤ 12) (hM : ∀ j, j < n → M j ≤ 64) (j : Nat) (hjj : j < n) : Met l yX4_summed wsX4_summed (rmL 0) (va_Pc [.ref m0, .int (nI j), .int (nI 1)] (zW E (mW E m0 k0 q0 t0 v0 c0 o0 s0 j0 r0 f0 g0 h0 cd n K M TT VV CC OO b S J RR w1 w2 w3 w4 SF SM FD))) (vp_Sl (fun r9 => r9 = sumQ (vw VV j) (M j))) 0 0 (fun _ => False) := by
  refine z_ofRl (cc := cX4_summed) (maxL := 6) (own := RX4) (by decide) rfl rfl (Nat.le_of_ble_eq_true rfl) ?_
  intro p e s m args below meth c R Q B hP ret ls hl
  obtain ⟨hx, hb, hml, hown, hts, hK, hRf, hRl⟩ := B
  have hiX4 : ∀ w ∈ wsX40, w ∈ wsX4_summed := by decide +kernel
  have hf13 := hts (.fieldLink RX4 13 "ExactFoldsModel" "many" "[I") (by decide +kernel)
  have hf19 := hts (.fieldLink RX4 19 "ExactFoldsModel" "values" "[J") (by decide +kernel)
  have hl : lv_has ls 6 [(0, .ref m0), (1, .int (nI j)), (2, .int (nI 1))] := hl
  have hMj := hM j hjj
  refine lv_lconst (v := 0) hx hb dX4_summed_0 rfl ?_
  refine lv_lstore_n (lv' := [(3, .long 0), (0, .ref m0), (1, .int (nI j)), (2, .int (nI 1))]) hx hb dX4_summed_1 rfl hl (by decide) rfl (fun ls hl => ?_)
  refine lv_bipush (v := nI 64) hx hb dX4_summed_2 (by decide) ?_
  refine lv_iload_n hx hb dX4_summed_4 rfl (lv_at hl 2 rfl) ?_
  refine zn_imul hx hb dX4_summed_5 ?_
  refine lv_istore (lv' := [(5, .int (nI (64 * j))), (3, .long 0), (0, .ref m0), (1, .int (nI j)), (2, .int (nI 1))]) hx hb dX4_summed_6 hl (by decide) rfl (fun ls hl => ?_)
  have lp : ∀ (fu : Nat) (i : Nat) (ls : Array Slot), M j - i < fu → (i ≤ M j) → lv_has ls 6 [(0, .ref m0), (1, .int (nI j)), (2, .int (nI 1)), (3, .long (sumQ (vw VV j) i)), (5, .int (nI (64 * j + i)))] → W p l e R s m args below meth c s.heap [] 0 0 Q (F0 m 8 ls []) := by
    intro fu
    induction fu with
    | zero => intros; exact absurd (by assumption) (Nat.not_lt_zero _)
    | succ fu ihlp =>
      intro i ls hfu hi hl
      refine lv_iload hx hb dX4_summed_8 (lv_at hl 4 rfl) ?_
      refine lv_bipush (v := nI 64) hx hb dX4_summed_10 (by decide) ?_
      refine lv_iload_n hx hb dX4_summed_12 rfl (lv_at hl 1 rfl) ?_
      refine zn_imul hx hb dX4_summed_13 ?_
      refine lv_aload_n hx hb dX4_summed_14 rfl (lv_at hl 0 rfl) ?_
      refine va_get (D := E.1) (ci := 5) (C := RX4) (T := TX4) (N := 19) hx hb hts hiX4 hown hK.1 hP 0 rfl rfl 3 (by decide) hf13 (fun _ h9 => h9) rfl dX4_summed_15 ?_
      refine lv_iload_n hx hb dX4_summed_18 rfl (lv_at hl 1 rfl) ?_
      refine zn_iald hx hb hK.1 hP 2 0 rfl rfl (by omega) (by decide) dX4_summed_19 ?_
      refine zn_iadd hx hb dX4_summed_20 ?_
      refine zn_icmp_ge (tgt := 62) hx hb dX4_summed_21 (by decide) (by omega) (by omega) (fun c_1 => ?_) (fun c_1 => ?_)
      · obtain rfl : i = M j := by omega
        refine lv_lload_n hx hb dX4_summed_62 rfl (lv_at hl 3 rfl) ?_
        exact z_retl (rfl) (ret _ _ dX4_summed_63)
      · refine lv_lload_n hx hb dX4_summed_24 rfl (lv_at hl 3 rfl) ?_
        refine lv_iload_n hx hb dX4_summed_25 rfl (lv_at hl 2 rfl) ?_
        refine zn_if_eq (tgt := 47) hx hb dX4_summed_26 (by decide) (by decide) (fun h => absurd h (by decide)) (fun _ => ?_)
        refine lv_aload_n hx hb dX4_summed_29 rfl (lv_at hl 0 rfl) ?_
        refine va_get (D := E.1) (ci := 5) (C := RX4) (T := TX4) (N := 19) hx hb hts hiX4 hown hK.1 hP 0 rfl rfl 5 (by decide) hf19 (fun _ h9 => h9) rfl dX4_summed_30 ?_
        refine lv_iload hx hb dX4_summed_33 (lv_at hl 4 rfl) ?_
        refine zn_lald hx hb hK.1 hP 4 1 rfl rfl (by omega) (by decide) dX4_summed_35 ?_
        refine lv_aload_n hx hb dX4_summed_36 rfl (lv_at hl 0 rfl) ?_
        refine va_get (D := E.1) (ci := 5) (C := RX4) (T := TX4) (N := 19) hx hb hts hiX4 hown hK.1 hP 0 rfl rfl 5 (by decide) hf19 (fun _ h9 => h9) rfl dX4_summed_37 ?_
        refine lv_iload hx hb dX4_summed_40 (lv_at hl 4 rfl) ?_
        refine zn_lald hx hb hK.1 hP 4 1 rfl rfl (by omega) (by decide) dX4_summed_42 ?_
        refine lv_lmul hx hb dX4_summed_43 ?_
        refine lv_goto (tgt := 54) hx hb dX4_summed_44 (by decide) ?_
        refine lv_ladd hx hb dX4_summed_54 ?_
        refine lv_lstore_n (lv' := [(3, .long ((sumQ (vw VV j) i) + ((VV (64 * j + i)) * (VV (64 * j + i))))), (0, .ref m0), (1, .int (nI j)), (2, .int (nI 1)), (5, .int (nI (64 * j + i)))]) hx hb dX4_summed_55 rfl hl (by decide) rfl (fun ls hl => ?_)
        refine lv_iinc (v := nI (64 * j + i + 1)) (lv' := [(5, .int (nI (64 * j + i + 1))), (3, .long ((sumQ (vw VV j) i) + ((VV (64 * j + i)) * (VV (64 * j + i))))), (0, .ref m0), (1, .int (nI j)), (2, .int (nI 1))]) hx hb dX4_summed_56 hl (k := 4) rfl (z_inc _ 1) (by decide) rfl (fun ls hl => ?_)
        refine lv_goto (tgt := 8) hx hb dX4_summed_59 (by decide) ?_
        exact ihlp (i + 1) ls (by omega) (by omega) (lv_sub hl [2, 3, 4, 1, 0] rfl)
  exact lp _ 0 ls (Nat.lt_succ_self _) (Nat.zero_le _) (lv_sub hl [2, 3, 4, 1, 0] rfl)
set_option maxHeartbeats 4000000 in
set_option maxRecDepth 100000 in
theorem kX4_mean (l : Launch) (E : zE) (sz : Nat) (m0 k0 q0 t0 v0 c0 o0 s0 j0 r0 f0 g0 h0 : Nat) (cd : Int32) (n : Nat) (K M : Nat → Nat) (TT : Nat → Int32) (VV CC : Nat → Int64) (OO : Nat → Nat) (b : Nat) (S J : Nat → Nat) (RR : Nat → Bool) (w1 w2 w3 w4 : Int32) (SF SM FD : Nat → Nat) (hn : n ≤ 12) (hM : ∀ j, j < n → M j ≤ 64) (hK5 : ∀ j, j < n → K j < 5) (hsp : ∀ j, j < n → K j = 2 → isSp (vw VV j) (M j)) (f w : Int32) : Met l yX4_mean wsX4_mean (rmL 2) (va_Pc [.ref m0, .int f, .int w] (zS E (mW E m0 k0 q0 t0 v0 c0 o0 s0 j0 r0 f0 g0 h0 cd n K M TT VV CC OO b S J RR w1 w2 w3 w4 SF SM FD) sz)) (va_Ql (fun (r9 : Int64) (_ : Unit) => r9 = mnA n K M (vw VV) f w) (fun _ t9 => zW E (mW E m0 k0 q0 t0 v0 c0 o0 s0 j0 r0 f0 g0 h0 (mnC n K M f w) n K M TT VV CC OO b S J RR w1 w2 w3 w4 SF SM FD) t9) (va_A (mW E m0 k0 q0 t0 v0 c0 o0 s0 j0 r0 f0 g0 h0 cd n K M TT VV CC OO b S J RR w1 w2 w3 w4 SF SM FD) sz)) 0 0 (va_A (mW E m0 k0 q0 t0 v0 c0 o0 s0 j0 r0 f0 g0 h0 cd n K M TT VV CC OO b S J RR w1 w2 w3 w4 SF SM FD) sz) := by
  refine z_ofWl (cc := cX4_mean) (maxL := 3) (own := RX4) (by decide) rfl rfl (Nat.le_of_ble_eq_true rfl) ?_
  intro p e s m args below meth c R Q A B hP hD hA ret ls hl
  obtain ⟨hx, hb, hml, hown, hts, hK, hRf, hRl⟩ := B
  have hiX4 : ∀ w ∈ wsX40, w ∈ wsX4_mean := by decide +kernel
  have hf13 := hts (.fieldLink RX4 13 "ExactFoldsModel" "many" "[I") (by decide +kernel)
  have hf52 := hts (.fieldLink RX4 52 "ExactFoldsModel" "code" "I") (by decide +kernel)
  have hS : va_S A s.heap s.heap [] := va_S.rf
  have hl : lv_has ls 3 [(0, .ref m0), (1, .int f), (2, .int w)] := hl
  refine lv_aload_n hx hb dX4_mean_0 rfl (lv_at hl 0 rfl) ?_
  refine lv_iconst (v := nI 0) hx hb dX4_mean_1 (by decide) ?_
  refine va_put (D := E.1) (ci := 5) (v := .int (nI 0)) (ty := .int) (C := RX4) (T := TX4) (N := 19) hx hb hts hiX4 tyX4 tyX4_ok nmX4 hown hK.1 hP hD hS 0 rfl rfl 0 (by decide) hf52 (fun _ h9 => h9) rfl (by decide +kernel) rfl rfl (Nat.le_of_ble_eq_true rfl) dX4_mean_2 (fun H locs hP hD hS => ?_)
  have hP : va_P E.1 vwCl (mW E m0 k0 q0 t0 v0 c0 o0 s0 j0 r0 f0 g0 h0 (nI 0) n K M TT VV CC OO b S J RR w1 w2 w3 w4 SF SM FD) H := hP
  have hD : va_D A (mW E m0 k0 q0 t0 v0 c0 o0 s0 j0 r0 f0 g0 h0 (nI 0) n K M TT VV CC OO b S J RR w1 w2 w3 w4 SF SM FD) := hD
  refine lv_aload_n hx hb dX4_mean_5 rfl (lv_at hl 0 rfl) ?_
  refine lv_iload_n hx hb dX4_mean_6 rfl (lv_at hl 1 rfl) ?_
  refine lv_iconst (v := nI 2) hx hb dX4_mean_7 (by decide) ?_
  refine zc_i (W.runV ⟨hx, hb, hml, hown, hts⟩ (kX4_isOf l E m0 k0 q0 t0 v0 c0 o0 s0 j0 r0 f0 g0 h0 (nI 0) n K M TT VV CC OO b S J RR w1 w2 w3 w4 SF SM FD hn hK5 f 2 (by decide)) (cwV 2 hts gX4_mean_X4_isOf rfl rfl rfl (by decide +kernel) ⟨Nat.le_trans (Nat.le_of_ble_eq_true rfl) hRf, Nat.le_trans (Nat.le_of_ble_eq_true rfl) hRl⟩) (z_preV (As := [.int f, .int (nI 2)]) hP hK 0 rfl rfl) rfl rfl hl.1 rfl (lv_room (Nat.le_of_ble_eq_true rfl)) dX4_mean_8 ⟨Nat.zero_le _, Nat.zero_le _⟩) ?_
  refine zb_if_eq (tgt := 24) hx hb dX4_mean_11 (by decide) (fun c_1 => ?_) (fun c_1 => ?_)
  · have hfij := fk_none c_1
    refine lv_ldc2 (v := (-9223372036854775808)) hx hb hown (hts (.constantLong RX4 131 (-9223372036854775808)) (by decide +kernel)) dX4_mean_24 ?_
    exact z_retl (by unfold mnA; rw [hfij]; rfl) (ret _ _ _ _ (by rw [show mnC n K M f w = nI 0 from by unfold mnC; rw [hfij]; rfl]; exact hP) hS dX4_mean_27)
  · obtain ⟨j, hjj, rfl, hkdj, hfij⟩ := fk_some (by omega) c_1
    have hMj := hM j hjj
    have hKj := hK5 j hjj
    refine lv_iload_n hx hb dX4_mean_14 rfl (lv_at hl 2 rfl) ?_
    refine lv_i2l hx hb dX4_mean_15 rfl ?_
    refine lv_lconst (v := 0) hx hb dX4_mean_16 rfl ?_
    refine lv_lconst (v := 1) hx hb dX4_mean_17 rfl ?_
    refine zc_i (W.runS ⟨hx, hb, hml, hown, hts⟩ (kX4_in l E w.toInt64 0 1) (cwS 3 hts gX4_mean_X4_in rfl rfl rfl (by decide +kernel) ⟨Nat.le_trans (Nat.le_of_ble_eq_true rfl) hRf, Nat.le_trans (Nat.le_of_ble_eq_true rfl) hRl⟩) (z_preR (av := [.long w.toInt64, .long 0, .long 1]) (hP.sub (ws' := []) [] rfl) hK) rfl rfl hl.1 rfl (lv_room (Nat.le_of_ble_eq_true rfl)) dX4_mean_18 ⟨Nat.zero_le _, Nat.zero_le _⟩) ?_
    refine zb_if_ne (tgt := 28) hx hb dX4_mean_21 (by decide) (fun c_2 => ?_) (fun c_2 => ?_)
    · refine lv_aload_n hx hb dX4_mean_28 rfl (lv_at hl 0 rfl) ?_
      refine va_get (D := E.1) (ci := 5) (C := RX4) (T := TX4) (N := 19) hx hb hts hiX4 hown hK.1 hP 0 rfl rfl 3 (by decide) hf13 (fun _ h9 => h9) rfl dX4_mean_29 ?_
      refine lv_iload_n hx hb dX4_mean_32 rfl (lv_at hl 1 rfl) ?_
      refine zn_iald hx hb hK.1 hP 2 0 rfl rfl (by omega) (by decide) dX4_mean_33 ?_
      refine zn_if_ne (tgt := 44) hx hb dX4_mean_34 (by decide) (by omega) (fun c_3 => ?_) (fun c_3 => ?_)
      · have hspj := hsp j hjj hkdj
        refine lv_aload_n hx hb dX4_mean_44 rfl (lv_at hl 0 rfl) ?_
        refine lv_iload_n hx hb dX4_mean_45 rfl (lv_at hl 1 rfl) ?_
        refine lv_iconst (v := nI 0) hx hb dX4_mean_46 (by decide) ?_
        refine zc_l (W.runV ⟨hx, hb, hml, hown, hts⟩ (kX4_summed0 l E m0 k0 q0 t0 v0 c0 o0 s0 j0 r0 f0 g0 h0 (nI 0) n K M TT VV CC OO b S J RR w1 w2 w3 w4 SF SM FD hn hM j hjj) (cwV 2 hts gX4_mean_X4_summed rfl rfl rfl (by decide +kernel) ⟨Nat.le_trans (Nat.le_of_ble_eq_true rfl) hRf, Nat.le_trans (Nat.le_of_ble_eq_true rfl) hRl⟩) (z_preV (As := [.int (nI j), .int (nI 0)]) hP hK 0 rfl rfl) rfl rfl hl.1 rfl (lv_room (Nat.le_of_ble_eq_true rfl)) dX4_mean_47 ⟨Nat.zero_le _, Nat.zero_le _⟩) ?_
        refine lv_aload_n hx hb dX4_mean_50 rfl (lv_at hl 0 rfl) ?_
        refine va_get (D := E.1) (ci := 5) (C := RX4) (T := TX4) (N := 19) hx hb hts hiX4 hown hK.1 hP 0 rfl rfl 3 (by decide) hf13 (fun _ h9 => h9) rfl dX4_mean_51 ?_
        refine lv_iload_n hx hb dX4_mean_54 rfl (lv_at hl 1 rfl) ?_
        refine zn_iald hx hb hK.1 hP 2 0 rfl rfl (by omega) (by decide) dX4_mean_55 ?_
        refine lv_i2l (v := lN (M j)) hx hb dX4_mean_56 (nI_l (by omega)) ?_
        refine lv_iload_n hx hb dX4_mean_57 rfl (lv_at hl 2 rfl) ?_
        refine zc_l (W.runS ⟨hx, hb, hml, hown, hts⟩ (kX4_part l E (sumV (vw VV j) (M j)) (M j) w (sumV_ne hMj hspj) (by omega) (by omega)) (cwS 3 hts gX4_mean_X4_part rfl rfl rfl (by decide +kernel) ⟨Nat.le_trans (Nat.le_of_ble_eq_true rfl) hRf, Nat.le_trans (Nat.le_of_ble_eq_true rfl) hRl⟩) (z_preR (av := [.long (sumV (vw VV j) (M j)), .long (lN (M j)), .int w]) (hP.sub (ws' := []) [] rfl) hK) rfl rfl hl.1 rfl (lv_room (Nat.le_of_ble_eq_true rfl)) dX4_mean_58 ⟨Nat.zero_le _, Nat.zero_le _⟩) ?_
        exact z_retl (by unfold mnA; rw [hfij]; show _ = (if w < 0 ∨ nI 1 < w then (-9223372036854775808) else if M j = 0 then 0 else pof (sumV (vw VV j) (M j)) (M j) w); rw [if_neg (inw1_t c_2), if_neg c_3]) (ret _ _ _ _ (by rw [show mnC n K M (nI j) w = nI 0 from by unfold mnC; rw [hfij]; show (if w < 0 ∨ nI 1 < w then nI 0 else if M j = 0 then nI 1 else nI 0) = _; rw [if_neg (inw1_t c_2), if_neg c_3]]; exact hP) hS dX4_mean_61)
      · refine lv_aload_n hx hb dX4_mean_37 rfl (lv_at hl 0 rfl) ?_
        refine lv_iconst (v := nI 1) hx hb dX4_mean_38 (by decide) ?_
        refine va_put (D := E.1) (ci := 5) (v := .int (nI 1)) (ty := .int) (C := RX4) (T := TX4) (N := 19) hx hb hts hiX4 tyX4 tyX4_ok nmX4 hown hK.1 hP hD hS 0 rfl rfl 0 (by decide) hf52 (fun _ h9 => h9) rfl (by decide +kernel) rfl rfl (Nat.le_of_ble_eq_true rfl) dX4_mean_39 (fun H locs hP hD hS => ?_)
        have hP : va_P E.1 vwCl (mW E m0 k0 q0 t0 v0 c0 o0 s0 j0 r0 f0 g0 h0 (nI 1) n K M TT VV CC OO b S J RR w1 w2 w3 w4 SF SM FD) H := hP
        have hD : va_D A (mW E m0 k0 q0 t0 v0 c0 o0 s0 j0 r0 f0 g0 h0 (nI 1) n K M TT VV CC OO b S J RR w1 w2 w3 w4 SF SM FD) := hD
        refine lv_lconst (v := 0) hx hb dX4_mean_42 rfl ?_
        exact z_retl (by unfold mnA; rw [hfij]; show _ = (if w < 0 ∨ nI 1 < w then (-9223372036854775808) else if M j = 0 then 0 else pof (sumV (vw VV j) (M j)) (M j) w); rw [if_neg (inw1_t c_2), if_pos c_3]) (ret _ _ _ _ (by rw [show mnC n K M (nI j) w = nI 1 from by unfold mnC; rw [hfij]; show (if w < 0 ∨ nI 1 < w then nI 0 else if M j = 0 then nI 1 else nI 0) = _; rw [if_neg (inw1_t c_2), if_pos c_3]]; exact hP) hS dX4_mean_43)
    · refine lv_ldc2 (v := (-9223372036854775808)) hx hb hown (hts (.constantLong RX4 131 (-9223372036854775808)) (by decide +kernel)) dX4_mean_24 ?_
      exact z_retl (by unfold mnA; rw [hfij]; show _ = (if w < 0 ∨ nI 1 < w then (-9223372036854775808) else if M j = 0 then 0 else pof (sumV (vw VV j) (M j)) (M j) w); rw [if_pos (inw1_f c_2)]) (ret _ _ _ _ (by rw [show mnC n K M (nI j) w = nI 0 from by unfold mnC; rw [hfij]; show (if w < 0 ∨ nI 1 < w then nI 0 else if M j = 0 then nI 1 else nI 0) = _; rw [if_pos (inw1_f c_2)]]; exact hP) hS dX4_mean_27)
set_option maxHeartbeats 4000000 in
set_option maxRecDepth 100000 in
theorem kX4_spread (l : Launch) (E : zE) (sz : Nat) (m0 k0 q0 t0 v0 c0 o0 s0 j0 r0 f0 g0 h0 : Nat) (cd : Int32) (n : Nat) (K M : Nat → Nat) (TT : Nat → Int32) (VV CC : Nat → Int64) (OO : Nat → Nat) (b : Nat) (S J : Nat → Nat) (RR : Nat → Bool) (w1 w2 w3 w4 : Int32) (SF SM FD : Nat → Nat) (hn : n ≤ 12) (hM : ∀ j, j < n → M j ≤ 64) (hK5 : ∀ j, j < n → K j < 5) (hsp : ∀ j, j < n → K j = 2 → isSp (vw VV j) (M j)) (f w : Int32) : Met l yX4_spread wsX4_spread (rmL 2) (va_Pc [.ref m0, .int f, .int w] (zS E (mW E m0 k0 q0 t0 v0 c0 o0 s0 j0 r0 f0 g0 h0 cd n K M TT VV CC OO b S J RR w1 w2 w3 w4 SF SM FD) sz)) (va_Ql (fun (r9 : Int64) (_ : Unit) => r9 = sdA n K M (vw VV) f w) (fun _ t9 => zW E (mW E m0 k0 q0 t0 v0 c0 o0 s0 j0 r0 f0 g0 h0 (mnC n K M f w) n K M TT VV CC OO b S J RR w1 w2 w3 w4 SF SM FD) t9) (va_A (mW E m0 k0 q0 t0 v0 c0 o0 s0 j0 r0 f0 g0 h0 cd n K M TT VV CC OO b S J RR w1 w2 w3 w4 SF SM FD) sz)) 0 0 (va_A (mW E m0 k0 q0 t0 v0 c0 o0 s0 j0 r0 f0 g0 h0 cd n K M TT VV CC OO b S J RR w1 w2 w3 w4 SF SM FD) sz) := by
  refine z_ofWl (cc := cX4_spread) (maxL := 7) (own := RX4) (by decide) rfl rfl (Nat.le_of_ble_eq_true rfl) ?_
  intro p e s m args below meth c R Q A B hP hD hA ret ls hl
  obtain ⟨hx, hb, hml, hown, hts, hK, hRf, hRl⟩ := B
  have hiX4 : ∀ w ∈ wsX40, w ∈ wsX4_spread := by decide +kernel
  have hf13 := hts (.fieldLink RX4 13 "ExactFoldsModel" "many" "[I") (by decide +kernel)
  have hf52 := hts (.fieldLink RX4 52 "ExactFoldsModel" "code" "I") (by decide +kernel)
  have hS : va_S A s.heap s.heap [] := va_S.rf
  have hl : lv_has ls 7 [(0, .ref m0), (1, .int f), (2, .int w)] := hl
  refine lv_aload_n hx hb dX4_spread_0 rfl (lv_at hl 0 rfl) ?_
  refine lv_iconst (v := nI 0) hx hb dX4_spread_1 (by decide) ?_
  refine va_put (D := E.1) (ci := 5) (v := .int (nI 0)) (ty := .int) (C := RX4) (T := TX4) (N := 19) hx hb hts hiX4 tyX4 tyX4_ok nmX4 hown hK.1 hP hD hS 0 rfl rfl 0 (by decide) hf52 (fun _ h9 => h9) rfl (by decide +kernel) rfl rfl (Nat.le_of_ble_eq_true rfl) dX4_spread_2 (fun H locs hP hD hS => ?_)
  have hP : va_P E.1 vwCl (mW E m0 k0 q0 t0 v0 c0 o0 s0 j0 r0 f0 g0 h0 (nI 0) n K M TT VV CC OO b S J RR w1 w2 w3 w4 SF SM FD) H := hP
  have hD : va_D A (mW E m0 k0 q0 t0 v0 c0 o0 s0 j0 r0 f0 g0 h0 (nI 0) n K M TT VV CC OO b S J RR w1 w2 w3 w4 SF SM FD) := hD
  refine lv_aload_n hx hb dX4_spread_5 rfl (lv_at hl 0 rfl) ?_
  refine lv_iload_n hx hb dX4_spread_6 rfl (lv_at hl 1 rfl) ?_
  refine lv_iconst (v := nI 2) hx hb dX4_spread_7 (by decide) ?_
  refine zc_i (W.runV ⟨hx, hb, hml, hown, hts⟩ (kX4_isOf l E m0 k0 q0 t0 v0 c0 o0 s0 j0 r0 f0 g0 h0 (nI 0) n K M TT VV CC OO b S J RR w1 w2 w3 w4 SF SM FD hn hK5 f 2 (by decide)) (cwV 2 hts gX4_spread_X4_isOf rfl rfl rfl (by decide +kernel) ⟨Nat.le_trans (Nat.le_of_ble_eq_true rfl) hRf, Nat.le_trans (Nat.le_of_ble_eq_true rfl) hRl⟩) (z_preV (As := [.int f, .int (nI 2)]) hP hK 0 rfl rfl) rfl rfl hl.1 rfl (lv_room (Nat.le_of_ble_eq_true rfl)) dX4_spread_8 ⟨Nat.zero_le _, Nat.zero_le _⟩) ?_
  refine zb_if_eq (tgt := 24) hx hb dX4_spread_11 (by decide) (fun c_1 => ?_) (fun c_1 => ?_)
  · have hfij := fk_none c_1
    refine lv_ldc2 (v := (-9223372036854775808)) hx hb hown (hts (.constantLong RX4 131 (-9223372036854775808)) (by decide +kernel)) dX4_spread_24 ?_
    exact z_retl (by unfold sdA; rw [hfij]; rfl) (ret _ _ _ _ (by rw [show mnC n K M f w = nI 0 from by unfold mnC; rw [hfij]; rfl]; exact hP) hS dX4_spread_27)
  · obtain ⟨j, hjj, rfl, hkdj, hfij⟩ := fk_some (by omega) c_1
    have hMj := hM j hjj
    have hKj := hK5 j hjj
    refine lv_iload_n hx hb dX4_spread_14 rfl (lv_at hl 2 rfl) ?_
    refine lv_i2l hx hb dX4_spread_15 rfl ?_
    refine lv_lconst (v := 0) hx hb dX4_spread_16 rfl ?_
    refine lv_lconst (v := 1) hx hb dX4_spread_17 rfl ?_
    refine zc_i (W.runS ⟨hx, hb, hml, hown, hts⟩ (kX4_in l E w.toInt64 0 1) (cwS 3 hts gX4_spread_X4_in rfl rfl rfl (by decide +kernel) ⟨Nat.le_trans (Nat.le_of_ble_eq_true rfl) hRf, Nat.le_trans (Nat.le_of_ble_eq_true rfl) hRl⟩) (z_preR (av := [.long w.toInt64, .long 0, .long 1]) (hP.sub (ws' := []) [] rfl) hK) rfl rfl hl.1 rfl (lv_room (Nat.le_of_ble_eq_true rfl)) dX4_spread_18 ⟨Nat.zero_le _, Nat.zero_le _⟩) ?_
    refine zb_if_ne (tgt := 28) hx hb dX4_spread_21 (by decide) (fun c_2 => ?_) (fun c_2 => ?_)
    · refine lv_aload_n hx hb dX4_spread_28 rfl (lv_at hl 0 rfl) ?_
      refine va_get (D := E.1) (ci := 5) (C := RX4) (T := TX4) (N := 19) hx hb hts hiX4 hown hK.1 hP 0 rfl rfl 3 (by decide) hf13 (fun _ h9 => h9) rfl dX4_spread_29 ?_
      refine lv_iload_n hx hb dX4_spread_32 rfl (lv_at hl 1 rfl) ?_
      refine zn_iald hx hb hK.1 hP 2 0 rfl rfl (by omega) (by decide) dX4_spread_33 ?_
      refine zn_if_ne (tgt := 44) hx hb dX4_spread_34 (by decide) (by omega) (fun c_3 => ?_) (fun c_3 => ?_)
      · have hspj := hsp j hjj hkdj
        refine lv_aload_n hx hb dX4_spread_44 rfl (lv_at hl 0 rfl) ?_
        refine va_get (D := E.1) (ci := 5) (C := RX4) (T := TX4) (N := 19) hx hb hts hiX4 hown hK.1 hP 0 rfl rfl 3 (by decide) hf13 (fun _ h9 => h9) rfl dX4_spread_45 ?_
        refine lv_iload_n hx hb dX4_spread_48 rfl (lv_at hl 1 rfl) ?_
        refine zn_iald hx hb hK.1 hP 2 0 rfl rfl (by omega) (by decide) dX4_spread_49 ?_
        refine lv_i2l (v := lN (M j)) hx hb dX4_spread_50 (nI_l (by omega)) ?_
        refine lv_lstore_n (lv' := [(3, .long (lN (M j))), (0, .ref m0), (1, .int (nI j)), (2, .int w)]) hx hb dX4_spread_51 rfl hl (by decide) rfl (fun ls hl => ?_)
        refine lv_aload_n hx hb dX4_spread_52 rfl (lv_at hl 1 rfl) ?_
        refine lv_iload_n hx hb dX4_spread_53 rfl (lv_at hl 2 rfl) ?_
        refine lv_iconst (v := nI 0) hx hb dX4_spread_54 (by decide) ?_
        refine zc_l (W.runV ⟨hx, hb, hml, hown, hts⟩ (kX4_summed0 l E m0 k0 q0 t0 v0 c0 o0 s0 j0 r0 f0 g0 h0 (nI 0) n K M TT VV CC OO b S J RR w1 w2 w3 w4 SF SM FD hn hM j hjj) (cwV 2 hts gX4_spread_X4_summed rfl rfl rfl (by decide +kernel) ⟨Nat.le_trans (Nat.le_of_ble_eq_true rfl) hRf, Nat.le_trans (Nat.le_of_ble_eq_true rfl) hRl⟩) (z_preV (As := [.int (nI j), .int (nI 0)]) hP hK 0 rfl rfl) rfl rfl hl.1 rfl (lv_room (Nat.le_of_ble_eq_true rfl)) dX4_spread_55 ⟨Nat.zero_le _, Nat.zero_le _⟩) ?_
        refine lv_lstore (lv' := [(5, .long (sumV (vw VV j) (M j))), (3, .long (lN (M j))), (0, .ref m0), (1, .int (nI j)), (2, .int w)]) hx hb dX4_spread_58 hl (by decide) rfl (fun ls hl => ?_)
        refine lv_lload_n hx hb dX4_spread_60 rfl (lv_at hl 1 rfl) ?_
        refine lv_aload_n hx hb dX4_spread_61 rfl (lv_at hl 2 rfl) ?_
        refine lv_iload_n hx hb dX4_spread_62 rfl (lv_at hl 3 rfl) ?_
        refine lv_iconst (v := nI 1) hx hb dX4_spread_63 (by decide) ?_
        refine zc_l (W.runV ⟨hx, hb, hml, hown, hts⟩ (kX4_summed1 l E m0 k0 q0 t0 v0 c0 o0 s0 j0 r0 f0 g0 h0 (nI 0) n K M TT VV CC OO b S J RR w1 w2 w3 w4 SF SM FD hn hM j hjj) (cwV 2 hts gX4_spread_X4_summed rfl rfl rfl (by decide +kernel) ⟨Nat.le_trans (Nat.le_of_ble_eq_true rfl) hRf, Nat.le_trans (Nat.le_of_ble_eq_true rfl) hRl⟩) (z_preV (As := [.int (nI j), .int (nI 1)]) hP hK 0 rfl rfl) rfl rfl hl.1 rfl (lv_room (Nat.le_of_ble_eq_true rfl)) dX4_spread_64 ⟨Nat.zero_le _, Nat.zero_le _⟩) ?_
        refine lv_lmul hx hb dX4_spread_67 ?_
        refine lv_lload hx hb dX4_spread_68 (lv_at hl 0 rfl) ?_
        refine lv_lload hx hb dX4_spread_70 (lv_at hl 0 rfl) ?_
        refine lv_lmul hx hb dX4_spread_72 ?_
        refine lv_lsub hx hb dX4_spread_73 ?_
        refine lv_lload_n hx hb dX4_spread_74 rfl (lv_at hl 1 rfl) ?_
        refine lv_lload_n hx hb dX4_spread_75 rfl (lv_at hl 1 rfl) ?_
        refine lv_lmul hx hb dX4_spread_76 ?_
        refine W.eq (g2 := F0 m 77 ls ([.long (lN (M j * M j)), .long (((lN (M j)) * (sumQ (vw VV j) (M j))) - ((sumV (vw VV j) (M j)) * (sumV (vw VV j) (M j))))])) (by rw [show ((lN (M j)) * (lN (M j)) : Int64) = lN (M j * M j) from lN_mul (M j) (M j)]) ?_
        refine lv_iload_n hx hb dX4_spread_77 rfl (lv_at hl 4 rfl) ?_
        refine zc_l (W.runS ⟨hx, hb, hml, hown, hts⟩ (kX4_part l E (spU (vw VV j) (M j)) (M j * M j) w (spU_ne hMj hspj) (Nat.le_trans (Nat.mul_le_mul hMj hMj) (by decide)) (Nat.mul_pos (by omega) (by omega))) (cwS 3 hts gX4_spread_X4_part rfl rfl rfl (by decide +kernel) ⟨Nat.le_trans (Nat.le_of_ble_eq_true rfl) hRf, Nat.le_trans (Nat.le_of_ble_eq_true rfl) hRl⟩) (z_preR (av := [.long (((lN (M j)) * (sumQ (vw VV j) (M j))) - ((sumV (vw VV j) (M j)) * (sumV (vw VV j) (M j)))), .long (lN (M j * M j)), .int w]) (hP.sub (ws' := []) [] rfl) hK) rfl rfl hl.1 rfl (lv_room (Nat.le_of_ble_eq_true rfl)) dX4_spread_78 ⟨Nat.zero_le _, Nat.zero_le _⟩) ?_
        exact z_retl (by unfold sdA; rw [hfij]; show _ = (if w < 0 ∨ nI 1 < w then (-9223372036854775808) else if M j = 0 then 0 else pof (spU (vw VV j) (M j)) (M j * M j) w); rw [if_neg (inw1_t c_2), if_neg c_3]) (ret _ _ _ _ (by rw [show mnC n K M (nI j) w = nI 0 from by unfold mnC; rw [hfij]; show (if w < 0 ∨ nI 1 < w then nI 0 else if M j = 0 then nI 1 else nI 0) = _; rw [if_neg (inw1_t c_2), if_neg c_3]]; exact hP) hS dX4_spread_81)
      · refine lv_aload_n hx hb dX4_spread_37 rfl (lv_at hl 0 rfl) ?_
        refine lv_iconst (v := nI 1) hx hb dX4_spread_38 (by decide) ?_
        refine va_put (D := E.1) (ci := 5) (v := .int (nI 1)) (ty := .int) (C := RX4) (T := TX4) (N := 19) hx hb hts hiX4 tyX4 tyX4_ok nmX4 hown hK.1 hP hD hS 0 rfl rfl 0 (by decide) hf52 (fun _ h9 => h9) rfl (by decide +kernel) rfl rfl (Nat.le_of_ble_eq_true rfl) dX4_spread_39 (fun H locs hP hD hS => ?_)
        have hP : va_P E.1 vwCl (mW E m0 k0 q0 t0 v0 c0 o0 s0 j0 r0 f0 g0 h0 (nI 1) n K M TT VV CC OO b S J RR w1 w2 w3 w4 SF SM FD) H := hP
        have hD : va_D A (mW E m0 k0 q0 t0 v0 c0 o0 s0 j0 r0 f0 g0 h0 (nI 1) n K M TT VV CC OO b S J RR w1 w2 w3 w4 SF SM FD) := hD
        refine lv_lconst (v := 0) hx hb dX4_spread_42 rfl ?_
        exact z_retl (by unfold sdA; rw [hfij]; show _ = (if w < 0 ∨ nI 1 < w then (-9223372036854775808) else if M j = 0 then 0 else pof (spU (vw VV j) (M j)) (M j * M j) w); rw [if_neg (inw1_t c_2), if_pos c_3]) (ret _ _ _ _ (by rw [show mnC n K M (nI j) w = nI 1 from by unfold mnC; rw [hfij]; show (if w < 0 ∨ nI 1 < w then nI 0 else if M j = 0 then nI 1 else nI 0) = _; rw [if_neg (inw1_t c_2), if_pos c_3]]; exact hP) hS dX4_spread_43)
    · refine lv_ldc2 (v := (-9223372036854775808)) hx hb hown (hts (.constantLong RX4 131 (-9223372036854775808)) (by decide +kernel)) dX4_spread_24 ?_
      exact z_retl (by unfold sdA; rw [hfij]; show _ = (if w < 0 ∨ nI 1 < w then (-9223372036854775808) else if M j = 0 then 0 else pof (spU (vw VV j) (M j)) (M j * M j) w); rw [if_pos (inw1_f c_2)]) (ret _ _ _ _ (by rw [show mnC n K M (nI j) w = nI 0 from by unfold mnC; rw [hfij]; show (if w < 0 ∨ nI 1 < w then nI 0 else if M j = 0 then nI 1 else nI 0) = _; rw [if_pos (inw1_f c_2)]]; exact hP) hS dX4_spread_27)
