/-! The model: one object, twelve rows -/
def mW (E : zE) (m0 k0 q0 t0 v0 c0 o0 s0 j0 r0 f0 g0 h0 : Nat) (cd : Int32) (n : Nat) (K M : Nat → Nat) (TT : Nat → Int32) (VV CC : Nat → Int64) (OO : Nat → Nat) (b : Nat) (S J : Nat → Nat) (RR : Nat → Bool) (w1 w2 w3 w4 : Int32) (SF SM FD : Nat → Nat) : va_W := [(m0, .inr (5, [.int cd, .int (nI n), .ref k0, .ref q0, .ref t0, .ref v0, .ref c0, .ref o0, .int (nI b), .ref s0, .ref j0, .ref r0, .int w1, .int w2, .int w3, .int w4, .ref f0, .ref g0, .ref h0])), (k0, .inl (E.2.1, 12, .inl (fun j => nI (K j)))), (q0, .inl (E.2.1, 12, .inl (fun j => nI (M j)))), (t0, .inl (E.2.1, 768, .inl TT)), (v0, .inl (E.2.2.1, 768, .inr (.inl VV))), (c0, .inl (E.2.2.1, 70, .inr (.inl CC))), (o0, .inl (E.2.1, 64, .inl (fun j => nI (OO j)))), (s0, .inl (E.2.1, 32, .inl (fun j => nI (S j)))), (j0, .inl (E.2.1, 64, .inl (fun j => nI (J j)))), (r0, .inl (E.2.2.2.1, 8, .inl (fun j => bI (RR j)))), (f0, .inl (E.2.1, 140, .inl (fun j => nI (SF j)))), (g0, .inl (E.2.1, 140, .inl (fun j => nI (SM j)))), (h0, .inl (E.2.1, 140, .inl (fun j => nI (FD j))))]
/-- row i of fold j -/
def vw {α : Type} (X : Nat → α) (j : Nat) : Nat → α := fun i => X (64 * j + i)
theorem fd_some {n : Nat} {f : Int32} (hn : n < 2 ^ 31) (h : (fidx n f).isSome = true) : ∃ j : Nat, j < n ∧ f = nI j ∧ fidx n f = some j := by
  rcases fi_cases n f hn with q | q
  · rw [q] at h; cases h
  · exact q
theorem fd_none {n : Nat} {f : Int32} (h : (fidx n f).isSome = false) : fidx n f = none := by
  cases e : fidx n f with
  | none => rfl
  | some j => rw [e] at h; cases h
theorem fk_some {n : Nat} {K : Nat → Nat} {f : Int32} {k : Nat} (hn : n < 2 ^ 31) (h : (fok n K f k).isSome = true) : ∃ j : Nat, j < n ∧ f = nI j ∧ K j = k ∧ fok n K f k = some j := by
  rcases fok_cases n K f k hn with q | q
  · rw [q] at h; cases h
  · exact q
theorem fk_none {n : Nat} {K : Nat → Nat} {f : Int32} {k : Nat} (h : (fok n K f k).isSome = false) : fok n K f k = none := by
  cases e : fok n K f k with
  | none => rfl
  | some j => rw [e] at h; cases h
def inL (v a z : Int64) : Bool := decide (¬ v < a ∧ ¬ z < v)
def mVal (k : Nat) (v : Int64) : Bool := decide (k = 0 ∨ (k = 2 ∧ inL v (-1000000) 1000000 = true) ∨ (k = 3 ∧ inL v (-100000000000000000) 100000000000000000 = true) ∨ (k = 4 ∧ inL v 0 3 = true))
def mBits (v : Int64) : Int64 := if jshl v (nI 1) = 0 then 0 else v
def fdOk (n : Nat) (k : Int32) : Prop := ¬ k < 0 ∧ ¬ nI 4 < k ∧ n < 12
def fdA (n : Nat) (k : Int32) : Int32 := if k < 0 ∨ nI 4 < k then (-2) else if n = 12 then (-4) else nI n
noncomputable def fdN (n : Nat) (k : Int32) : Nat := @ite _ (fdOk n k) (Classical.propDecidable _) (n + 1) n
noncomputable def fdK (K : Nat → Nat) (n : Nat) (k : Int32) : Nat → Nat := @ite _ (fdOk n k) (Classical.propDecidable _) (updN K n k.toNatClampNeg) K
noncomputable def fdM (M : Nat → Nat) (n : Nat) (k : Int32) : Nat → Nat := @ite _ (fdOk n k) (Classical.propDecidable _) (updN M n 0) M
theorem gt_of_nle {x y : Int32} (h : ¬ x ≤ y) : y < x := by rw [Int32.lt_iff_toInt_lt]; rw [Int32.le_iff_toInt_le] at h; omega
theorem nlt_of_le {x y : Int32} (h : x ≤ y) : ¬ y < x := by rw [Int32.lt_iff_toInt_lt]; rw [Int32.le_iff_toInt_le] at h; omega
theorem nle5 {x : Int32} (h : x ≤ nI 4) : ¬ nI 5 ≤ x := by
  rw [Int32.le_iff_toInt_le] at h ⊢
  have h4 : (nI 4).toInt = 4 := rfl
  have h5 : (nI 5).toInt = 5 := rfl
  omega
def puA (M : Nat → Nat) (j : Nat) : Int32 := if M j = 64 then (-4) else nI (M j + 1)
def puM (M : Nat → Nat) (j : Nat) : Nat → Nat := if M j = 64 then M else updN M j (M j + 1)
def puT (M : Nat → Nat) (TT : Nat → Int32) (j : Nat) (t : Int32) : Nat → Int32 := if M j = 64 then TT else upd TT (64 * j + M j) t
def puV (M : Nat → Nat) (VV : Nat → Int64) (j : Nat) (v : Int64) : Nat → Int64 := if M j = 64 then VV else vp_updL VV (64 * j + M j) v
def adTm (o : Option Nat) (M : Nat → Nat) (TT : Nat → Int32) (t : Int32) : Nat → Int32 := o.elim TT (fun j => upd TT (64 * j + M j) t)
def adVm (o : Option Nat) (M : Nat → Nat) (VV : Nat → Int64) (v : Int64) : Nat → Int64 := o.elim VV (fun j => vp_updL VV (64 * j + M j) v)
theorem puA_ad {M : Nat → Nat} {j : Nat} (h : M j ≤ 64) : puA M j = if M j < 64 then nI (M j + 1) else (-4) := by
  unfold puA
  by_cases e : M j = 64
  · rw [if_pos e, if_neg (by omega)]
  · rw [if_neg e, if_pos (by omega)]
theorem ad_put {P : (Nat → Nat) → (Nat → Int32) → (Nat → Int64) → Prop} {o : Option Nat} {M : Nat → Nat} {TT : Nat → Int32} {VV : Nat → Int64} {j : Nat} {t : Int32} {v : Int64} (hM : M j ≤ 64) (h1 : M j < 64 → o = some j) (h2 : ¬ M j < 64 → o = none) (h : P (puM M j) (puT M TT j t) (puV M VV j v)) : P (adN o M) (adTm o M TT t) (adVm o M VV v) := by
  unfold puM puT puV at h
  by_cases c : M j < 64
  · rw [h1 c]
    rw [if_neg (by omega), if_neg (by omega), if_neg (by omega)] at h
    exact h
  · rw [h2 c]
    rw [if_pos (by omega), if_pos (by omega), if_pos (by omega)] at h
    exact h
def mFin (v : Int64) : Bool := decide (¬ jushr v (nI 52) &&& 2047 = 2047)
theorem i2l_lt {a b : Int32} : a.toInt64 < b.toInt64 ↔ a < b := by rw [Int64.lt_iff_toInt_lt, Int32.lt_iff_toInt_lt, Int32.toInt_toInt64, Int32.toInt_toInt64]
theorem inw_b {w z : Int32} : inL w.toInt64 0 z.toInt64 = decide (¬ w < 0 ∧ ¬ z < w) := by
  unfold inL
  rw [show (0 : Int64) = (0 : Int32).toInt64 from rfl]
  simp only [i2l_lt]
theorem inw_t {w : Int32} (h : inL w.toInt64 0 1000000 = true) : ¬ w < 0 ∧ ¬ 1000000 < w := by
  have h : inL w.toInt64 0 (1000000 : Int32).toInt64 = true := h
  rw [inw_b] at h; exact of_decide_eq_true h
theorem inw_f {w : Int32} (h : inL w.toInt64 0 1000000 = false) : w < 0 ∨ 1000000 < w := by
  have h : inL w.toInt64 0 (1000000 : Int32).toInt64 = false := h
  rw [inw_b] at h
  have h := of_decide_eq_false h
  by_cases c : w < 0
  · exact Or.inl c
  · exact Or.inr (Decidable.of_not_not (fun q => h ⟨c, q⟩))
theorem val_eq {k : Nat} (hk : k < 5) (h1 : ¬ k = 1) (v : Int64) : isVal k v = mVal k v := by
  have h3 : (¬ v < 0 ∧ v < 4) ↔ (¬ v < 0 ∧ ¬ 3 < v) := by
    rw [Int64.lt_iff_toInt_lt, Int64.lt_iff_toInt_lt, Int64.lt_iff_toInt_lt]
    have e4 : (4 : Int64).toInt = 4 := rfl
    have e3 : (3 : Int64).toInt = 3 := rfl
    omega
  unfold isVal mVal inL
  rcases (show k = 0 ∨ k = 2 ∨ k = 3 ∨ k = 4 by omega) with rfl | rfl | rfl | rfl
  · simp
  · simp
  · simp
  · simp only [show ¬ (4 : Nat) = 0 by decide, show ¬ (4 : Nat) = 1 by decide, show ¬ (4 : Nat) = 2 by decide, show ¬ (4 : Nat) = 3 by decide, if_false, false_and, false_or, true_and, decide_eq_true_eq]
    exact decide_eq_decide.mpr h3
theorem uN_shlk (x : Int64) (k : Nat) (hk : k < 64) : uN (jshl x (nI k)) = (uN x * 2 ^ k) % 18446744073709551616 := by
  obtain ⟨a, ha, rfl⟩ := wb_of x
  show uN (lN a <<< ((nI k).toInt64 &&& 63)) = _
  rw [wb_shl a hk]
  show (lN (a * 2 ^ k)).toBitVec.toNat = ((lN a).toBitVec.toNat * 2 ^ k) % _
  rw [wb_tn ha, lN_bv, BitVec.toNat_ofNat]
theorem bits_eq (v : Int64) : mBits v = wz v := by
  unfold mBits wz
  have h : jshl v (nI 1) = 0 ↔ uN v = 0 ∨ uN v = 9223372036854775808 := by
    constructor
    · intro q
      have q2 := congrArg uN q
      rw [uN_shlk v 1 (by decide), show uN 0 = 0 from rfl] at q2
      have := uN_lt v
      omega
    · intro q
      apply uN_inj
      rw [uN_shlk v 1 (by decide), show uN 0 = 0 from rfl]
      omega
  have h2 : v = (-9223372036854775808) ↔ uN v = 9223372036854775808 := ⟨fun q => by rw [q]; rfl, fun q => uN_inj (by rw [q]; rfl)⟩
  by_cases c : v = (-9223372036854775808)
  · rw [if_pos (h.mpr (Or.inr (h2.mp c))), if_pos c]
  · rw [if_neg c]
    split
    · rename_i c2
      rcases h.mp c2 with q | q
      · exact uN_inj (by rw [q]; rfl)
      · exact absurd (h2.mpr q) c
    · rfl
theorem fin_eq (v : Int64) : isVal 1 (wz v) = mFin v := by
  have e : isVal 1 (wz v) = decide (¬ wz v &&& 9218868437227405312 = 9218868437227405312) := by unfold isVal; simp
  rw [e]
  unfold mFin
  have h1 : ∀ x : Int64, x &&& 9218868437227405312 = 9218868437227405312 ↔ (uN x / 2 ^ 52) % 2048 = 2047 := by
    intro x
    obtain ⟨a, ha, rfl⟩ := wb_of x
    have e1 : (9218868437227405312 : Int64) = lN (2047 * 2 ^ 52) := rfl
    rw [e1, wb_and ha (by decide)]
    have e2 : a &&& (2047 * 2 ^ 52) = (a / 2 ^ 52 % 2048) * 2 ^ 52 := by
      have e3 : 2047 * 2 ^ 52 = (2 ^ 11 - 1) <<< 52 := by decide
      have e4 : (a / 2 ^ 52 % 2048) * 2 ^ 52 = ((a >>> 52) &&& (2 ^ 11 - 1)) <<< 52 := by rw [Nat.and_two_pow_sub_one_eq_mod, Nat.shiftRight_eq_div_pow, Nat.shiftLeft_eq]
      rw [e3, e4]
      apply Nat.eq_of_testBit_eq
      intro i
      simp only [Nat.testBit_and, Nat.testBit_shiftLeft, Nat.testBit_shiftRight]
      by_cases hi : 52 ≤ i
      · simp [hi, show 52 + (i - 52) = i by omega]
      · simp [hi]
    rw [e2]
    have e5 : uN (lN a) = a := wb_tn ha
    rw [e5]
    constructor
    · intro q
      have q := congrArg uN q
      have b1 : uN (lN (a / 2 ^ 52 % 2048 * 2 ^ 52)) = a / 2 ^ 52 % 2048 * 2 ^ 52 := wb_tn (by omega)
      have b2 : uN (lN (2047 * 2 ^ 52)) = 2047 * 2 ^ 52 := wb_tn (by decide)
      rw [b1, b2] at q
      omega
    · intro q; rw [q]
  have h2 : jushr v (nI 52) &&& 2047 = 2047 ↔ (uN v / 2 ^ 52) % 2048 = 2047 := by
    obtain ⟨a, ha, rfl⟩ := wb_of v
    rw [show jushr (lN a) (nI 52) = lN (a / 2 ^ 52) from wb_shr ha (by decide)]
    have e1 : (2047 : Int64) = lN (2 ^ 11 - 1) := rfl
    rw [e1, wb_mask (by omega) (by decide)]
    have e5 : uN (lN a) = a := wb_tn ha
    rw [e5]
    constructor
    · intro q
      have q := congrArg uN q
      have b1 : uN (lN (a / 2 ^ 52 % 2 ^ 11)) = a / 2 ^ 52 % 2 ^ 11 := wb_tn (by omega)
      have b2 : uN (lN (2 ^ 11 - 1)) = 2 ^ 11 - 1 := wb_tn (by decide)
      rw [b1, b2] at q
      omega
    · intro q; rw [show a / 2 ^ 52 % 2 ^ 11 = 2047 from q]
  have h3 : (uN (wz v) / 2 ^ 52) % 2048 = 2047 ↔ (uN v / 2 ^ 52) % 2048 = 2047 := by
    unfold wz
    split
    · rename_i c; rw [c]; decide
    · exact Iff.rfl
  exact decide_eq_decide.mpr (not_congr ((h1 _).trans (h3.trans h2.symm)))
set_option maxHeartbeats 4000000 in
set_option maxRecDepth 100000 in
theorem kX4_in (l : Launch) (E : zE) (v a z : Int64) : Met l yX4_in wsX4_in (rmL 0) (va_Pc [.long v, .long a, .long z] (zW E [])) (vp_Si (fun r9 => r9 = bI (inL v a z))) 0 0 (fun _ => False) := by
  refine z_ofRz (cc := cX4_in) (maxL := 6) (own := RX4) (by decide) rfl rfl (Nat.le_of_ble_eq_true rfl) ?_
  intro p e s m args below meth c R Q B hP ret ls hl
  obtain ⟨hx, hb, hml, hown, hts, hK, hRf, hRl⟩ := B
  have hl : lv_has ls 6 [(0, .long v), (2, .long a), (4, .long z)] := hl
  refine lv_lload_n hx hb dX4_in_0 rfl (lv_at hl 0 rfl) ?_
  refine lv_lload_n hx hb dX4_in_1 rfl (lv_at hl 1 rfl) ?_
  refine zl_lt (tgt := 17) hx hb dX4_in_2 dX4_in_3 (by decide) (fun c_1 => ?_) (fun c_1 => ?_)
  · refine lv_iconst (v := nI 0) hx hb dX4_in_17 (by decide) ?_
    exact z_reti (by rw [show inL v a z = false from by unfold inL; simp [c_1]]; rfl) (ret _ _ dX4_in_18)
  · refine lv_lload_n hx hb dX4_in_6 rfl (lv_at hl 0 rfl) ?_
    refine lv_lload hx hb dX4_in_7 (lv_at hl 2 rfl) ?_
    refine zl_gt (tgt := 17) hx hb dX4_in_9 dX4_in_10 (by decide) (fun c_2 => ?_) (fun c_2 => ?_)
    · refine lv_iconst (v := nI 0) hx hb dX4_in_17 (by decide) ?_
      exact z_reti (by rw [show inL v a z = false from by unfold inL; simp [c_1, c_2]]; rfl) (ret _ _ dX4_in_18)
    · refine lv_iconst (v := nI 1) hx hb dX4_in_13 (by decide) ?_
      refine lv_goto (tgt := 18) hx hb dX4_in_14 (by decide) ?_
      exact z_reti (by rw [show inL v a z = true from by unfold inL; simp [c_1, c_2]]; rfl) (ret _ _ dX4_in_18)
set_option maxHeartbeats 4000000 in
set_option maxRecDepth 100000 in
theorem kX4_isValue (l : Launch) (E : zE) (k : Nat) (hk : k < 5) (v : Int64) : Met l yX4_isValue wsX4_isValue (rmL 1) (va_Pc [.int (nI k), .long v] (zW E [])) (vp_Si (fun r9 => r9 = bI (mVal k v))) 0 0 (fun _ => False) := by
  refine z_ofRz (cc := cX4_isValue) (maxL := 3) (own := RX4) (by decide) rfl rfl (Nat.le_of_ble_eq_true rfl) ?_
  intro p e s m args below meth c R Q B hP ret ls hl
  obtain ⟨hx, hb, hml, hown, hts, hK, hRf, hRl⟩ := B
  have hl : lv_has ls 3 [(0, .int (nI k)), (1, .long v)] := hl
  refine lv_iload_n hx hb dX4_isValue_0 rfl (lv_at hl 0 rfl) ?_
  refine zn_if_eq (tgt := 56) hx hb dX4_isValue_1 (by decide) (by omega) (fun c_1 => ?_) (fun c_1 => ?_)
  · refine lv_iconst (v := nI 1) hx hb dX4_isValue_56 (by decide) ?_
    refine lv_goto (tgt := 61) hx hb dX4_isValue_57 (by decide) ?_
    exact z_reti (by rw [show mVal k v = true from by unfold mVal; simp [c_1] <;> omega]; rfl) (ret _ _ dX4_isValue_61)
  · refine lv_iload_n hx hb dX4_isValue_4 rfl (lv_at hl 0 rfl) ?_
    refine lv_iconst (v := nI 2) hx hb dX4_isValue_5 (by decide) ?_
    refine zn_icmp_ne (tgt := 22) hx hb dX4_isValue_6 (by decide) (by omega) (by omega) (fun c_2 => ?_) (fun c_2 => ?_)
    · refine lv_iload_n hx hb dX4_isValue_22 rfl (lv_at hl 0 rfl) ?_
      refine lv_iconst (v := nI 3) hx hb dX4_isValue_23 (by decide) ?_
      refine zn_icmp_ne (tgt := 40) hx hb dX4_isValue_24 (by decide) (by omega) (by omega) (fun c_3 => ?_) (fun c_3 => ?_)
      · refine lv_iload_n hx hb dX4_isValue_40 rfl (lv_at hl 0 rfl) ?_
        refine lv_iconst (v := nI 4) hx hb dX4_isValue_41 (by decide) ?_
        refine zn_icmp_ne (tgt := 60) hx hb dX4_isValue_42 (by decide) (by omega) (by omega) (fun c_4 => ?_) (fun c_4 => ?_)
        · refine lv_iconst (v := nI 0) hx hb dX4_isValue_60 (by decide) ?_
          exact z_reti (by rw [show mVal k v = false from by unfold mVal; simp [c_1, c_2, c_3, c_4] <;> omega]; rfl) (ret _ _ dX4_isValue_61)
        · refine lv_lload_n hx hb dX4_isValue_45 rfl (lv_at hl 1 rfl) ?_
          refine lv_lconst (v := 0) hx hb dX4_isValue_46 rfl ?_
          refine lv_ldc2 (v := 3) hx hb hown (hts (.constantLong RX4 71 (3)) (by decide +kernel)) dX4_isValue_47 ?_
          refine zc_i (W.runS ⟨hx, hb, hml, hown, hts⟩ (kX4_in l E v 0 3) (cwS 3 hts gX4_isValue_X4_in rfl rfl rfl (by decide +kernel) ⟨Nat.le_trans (Nat.le_of_ble_eq_true rfl) hRf, Nat.le_trans (Nat.le_of_ble_eq_true rfl) hRl⟩) (z_preR (av := [.long v, .long 0, .long 3]) (hP.sub (ws' := []) [] rfl) hK) rfl rfl hl.1 rfl (lv_room (Nat.le_of_ble_eq_true rfl)) dX4_isValue_50 ⟨Nat.zero_le _, Nat.zero_le _⟩) ?_
          refine zb_if_eq (tgt := 60) hx hb dX4_isValue_53 (by decide) (fun c_5 => ?_) (fun c_5 => ?_)
          · refine lv_iconst (v := nI 0) hx hb dX4_isValue_60 (by decide) ?_
            exact z_reti (by rw [show mVal k v = false from by unfold mVal; simp [c_1, c_2, c_3, c_4, c_5] <;> omega]; rfl) (ret _ _ dX4_isValue_61)
          · refine lv_iconst (v := nI 1) hx hb dX4_isValue_56 (by decide) ?_
            refine lv_goto (tgt := 61) hx hb dX4_isValue_57 (by decide) ?_
            exact z_reti (by rw [show mVal k v = true from by unfold mVal; simp [c_1, c_2, c_3, c_4, c_5] <;> omega]; rfl) (ret _ _ dX4_isValue_61)
      · refine lv_lload_n hx hb dX4_isValue_27 rfl (lv_at hl 1 rfl) ?_
        refine lv_ldc2 (v := (-100000000000000000)) hx hb hown (hts (.constantLong RX4 67 (-100000000000000000)) (by decide +kernel)) dX4_isValue_28 ?_
        refine lv_ldc2 (v := 100000000000000000) hx hb hown (hts (.constantLong RX4 69 (100000000000000000)) (by decide +kernel)) dX4_isValue_31 ?_
        refine zc_i (W.runS ⟨hx, hb, hml, hown, hts⟩ (kX4_in l E v (-100000000000000000) 100000000000000000) (cwS 3 hts gX4_isValue_X4_in rfl rfl rfl (by decide +kernel) ⟨Nat.le_trans (Nat.le_of_ble_eq_true rfl) hRf, Nat.le_trans (Nat.le_of_ble_eq_true rfl) hRl⟩) (z_preR (av := [.long v, .long (-100000000000000000), .long 100000000000000000]) (hP.sub (ws' := []) [] rfl) hK) rfl rfl hl.1 rfl (lv_room (Nat.le_of_ble_eq_true rfl)) dX4_isValue_34 ⟨Nat.zero_le _, Nat.zero_le _⟩) ?_
        refine zb_if_ne (tgt := 56) hx hb dX4_isValue_37 (by decide) (fun c_6 => ?_) (fun c_6 => ?_)
        · refine lv_iconst (v := nI 1) hx hb dX4_isValue_56 (by decide) ?_
          refine lv_goto (tgt := 61) hx hb dX4_isValue_57 (by decide) ?_
          exact z_reti (by rw [show mVal k v = true from by unfold mVal; simp [c_1, c_2, c_3, c_6] <;> omega]; rfl) (ret _ _ dX4_isValue_61)
        · refine lv_iload_n hx hb dX4_isValue_40 rfl (lv_at hl 0 rfl) ?_
          refine lv_iconst (v := nI 4) hx hb dX4_isValue_41 (by decide) ?_
          refine zn_icmp_ne (tgt := 60) hx hb dX4_isValue_42 (by decide) (by omega) (by omega) (fun c_7 => ?_) (fun c_7 => ?_)
          · refine lv_iconst (v := nI 0) hx hb dX4_isValue_60 (by decide) ?_
            exact z_reti (by rw [show mVal k v = false from by unfold mVal; simp [c_1, c_2, c_3, c_6, c_7] <;> omega]; rfl) (ret _ _ dX4_isValue_61)
          · refine lv_lload_n hx hb dX4_isValue_45 rfl (lv_at hl 1 rfl) ?_
            refine lv_lconst (v := 0) hx hb dX4_isValue_46 rfl ?_
            refine lv_ldc2 (v := 3) hx hb hown (hts (.constantLong RX4 71 (3)) (by decide +kernel)) dX4_isValue_47 ?_
            refine zc_i (W.runS ⟨hx, hb, hml, hown, hts⟩ (kX4_in l E v 0 3) (cwS 3 hts gX4_isValue_X4_in rfl rfl rfl (by decide +kernel) ⟨Nat.le_trans (Nat.le_of_ble_eq_true rfl) hRf, Nat.le_trans (Nat.le_of_ble_eq_true rfl) hRl⟩) (z_preR (av := [.long v, .long 0, .long 3]) (hP.sub (ws' := []) [] rfl) hK) rfl rfl hl.1 rfl (lv_room (Nat.le_of_ble_eq_true rfl)) dX4_isValue_50 ⟨Nat.zero_le _, Nat.zero_le _⟩) ?_
            refine zb_if_eq (tgt := 60) hx hb dX4_isValue_53 (by decide) (fun c_8 => ?_) (fun c_8 => ?_)
            · refine lv_iconst (v := nI 0) hx hb dX4_isValue_60 (by decide) ?_
              exact z_reti (by rw [show mVal k v = false from by unfold mVal; simp [c_1, c_2, c_3, c_6, c_7, c_8] <;> omega]; rfl) (ret _ _ dX4_isValue_61)
            · refine lv_iconst (v := nI 1) hx hb dX4_isValue_56 (by decide) ?_
              refine lv_goto (tgt := 61) hx hb dX4_isValue_57 (by decide) ?_
              exact z_reti (by rw [show mVal k v = true from by unfold mVal; simp [c_1, c_2, c_3, c_6, c_7, c_8] <;> omega]; rfl) (ret _ _ dX4_isValue_61)
    · refine lv_lload_n hx hb dX4_isValue_9 rfl (lv_at hl 1 rfl) ?_
      refine lv_ldc2 (v := (-1000000)) hx hb hown (hts (.constantLong RX4 59 (-1000000)) (by decide +kernel)) dX4_isValue_10 ?_
      refine lv_ldc2 (v := 1000000) hx hb hown (hts (.constantLong RX4 61 (1000000)) (by decide +kernel)) dX4_isValue_13 ?_
      refine zc_i (W.runS ⟨hx, hb, hml, hown, hts⟩ (kX4_in l E v (-1000000) 1000000) (cwS 3 hts gX4_isValue_X4_in rfl rfl rfl (by decide +kernel) ⟨Nat.le_trans (Nat.le_of_ble_eq_true rfl) hRf, Nat.le_trans (Nat.le_of_ble_eq_true rfl) hRl⟩) (z_preR (av := [.long v, .long (-1000000), .long 1000000]) (hP.sub (ws' := []) [] rfl) hK) rfl rfl hl.1 rfl (lv_room (Nat.le_of_ble_eq_true rfl)) dX4_isValue_16 ⟨Nat.zero_le _, Nat.zero_le _⟩) ?_
      refine zb_if_ne (tgt := 56) hx hb dX4_isValue_19 (by decide) (fun c_9 => ?_) (fun c_9 => ?_)
      · refine lv_iconst (v := nI 1) hx hb dX4_isValue_56 (by decide) ?_
        refine lv_goto (tgt := 61) hx hb dX4_isValue_57 (by decide) ?_
        exact z_reti (by rw [show mVal k v = true from by unfold mVal; simp [c_1, c_2, c_9] <;> omega]; rfl) (ret _ _ dX4_isValue_61)
      · refine lv_iload_n hx hb dX4_isValue_22 rfl (lv_at hl 0 rfl) ?_
        refine lv_iconst (v := nI 3) hx hb dX4_isValue_23 (by decide) ?_
        refine zn_icmp_ne (tgt := 40) hx hb dX4_isValue_24 (by decide) (by omega) (by omega) (fun c_10 => ?_) (fun c_10 => ?_)
        · refine lv_iload_n hx hb dX4_isValue_40 rfl (lv_at hl 0 rfl) ?_
          refine lv_iconst (v := nI 4) hx hb dX4_isValue_41 (by decide) ?_
          refine zn_icmp_ne (tgt := 60) hx hb dX4_isValue_42 (by decide) (by omega) (by omega) (fun c_11 => ?_) (fun c_11 => ?_)
          · refine lv_iconst (v := nI 0) hx hb dX4_isValue_60 (by decide) ?_
            exact z_reti (by rw [show mVal k v = false from by unfold mVal; simp [c_1, c_2, c_9, c_10, c_11] <;> omega]; rfl) (ret _ _ dX4_isValue_61)
          · refine lv_lload_n hx hb dX4_isValue_45 rfl (lv_at hl 1 rfl) ?_
            refine lv_lconst (v := 0) hx hb dX4_isValue_46 rfl ?_
            refine lv_ldc2 (v := 3) hx hb hown (hts (.constantLong RX4 71 (3)) (by decide +kernel)) dX4_isValue_47 ?_
            refine zc_i (W.runS ⟨hx, hb, hml, hown, hts⟩ (kX4_in l E v 0 3) (cwS 3 hts gX4_isValue_X4_in rfl rfl rfl (by decide +kernel) ⟨Nat.le_trans (Nat.le_of_ble_eq_true rfl) hRf, Nat.le_trans (Nat.le_of_ble_eq_true rfl) hRl⟩) (z_preR (av := [.long v, .long 0, .long 3]) (hP.sub (ws' := []) [] rfl) hK) rfl rfl hl.1 rfl (lv_room (Nat.le_of_ble_eq_true rfl)) dX4_isValue_50 ⟨Nat.zero_le _, Nat.zero_le _⟩) ?_
            refine zb_if_eq (tgt := 60) hx hb dX4_isValue_53 (by decide) (fun c_12 => ?_) (fun c_12 => ?_)
            · refine lv_iconst (v := nI 0) hx hb dX4_isValue_60 (by decide) ?_
              exact z_reti (by rw [show mVal k v = false from by unfold mVal; simp [c_1, c_2, c_9, c_10, c_11, c_12] <;> omega]; rfl) (ret _ _ dX4_isValue_61)
            · refine lv_iconst (v := nI 1) hx hb dX4_isValue_56 (by decide) ?_
              refine lv_goto (tgt := 61) hx hb dX4_isValue_57 (by decide) ?_
              exact z_reti (by rw [show mVal k v = true from by unfold mVal; simp [c_1, c_2, c_9, c_10, c_11, c_12] <;> omega]; rfl) (ret _ _ dX4_isValue_61)
        · refine lv_lload_n hx hb dX4_isValue_27 rfl (lv_at hl 1 rfl) ?_
          refine lv_ldc2 (v := (-100000000000000000)) hx hb hown (hts (.constantLong RX4 67 (-100000000000000000)) (by decide +kernel)) dX4_isValue_28 ?_
          refine lv_ldc2 (v := 100000000000000000) hx hb hown (hts (.constantLong RX4 69 (100000000000000000)) (by decide +kernel)) dX4_isValue_31 ?_
          refine zc_i (W.runS ⟨hx, hb, hml, hown, hts⟩ (kX4_in l E v (-100000000000000000) 100000000000000000) (cwS 3 hts gX4_isValue_X4_in rfl rfl rfl (by decide +kernel) ⟨Nat.le_trans (Nat.le_of_ble_eq_true rfl) hRf, Nat.le_trans (Nat.le_of_ble_eq_true rfl) hRl⟩) (z_preR (av := [.long v, .long (-100000000000000000), .long 100000000000000000]) (hP.sub (ws' := []) [] rfl) hK) rfl rfl hl.1 rfl (lv_room (Nat.le_of_ble_eq_true rfl)) dX4_isValue_34 ⟨Nat.zero_le _, Nat.zero_le _⟩) ?_
          refine zb_if_ne (tgt := 56) hx hb dX4_isValue_37 (by decide) (fun c_13 => ?_) (fun c_13 => ?_)
          · refine lv_iconst (v := nI 1) hx hb dX4_isValue_56 (by decide) ?_
            refine lv_goto (tgt := 61) hx hb dX4_isValue_57 (by decide) ?_
            exact z_reti (by rw [show mVal k v = true from by unfold mVal; simp [c_1, c_2, c_9, c_10, c_13] <;> omega]; rfl) (ret _ _ dX4_isValue_61)
          · refine lv_iload_n hx hb dX4_isValue_40 rfl (lv_at hl 0 rfl) ?_
            refine lv_iconst (v := nI 4) hx hb dX4_isValue_41 (by decide) ?_
            refine zn_icmp_ne (tgt := 60) hx hb dX4_isValue_42 (by decide) (by omega) (by omega) (fun c_14 => ?_) (fun c_14 => ?_)
            · refine lv_iconst (v := nI 0) hx hb dX4_isValue_60 (by decide) ?_
              exact z_reti (by rw [show mVal k v = false from by unfold mVal; simp [c_1, c_2, c_9, c_10, c_13, c_14] <;> omega]; rfl) (ret _ _ dX4_isValue_61)
            · refine lv_lload_n hx hb dX4_isValue_45 rfl (lv_at hl 1 rfl) ?_
              refine lv_lconst (v := 0) hx hb dX4_isValue_46 rfl ?_
              refine lv_ldc2 (v := 3) hx hb hown (hts (.constantLong RX4 71 (3)) (by decide +kernel)) dX4_isValue_47 ?_
              refine zc_i (W.runS ⟨hx, hb, hml, hown, hts⟩ (kX4_in l E v 0 3) (cwS 3 hts gX4_isValue_X4_in rfl rfl rfl (by decide +kernel) ⟨Nat.le_trans (Nat.le_of_ble_eq_true rfl) hRf, Nat.le_trans (Nat.le_of_ble_eq_true rfl) hRl⟩) (z_preR (av := [.long v, .long 0, .long 3]) (hP.sub (ws' := []) [] rfl) hK) rfl rfl hl.1 rfl (lv_room (Nat.le_of_ble_eq_true rfl)) dX4_isValue_50 ⟨Nat.zero_le _, Nat.zero_le _⟩) ?_
              refine zb_if_eq (tgt := 60) hx hb dX4_isValue_53 (by decide) (fun c_15 => ?_) (fun c_15 => ?_)
              · refine lv_iconst (v := nI 0) hx hb dX4_isValue_60 (by decide) ?_
                exact z_reti (by rw [show mVal k v = false from by unfold mVal; simp [c_1, c_2, c_9, c_10, c_13, c_14, c_15] <;> omega]; rfl) (ret _ _ dX4_isValue_61)
              · refine lv_iconst (v := nI 1) hx hb dX4_isValue_56 (by decide) ?_
                refine lv_goto (tgt := 61) hx hb dX4_isValue_57 (by decide) ?_
                exact z_reti (by rw [show mVal k v = true from by unfold mVal; simp [c_1, c_2, c_9, c_10, c_13, c_14, c_15] <;> omega]; rfl) (ret _ _ dX4_isValue_61)
set_option maxHeartbeats 4000000 in
set_option maxRecDepth 100000 in
theorem kX4_bitsOf (l : Launch) (E : zE) (v : Int64) : Met l yX4_bitsOf wsX4_bitsOf (rmL 0) (va_Pc [.long v] (zW E [])) (vp_Sl (fun r9 => r9 = mBits v)) 0 0 (fun _ => False) := by
  refine z_ofRl (cc := cX4_bitsOf) (maxL := 2) (own := RX4) (by decide) rfl rfl (Nat.le_of_ble_eq_true rfl) ?_
  intro p e s m args below meth c R Q B hP ret ls hl
  obtain ⟨hx, hb, hml, hown, hts, hK, hRf, hRl⟩ := B
  have hl : lv_has ls 2 [(0, .long v)] := hl
  refine lv_lload_n hx hb dX4_bitsOf_0 rfl (lv_at hl 0 rfl) ?_
  refine lv_iconst (v := nI 1) hx hb dX4_bitsOf_1 (by decide) ?_
  refine lv_lshl (v := jshl v (nI 1)) hx hb dX4_bitsOf_2 rfl ?_
  refine lv_lconst (v := 0) hx hb dX4_bitsOf_3 rfl ?_
  refine zl_ne (tgt := 12) hx hb dX4_bitsOf_4 dX4_bitsOf_5 (by decide) (fun c_1 => ?_) (fun c_1 => ?_)
  · refine lv_lload_n hx hb dX4_bitsOf_12 rfl (lv_at hl 0 rfl) ?_
    exact z_retl (by unfold mBits; rw [if_neg c_1]) (ret _ _ dX4_bitsOf_13)
  · refine lv_lconst (v := 0) hx hb dX4_bitsOf_8 rfl ?_
    refine lv_goto (tgt := 13) hx hb dX4_bitsOf_9 (by decide) ?_
    exact z_retl (by unfold mBits; rw [if_pos c_1]) (ret _ _ dX4_bitsOf_13)
set_option maxHeartbeats 4000000 in
set_option maxRecDepth 100000 in
theorem kX4_isFinite (l : Launch) (E : zE) (v : Int64) : Met l yX4_isFinite wsX4_isFinite (rmL 0) (va_Pc [.long v] (zW E [])) (vp_Si (fun r9 => r9 = bI (mFin v))) 0 0 (fun _ => False) := by
  refine z_ofRz (cc := cX4_isFinite) (maxL := 2) (own := RX4) (by decide) rfl rfl (Nat.le_of_ble_eq_true rfl) ?_
  intro p e s m args below meth c R Q B hP ret ls hl
  obtain ⟨hx, hb, hml, hown, hts, hK, hRf, hRl⟩ := B
  have hl : lv_has ls 2 [(0, .long v)] := hl
  refine lv_lload_n hx hb dX4_isFinite_0 rfl (lv_at hl 0 rfl) ?_
  refine lv_bipush (v := nI 52) hx hb dX4_isFinite_1 (by decide) ?_
  refine lv_lushr (v := jushr v (nI 52)) hx hb dX4_isFinite_3 rfl ?_
  refine lv_ldc2 (v := 2047) hx hb hown (hts (.constantLong RX4 81 (2047)) (by decide +kernel)) dX4_isFinite_4 ?_
  refine lv_land hx hb dX4_isFinite_7 ?_
  refine lv_ldc2 (v := 2047) hx hb hown (hts (.constantLong RX4 81 (2047)) (by decide +kernel)) dX4_isFinite_8 ?_
  refine zl_eq (tgt := 19) hx hb dX4_isFinite_11 dX4_isFinite_12 (by decide) (fun c_1 => ?_) (fun c_1 => ?_)
  · refine lv_iconst (v := nI 0) hx hb dX4_isFinite_19 (by decide) ?_
    exact z_reti (by rw [show mFin v = false from by unfold mFin; simp [c_1]]; rfl) (ret _ _ dX4_isFinite_20)
  · refine lv_iconst (v := nI 1) hx hb dX4_isFinite_15 (by decide) ?_
    refine lv_goto (tgt := 20) hx hb dX4_isFinite_16 (by decide) ?_
    exact z_reti (by rw [show mFin v = true from by unfold mFin; simp [c_1]]; rfl) (ret _ _ dX4_isFinite_20)
set_option maxHeartbeats 4000000 in
set_option maxRecDepth 100000 in
theorem kX4_thrown (l : Launch) (E : zE) (m0 k0 q0 t0 v0 c0 o0 s0 j0 r0 f0 g0 h0 : Nat) (cd : Int32) (n : Nat) (K M : Nat → Nat) (TT : Nat → Int32) (VV CC : Nat → Int64) (OO : Nat → Nat) (b : Nat) (S J : Nat → Nat) (RR : Nat → Bool) (w1 w2 w3 w4 : Int32) (SF SM FD : Nat → Nat) (hn : n ≤ 12) : Met l yX4_thrown wsX4_thrown (rmL 0) (va_Pc [.ref m0] (zW E (mW E m0 k0 q0 t0 v0 c0 o0 s0 j0 r0 f0 g0 h0 cd n K M TT VV CC OO b S J RR w1 w2 w3 w4 SF SM FD))) (vp_Si (fun r9 => r9 = cd)) 0 0 (fun _ => False) := by
  refine z_ofRi (cc := cX4_thrown) (maxL := 1) (own := RX4) (by decide) rfl rfl (Nat.le_of_ble_eq_true rfl) ?_
  intro p e s m args below meth c R Q B hP ret ls hl
  obtain ⟨hx, hb, hml, hown, hts, hK, hRf, hRl⟩ := B
  have hiX4 : ∀ w ∈ wsX40, w ∈ wsX4_thrown := by decide +kernel
  have hf52 := hts (.fieldLink RX4 52 "ExactFoldsModel" "code" "I") (by decide +kernel)
  have hl : lv_has ls 1 [(0, .ref m0)] := hl
  refine lv_aload_n hx hb dX4_thrown_0 rfl (lv_at hl 0 rfl) ?_
  refine va_get (D := E.1) (ci := 5) (C := RX4) (T := TX4) (N := 19) hx hb hts hiX4 hown hK.1 hP 0 rfl rfl 0 (by decide) hf52 (fun _ h9 => h9) rfl dX4_thrown_1 ?_
  exact z_reti (rfl) (ret _ _ dX4_thrown_4)
set_option maxHeartbeats 4000000 in
set_option maxRecDepth 100000 in
theorem kX4_isFold (l : Launch) (E : zE) (m0 k0 q0 t0 v0 c0 o0 s0 j0 r0 f0 g0 h0 : Nat) (cd : Int32) (n : Nat) (K M : Nat → Nat) (TT : Nat → Int32) (VV CC : Nat → Int64) (OO : Nat → Nat) (b : Nat) (S J : Nat → Nat) (RR : Nat → Bool) (w1 w2 w3 w4 : Int32) (SF SM FD : Nat → Nat) (hn : n ≤ 12) (f : Int32) : Met l yX4_isFold wsX4_isFold (rmL 0) (va_Pc [.ref m0, .int f] (zW E (mW E m0 k0 q0 t0 v0 c0 o0 s0 j0 r0 f0 g0 h0 cd n K M TT VV CC OO b S J RR w1 w2 w3 w4 SF SM FD))) (vp_Si (fun r9 => r9 = bI ((fidx n f).isSome))) 0 0 (fun _ => False) := by
  refine z_ofRz (cc := cX4_isFold) (maxL := 2) (own := RX4) (by decide) rfl rfl (Nat.le_of_ble_eq_true rfl) ?_
  intro p e s m args below meth c R Q B hP ret ls hl
  obtain ⟨hx, hb, hml, hown, hts, hK, hRf, hRl⟩ := B
  have hiX4 : ∀ w ∈ wsX40, w ∈ wsX4_isFold := by decide +kernel
  have hf48 := hts (.fieldLink RX4 48 "ExactFoldsModel" "folds" "I") (by decide +kernel)
  have hl : lv_has ls 2 [(0, .ref m0), (1, .int f)] := hl
  refine lv_iload_n hx hb dX4_isFold_0 rfl (lv_at hl 1 rfl) ?_
  refine lv_if_lt (tgt := 16) hx hb dX4_isFold_1 (by decide) (fun c_1 => ?_) (fun c_1 => ?_)
  · refine lv_iconst (v := nI 0) hx hb dX4_isFold_16 (by decide) ?_
    exact z_reti (by rw [show (fidx n f).isSome = false from by unfold fidx; simp [c_1]]; rfl) (ret _ _ dX4_isFold_17)
  · refine lv_iload_n hx hb dX4_isFold_4 rfl (lv_at hl 1 rfl) ?_
    refine lv_aload_n hx hb dX4_isFold_5 rfl (lv_at hl 0 rfl) ?_
    refine va_get (D := E.1) (ci := 5) (C := RX4) (T := TX4) (N := 19) hx hb hts hiX4 hown hK.1 hP 0 rfl rfl 1 (by decide) hf48 (fun _ h9 => h9) rfl dX4_isFold_6 ?_
    refine lv_icmp_ge (tgt := 16) hx hb dX4_isFold_9 (by decide) (fun c_2 => ?_) (fun c_2 => ?_)
    · refine lv_iconst (v := nI 0) hx hb dX4_isFold_16 (by decide) ?_
      exact z_reti (by rw [show (fidx n f).isSome = false from by unfold fidx; simp [c_1, c_2]]; rfl) (ret _ _ dX4_isFold_17)
    · refine lv_iconst (v := nI 1) hx hb dX4_isFold_12 (by decide) ?_
      refine lv_goto (tgt := 17) hx hb dX4_isFold_13 (by decide) ?_
      exact z_reti (by rw [show (fidx n f).isSome = true from by unfold fidx; simp [c_1, c_2]]; rfl) (ret _ _ dX4_isFold_17)
set_option maxHeartbeats 4000000 in
set_option maxRecDepth 100000 in
theorem kX4_isOf (l : Launch) (E : zE) (m0 k0 q0 t0 v0 c0 o0 s0 j0 r0 f0 g0 h0 : Nat) (cd : Int32) (n : Nat) (K M : Nat → Nat) (TT : Nat → Int32) (VV CC : Nat → Int64) (OO : Nat → Nat) (b : Nat) (S J : Nat → Nat) (RR : Nat → Bool) (w1 w2 w3 w4 : Int32) (SF SM FD : Nat → Nat) (hn : n ≤ 12) (hK5 : ∀ j, j < n → K j < 5) (f : Int32) (k_ : Nat) (hk_ : k_ < 5) : Met l yX4_isOf wsX4_isOf (rmL 1) (va_Pc [.ref m0, .int f, .int (nI k_)] (zW E (mW E m0 k0 q0 t0 v0 c0 o0 s0 j0 r0 f0 g0 h0 cd n K M TT VV CC OO b S J RR w1 w2 w3 w4 SF SM FD))) (vp_Si (fun r9 => r9 = bI ((fok n K f k_).isSome))) 0 0 (fun _ => False) := by
  refine z_ofRz (cc := cX4_isOf) (maxL := 3) (own := RX4) (by decide) rfl rfl (Nat.le_of_ble_eq_true rfl) ?_
  intro p e s m args below meth c R Q B hP ret ls hl
  obtain ⟨hx, hb, hml, hown, hts, hK, hRf, hRl⟩ := B
  have hiX4 : ∀ w ∈ wsX40, w ∈ wsX4_isOf := by decide +kernel
  have hf7 := hts (.fieldLink RX4 7 "ExactFoldsModel" "kind" "[I") (by decide +kernel)
  have hl : lv_has ls 3 [(0, .ref m0), (1, .int f), (2, .int (nI k_))] := hl
  refine lv_aload_n hx hb dX4_isOf_0 rfl (lv_at hl 0 rfl) ?_
  refine lv_iload_n hx hb dX4_isOf_1 rfl (lv_at hl 1 rfl) ?_
  refine zc_i (W.runV ⟨hx, hb, hml, hown, hts⟩ (kX4_isFold l E m0 k0 q0 t0 v0 c0 o0 s0 j0 r0 f0 g0 h0 cd n K M TT VV CC OO b S J RR w1 w2 w3 w4 SF SM FD hn f) (cwV 1 hts gX4_isOf_X4_isFold rfl rfl rfl (by decide +kernel) ⟨Nat.le_trans (Nat.le_of_ble_eq_true rfl) hRf, Nat.le_trans (Nat.le_of_ble_eq_true rfl) hRl⟩) (z_preV (As := [.int f]) hP hK 0 rfl rfl) rfl rfl hl.1 rfl (lv_room (Nat.le_of_ble_eq_true rfl)) dX4_isOf_2 ⟨Nat.zero_le _, Nat.zero_le _⟩) ?_
  refine zb_if_eq (tgt := 22) hx hb dX4_isOf_5 (by decide) (fun c_1 => ?_) (fun c_1 => ?_)
  · have hfij := fd_none c_1
    refine lv_iconst (v := nI 0) hx hb dX4_isOf_22 (by decide) ?_
    exact z_reti (by unfold fok; rw [hfij]; rfl) (ret _ _ dX4_isOf_23)
  · obtain ⟨j, hjj, rfl, hfij⟩ := fd_some (by omega) c_1
    refine lv_aload_n hx hb dX4_isOf_8 rfl (lv_at hl 0 rfl) ?_
    refine va_get (D := E.1) (ci := 5) (C := RX4) (T := TX4) (N := 19) hx hb hts hiX4 hown hK.1 hP 0 rfl rfl 2 (by decide) hf7 (fun _ h9 => h9) rfl dX4_isOf_9 ?_
    refine lv_iload_n hx hb dX4_isOf_12 rfl (lv_at hl 1 rfl) ?_
    refine zn_iald hx hb hK.1 hP 1 0 rfl rfl (by omega) (by decide) dX4_isOf_13 ?_
    refine lv_iload_n hx hb dX4_isOf_14 rfl (lv_at hl 2 rfl) ?_
    refine zn_icmp_ne (tgt := 22) hx hb dX4_isOf_15 (by decide) (by have := hK5 j hjj; omega) (by omega) (fun c_2 => ?_) (fun c_2 => ?_)
    · refine lv_iconst (v := nI 0) hx hb dX4_isOf_22 (by decide) ?_
      exact z_reti (by unfold fok; rw [hfij]; show _ = bI (if K j = k_ then some j else none).isSome; rw [if_neg c_2]; rfl) (ret _ _ dX4_isOf_23)
    · refine lv_iconst (v := nI 1) hx hb dX4_isOf_18 (by decide) ?_
      refine lv_goto (tgt := 23) hx hb dX4_isOf_19 (by decide) ?_
      exact z_reti (by unfold fok; rw [hfij]; show _ = bI (if K j = k_ then some j else none).isSome; rw [if_pos c_2]; rfl) (ret _ _ dX4_isOf_23)
set_option maxHeartbeats 4000000 in
set_option maxRecDepth 100000 in
theorem kX4_rows (l : Launch) (E : zE) (sz : Nat) (m0 k0 q0 t0 v0 c0 o0 s0 j0 r0 f0 g0 h0 : Nat) (cd : Int32) (n : Nat) (K M : Nat → Nat) (TT : Nat → Int32) (VV CC : Nat → Int64) (OO : Nat → Nat) (b : Nat) (S J : Nat → Nat) (RR : Nat → Bool) (w1 w2 w3 w4 : Int32) (SF SM FD : Nat → Nat) (hn : n ≤ 12) (hM : ∀ j, j < n → M j ≤ 64) (f : Int32) : Met l yX4_rows wsX4_rows (rmL 1) (va_Pc [.ref m0, .int f] (zS E (mW E m0 k0 q0 t0 v0 c0 o0 s0 j0 r0 f0 g0 h0 cd n K M TT VV CC OO b S J RR w1 w2 w3 w4 SF SM FD) sz)) (va_Qi (fun (r9 : Int32) (_ : Unit) => r9 = aRows n M f) (fun _ t9 => zW E (mW E m0 k0 q0 t0 v0 c0 o0 s0 j0 r0 f0 g0 h0 (nI 0) n K M TT VV CC OO b S J RR w1 w2 w3 w4 SF SM FD) t9) (va_A (mW E m0 k0 q0 t0 v0 c0 o0 s0 j0 r0 f0 g0 h0 cd n K M TT VV CC OO b S J RR w1 w2 w3 w4 SF SM FD) sz)) 0 0 (va_A (mW E m0 k0 q0 t0 v0 c0 o0 s0 j0 r0 f0 g0 h0 cd n K M TT VV CC OO b S J RR w1 w2 w3 w4 SF SM FD) sz) := by
  refine z_ofWi (cc := cX4_rows) (maxL := 2) (own := RX4) (by decide) rfl rfl (Nat.le_of_ble_eq_true rfl) ?_
  intro p e s m args below meth c R Q A B hP hD hA ret ls hl
  obtain ⟨hx, hb, hml, hown, hts, hK, hRf, hRl⟩ := B
  have hiX4 : ∀ w ∈ wsX40, w ∈ wsX4_rows := by decide +kernel
  have hf13 := hts (.fieldLink RX4 13 "ExactFoldsModel" "many" "[I") (by decide +kernel)
  have hf52 := hts (.fieldLink RX4 52 "ExactFoldsModel" "code" "I") (by decide +kernel)
  have hS : va_S A s.heap s.heap [] := va_S.rf
  have hl : lv_has ls 2 [(0, .ref m0), (1, .int f)] := hl
  refine lv_aload_n hx hb dX4_rows_0 rfl (lv_at hl 0 rfl) ?_
  refine lv_iconst (v := nI 0) hx hb dX4_rows_1 (by decide) ?_
  refine va_put (D := E.1) (ci := 5) (v := .int (nI 0)) (ty := .int) (C := RX4) (T := TX4) (N := 19) hx hb hts hiX4 tyX4 tyX4_ok nmX4 hown hK.1 hP hD hS 0 rfl rfl 0 (by decide) hf52 (fun _ h9 => h9) rfl (by decide +kernel) rfl rfl (Nat.le_of_ble_eq_true rfl) dX4_rows_2 (fun H locs hP hD hS => ?_)
  have hP : va_P E.1 vwCl (mW E m0 k0 q0 t0 v0 c0 o0 s0 j0 r0 f0 g0 h0 (nI 0) n K M TT VV CC OO b S J RR w1 w2 w3 w4 SF SM FD) H := hP
  have hD : va_D A (mW E m0 k0 q0 t0 v0 c0 o0 s0 j0 r0 f0 g0 h0 (nI 0) n K M TT VV CC OO b S J RR w1 w2 w3 w4 SF SM FD) := hD
  refine lv_aload_n hx hb dX4_rows_5 rfl (lv_at hl 0 rfl) ?_
  refine lv_iload_n hx hb dX4_rows_6 rfl (lv_at hl 1 rfl) ?_
  refine zc_i (W.runV ⟨hx, hb, hml, hown, hts⟩ (kX4_isFold l E m0 k0 q0 t0 v0 c0 o0 s0 j0 r0 f0 g0 h0 (nI 0) n K M TT VV CC OO b S J RR w1 w2 w3 w4 SF SM FD hn f) (cwV 1 hts gX4_rows_X4_isFold rfl rfl rfl (by decide +kernel) ⟨Nat.le_trans (Nat.le_of_ble_eq_true rfl) hRf, Nat.le_trans (Nat.le_of_ble_eq_true rfl) hRl⟩) (z_preV (As := [.int f]) hP hK 0 rfl rfl) rfl rfl hl.1 rfl (lv_room (Nat.le_of_ble_eq_true rfl)) dX4_rows_7 ⟨Nat.zero_le _, Nat.zero_le _⟩) ?_
  refine zb_if_eq (tgt := 22) hx hb dX4_rows_10 (by decide) (fun c_1 => ?_) (fun c_1 => ?_)
  · have hfij := fd_none c_1
    refine lv_iconst (v := (-1)) hx hb dX4_rows_22 (by decide) ?_
    exact z_reti (by unfold aRows; rw [hfij]; rfl) (ret _ _ _ _ (hP) hS dX4_rows_23)
  · obtain ⟨j, hjj, rfl, hfij⟩ := fd_some (by omega) c_1
    refine lv_aload_n hx hb dX4_rows_13 rfl (lv_at hl 0 rfl) ?_
    refine va_get (D := E.1) (ci := 5) (C := RX4) (T := TX4) (N := 19) hx hb hts hiX4 hown hK.1 hP 0 rfl rfl 3 (by decide) hf13 (fun _ h9 => h9) rfl dX4_rows_14 ?_
    refine lv_iload_n hx hb dX4_rows_17 rfl (lv_at hl 1 rfl) ?_
    refine zn_iald hx hb hK.1 hP 2 0 rfl rfl (by omega) (by decide) dX4_rows_18 ?_
    refine lv_goto (tgt := 23) hx hb dX4_rows_19 (by decide) ?_
    exact z_reti (by unfold aRows; rw [hfij]; rfl) (ret _ _ _ _ (hP) hS dX4_rows_23)
set_option maxHeartbeats 4000000 in
set_option maxRecDepth 100000 in
theorem kX4_rank (l : Launch) (E : zE) (sz : Nat) (m0 k0 q0 t0 v0 c0 o0 s0 j0 r0 f0 g0 h0 : Nat) (cd : Int32) (n : Nat) (K M : Nat → Nat) (TT : Nat → Int32) (VV CC : Nat → Int64) (OO : Nat → Nat) (b : Nat) (S J : Nat → Nat) (RR : Nat → Bool) (w1 w2 w3 w4 : Int32) (SF SM FD : Nat → Nat) (hn : n ≤ 12) (hM : ∀ j, j < n → M j ≤ 64) (hK5 : ∀ j, j < n → K j < 5) (f : Int32) (v : Int64) : Met l yX4_rank wsX4_rank (rmL 1) (va_Pc [.ref m0, .int f, .long v] (zS E (mW E m0 k0 q0 t0 v0 c0 o0 s0 j0 r0 f0 g0 h0 cd n K M TT VV CC OO b S J RR w1 w2 w3 w4 SF SM FD) sz)) (va_Qi (fun (r9 : Int32) (_ : Unit) => r9 = aRank n K M (vw VV) f v) (fun _ t9 => zW E (mW E m0 k0 q0 t0 v0 c0 o0 s0 j0 r0 f0 g0 h0 (nI 0) n K M TT VV CC OO b S J RR w1 w2 w3 w4 SF SM FD) t9) (va_A (mW E m0 k0 q0 t0 v0 c0 o0 s0 j0 r0 f0 g0 h0 cd n K M TT VV CC OO b S J RR w1 w2 w3 w4 SF SM FD) sz)) 0 0 (va_A (mW E m0 k0 q0 t0 v0 c0 o0 s0 j0 r0 f0 g0 h0 cd n K M TT VV CC OO b S J RR w1 w2 w3 w4 SF SM FD) sz) := by
  refine z_ofWi (cc := cX4_rank) (maxL := 6) (own := RX4) (by decide) rfl rfl (Nat.le_of_ble_eq_true rfl) ?_
  intro p e s m args below meth c R Q A B hP hD hA ret ls hl
  obtain ⟨hx, hb, hml, hown, hts, hK, hRf, hRl⟩ := B
  have hiX4 : ∀ w ∈ wsX40, w ∈ wsX4_rank := by decide +kernel
  have hf7 := hts (.fieldLink RX4 7 "ExactFoldsModel" "kind" "[I") (by decide +kernel)
  have hf13 := hts (.fieldLink RX4 13 "ExactFoldsModel" "many" "[I") (by decide +kernel)
  have hf19 := hts (.fieldLink RX4 19 "ExactFoldsModel" "values" "[J") (by decide +kernel)
  have hf52 := hts (.fieldLink RX4 52 "ExactFoldsModel" "code" "I") (by decide +kernel)
  have hS : va_S A s.heap s.heap [] := va_S.rf
  have hl : lv_has ls 6 [(0, .ref m0), (1, .int f), (2, .long v)] := hl
  refine lv_aload_n hx hb dX4_rank_0 rfl (lv_at hl 0 rfl) ?_
  refine lv_iconst (v := nI 0) hx hb dX4_rank_1 (by decide) ?_
  refine va_put (D := E.1) (ci := 5) (v := .int (nI 0)) (ty := .int) (C := RX4) (T := TX4) (N := 19) hx hb hts hiX4 tyX4 tyX4_ok nmX4 hown hK.1 hP hD hS 0 rfl rfl 0 (by decide) hf52 (fun _ h9 => h9) rfl (by decide +kernel) rfl rfl (Nat.le_of_ble_eq_true rfl) dX4_rank_2 (fun H locs hP hD hS => ?_)
  have hP : va_P E.1 vwCl (mW E m0 k0 q0 t0 v0 c0 o0 s0 j0 r0 f0 g0 h0 (nI 0) n K M TT VV CC OO b S J RR w1 w2 w3 w4 SF SM FD) H := hP
  have hD : va_D A (mW E m0 k0 q0 t0 v0 c0 o0 s0 j0 r0 f0 g0 h0 (nI 0) n K M TT VV CC OO b S J RR w1 w2 w3 w4 SF SM FD) := hD
  refine lv_aload_n hx hb dX4_rank_5 rfl (lv_at hl 0 rfl) ?_
  refine lv_iload_n hx hb dX4_rank_6 rfl (lv_at hl 1 rfl) ?_
  refine zc_i (W.runV ⟨hx, hb, hml, hown, hts⟩ (kX4_isFold l E m0 k0 q0 t0 v0 c0 o0 s0 j0 r0 f0 g0 h0 (nI 0) n K M TT VV CC OO b S J RR w1 w2 w3 w4 SF SM FD hn f) (cwV 1 hts gX4_rank_X4_isFold rfl rfl rfl (by decide +kernel) ⟨Nat.le_trans (Nat.le_of_ble_eq_true rfl) hRf, Nat.le_trans (Nat.le_of_ble_eq_true rfl) hRl⟩) (z_preV (As := [.int f]) hP hK 0 rfl rfl) rfl rfl hl.1 rfl (lv_room (Nat.le_of_ble_eq_true rfl)) dX4_rank_7 ⟨Nat.zero_le _, Nat.zero_le _⟩) ?_
  refine zb_if_ne (tgt := 15) hx hb dX4_rank_10 (by decide) (fun c_1 => ?_) (fun c_1 => ?_)
  · obtain ⟨j, hjj, rfl, hfij⟩ := fd_some (by omega) c_1
    have hMj := hM j hjj
    have hKj := hK5 j hjj
    refine lv_aload_n hx hb dX4_rank_15 rfl (lv_at hl 0 rfl) ?_
    refine va_get (D := E.1) (ci := 5) (C := RX4) (T := TX4) (N := 19) hx hb hts hiX4 hown hK.1 hP 0 rfl rfl 2 (by decide) hf7 (fun _ h9 => h9) rfl dX4_rank_16 ?_
    refine lv_iload_n hx hb dX4_rank_19 rfl (lv_at hl 1 rfl) ?_
    refine zn_iald hx hb hK.1 hP 1 0 rfl rfl (by omega) (by decide) dX4_rank_20 ?_
    refine lv_iconst (v := nI 3) hx hb dX4_rank_21 (by decide) ?_
    refine zn_icmp_eq (tgt := 28) hx hb dX4_rank_22 (by decide) (by omega) (by omega) (fun c_2 => ?_) (fun c_2 => ?_)
    · have hk3 : K j = 3 := c_2
      refine lv_iconst (v := nI 0) hx hb dX4_rank_28 (by decide) ?_
      refine lv_istore (lv' := [(4, .int (nI 0)), (0, .ref m0), (1, .int (nI j)), (2, .long v)]) hx hb dX4_rank_29 hl (by decide) rfl (fun ls hl => ?_)
      refine lv_bipush (v := nI 64) hx hb dX4_rank_31 (by decide) ?_
      refine lv_iload_n hx hb dX4_rank_33 rfl (lv_at hl 2 rfl) ?_
      refine zn_imul hx hb dX4_rank_34 ?_
      refine lv_istore (lv' := [(5, .int (nI (64 * j))), (4, .int (nI 0)), (0, .ref m0), (1, .int (nI j)), (2, .long v)]) hx hb dX4_rank_35 hl (by decide) rfl (fun ls hl => ?_)
      have lp : ∀ (fu : Nat) (i : Nat) (x : Nat) (ls : Array Slot) (H : Heap) (locs : List Loc), M j - i < fu → (i ≤ M j) → (x = cntB (vw VV j) v i) → lv_has ls 6 [(0, .ref m0), (1, .int (nI j)), (2, .long v), (4, .int (nI x)), (5, .int (nI (64 * j + i)))] → va_P E.1 vwCl (mW E m0 k0 q0 t0 v0 c0 o0 s0 j0 r0 f0 g0 h0 (nI 0) n K M TT VV CC OO b S J RR w1 w2 w3 w4 SF SM FD) H → va_D A (mW E m0 k0 q0 t0 v0 c0 o0 s0 j0 r0 f0 g0 h0 (nI 0) n K M TT VV CC OO b S J RR w1 w2 w3 w4 SF SM FD) → va_S A s.heap H locs → W p l e R s m args below meth c H locs 0 0 Q (F0 m 37 ls []) := by
        intro fu
        induction fu with
        | zero => intros; exact absurd (by assumption) (Nat.not_lt_zero _)
        | succ fu ihlp =>
          intro i x ls H locs hfu hi hx2 hl hP hD hS
          refine lv_iload hx hb dX4_rank_37 (lv_at hl 4 rfl) ?_
          refine lv_bipush (v := nI 64) hx hb dX4_rank_39 (by decide) ?_
          refine lv_iload_n hx hb dX4_rank_41 rfl (lv_at hl 1 rfl) ?_
          refine zn_imul hx hb dX4_rank_42 ?_
          refine lv_aload_n hx hb dX4_rank_43 rfl (lv_at hl 0 rfl) ?_
          refine va_get (D := E.1) (ci := 5) (C := RX4) (T := TX4) (N := 19) hx hb hts hiX4 hown hK.1 hP 0 rfl rfl 3 (by decide) hf13 (fun _ h9 => h9) rfl dX4_rank_44 ?_
          refine lv_iload_n hx hb dX4_rank_47 rfl (lv_at hl 1 rfl) ?_
          refine zn_iald hx hb hK.1 hP 2 0 rfl rfl (by omega) (by decide) dX4_rank_48 ?_
          refine zn_iadd hx hb dX4_rank_49 ?_
          refine zn_icmp_ge (tgt := 81) hx hb dX4_rank_50 (by decide) (by omega) (by omega) (fun c_3 => ?_) (fun c_3 => ?_)
          · obtain rfl : i = M j := by omega
            refine lv_iload hx hb dX4_rank_81 (lv_at hl 3 rfl) ?_
            exact z_reti (by unfold aRank; rw [hfij]; show _ = if K j = 3 then nI (cntB (vw VV j) v (M j)) else (-3); rw [if_pos hk3, hx2]) (ret _ _ _ _ (hP) hS dX4_rank_83)
          · refine lv_iload hx hb dX4_rank_53 (lv_at hl 3 rfl) ?_
            refine lv_aload_n hx hb dX4_rank_55 rfl (lv_at hl 0 rfl) ?_
            refine va_get (D := E.1) (ci := 5) (C := RX4) (T := TX4) (N := 19) hx hb hts hiX4 hown hK.1 hP 0 rfl rfl 5 (by decide) hf19 (fun _ h9 => h9) rfl dX4_rank_56 ?_
            refine lv_iload hx hb dX4_rank_59 (lv_at hl 4 rfl) ?_
            refine zn_lald hx hb hK.1 hP 4 1 rfl rfl (by omega) (by decide) dX4_rank_61 ?_
            refine lv_lload_n hx hb dX4_rank_62 rfl (lv_at hl 2 rfl) ?_
            refine zl_ge (tgt := 71) hx hb dX4_rank_63 dX4_rank_64 (by decide) (fun c_4 => ?_) (fun c_4 => ?_)
            · have hq2 : x + 0 = cntB (vw VV j) v (i + 1) := by unfold cntB; rw [if_neg (show ¬ vw VV j i < v from c_4)]; exact hx2
              refine lv_iconst (v := nI 0) hx hb dX4_rank_71 (by decide) ?_
              refine zn_iadd hx hb dX4_rank_72 ?_
              refine lv_istore (lv' := [(4, .int (nI (x + 0))), (0, .ref m0), (1, .int (nI j)), (2, .long v), (5, .int (nI (64 * j + i)))]) hx hb dX4_rank_73 hl (by decide) rfl (fun ls hl => ?_)
              refine lv_iinc (v := nI (64 * j + i + 1)) (lv' := [(5, .int (nI (64 * j + i + 1))), (4, .int (nI (x + 0))), (0, .ref m0), (1, .int (nI j)), (2, .long v)]) hx hb dX4_rank_75 hl (k := 4) rfl (z_inc _ 1) (by decide) rfl (fun ls hl => ?_)
              refine lv_goto (tgt := 37) hx hb dX4_rank_78 (by decide) ?_
              exact ihlp (i + 1) (x + 0) ls _ _ (by omega) (by omega) (hq2) (lv_sub hl [2, 3, 4, 1, 0] rfl) hP hD hS
            · have hq2 : x + 1 = cntB (vw VV j) v (i + 1) := by unfold cntB; rw [if_pos (show vw VV j i < v from c_4)]; omega
              refine lv_iconst (v := nI 1) hx hb dX4_rank_67 (by decide) ?_
              refine lv_goto (tgt := 72) hx hb dX4_rank_68 (by decide) ?_
              refine zn_iadd hx hb dX4_rank_72 ?_
              refine lv_istore (lv' := [(4, .int (nI (x + 1))), (0, .ref m0), (1, .int (nI j)), (2, .long v), (5, .int (nI (64 * j + i)))]) hx hb dX4_rank_73 hl (by decide) rfl (fun ls hl => ?_)
              refine lv_iinc (v := nI (64 * j + i + 1)) (lv' := [(5, .int (nI (64 * j + i + 1))), (4, .int (nI (x + 1))), (0, .ref m0), (1, .int (nI j)), (2, .long v)]) hx hb dX4_rank_75 hl (k := 4) rfl (z_inc _ 1) (by decide) rfl (fun ls hl => ?_)
              refine lv_goto (tgt := 37) hx hb dX4_rank_78 (by decide) ?_
              exact ihlp (i + 1) (x + 1) ls _ _ (by omega) (by omega) (hq2) (lv_sub hl [2, 3, 4, 1, 0] rfl) hP hD hS
      exact lp _ 0 0 ls _ _ (Nat.lt_succ_self _) (Nat.zero_le _) (rfl) (lv_sub hl [2, 3, 4, 1, 0] rfl) hP hD hS
    · refine lv_bipush (v := (-3)) hx hb dX4_rank_25 (by decide) ?_
      exact z_reti (by unfold aRank; rw [hfij]; show _ = if K j = 3 then nI (cntB (vw VV j) v (M j)) else (-3); rw [if_neg c_2]) (ret _ _ _ _ (hP) hS dX4_rank_27)
  · have hfij := fd_none c_1
    refine lv_iconst (v := (-1)) hx hb dX4_rank_13 (by decide) ?_
    exact z_reti (by unfold aRank; rw [hfij]; rfl) (ret _ _ _ _ (hP) hS dX4_rank_14)
set_option maxHeartbeats 4000000 in
set_option maxRecDepth 100000 in
theorem kX4_fold (l : Launch) (E : zE) (sz : Nat) (m0 k0 q0 t0 v0 c0 o0 s0 j0 r0 f0 g0 h0 : Nat) (cd : Int32) (n : Nat) (K M : Nat → Nat) (TT : Nat → Int32) (VV CC : Nat → Int64) (OO : Nat → Nat) (b : Nat) (S J : Nat → Nat) (RR : Nat → Bool) (w1 w2 w3 w4 : Int32) (SF SM FD : Nat → Nat) (hn : n ≤ 12) (k : Int32) : Met l yX4_fold wsX4_fold (rmL 0) (va_Pc [.ref m0, .int k] (zS E (mW E m0 k0 q0 t0 v0 c0 o0 s0 j0 r0 f0 g0 h0 cd n K M TT VV CC OO b S J RR w1 w2 w3 w4 SF SM FD) sz)) (va_Qi (fun (r9 : Int32) (_ : Unit) => r9 = fdA n k) (fun _ t9 => zW E (mW E m0 k0 q0 t0 v0 c0 o0 s0 j0 r0 f0 g0 h0 (nI 0) (fdN n k) (fdK K n k) (fdM M n k) TT VV CC OO b S J RR w1 w2 w3 w4 SF SM FD) t9) (va_A (mW E m0 k0 q0 t0 v0 c0 o0 s0 j0 r0 f0 g0 h0 cd n K M TT VV CC OO b S J RR w1 w2 w3 w4 SF SM FD) sz)) 0 0 (va_A (mW E m0 k0 q0 t0 v0 c0 o0 s0 j0 r0 f0 g0 h0 cd n K M TT VV CC OO b S J RR w1 w2 w3 w4 SF SM FD) sz) := by
  refine z_ofWi (cc := cX4_fold) (maxL := 2) (own := RX4) (by decide) rfl rfl (Nat.le_of_ble_eq_true rfl) ?_
  intro p e s m args below meth c R Q A B hP hD hA ret ls hl
  obtain ⟨hx, hb, hml, hown, hts, hK, hRf, hRl⟩ := B
  have hiX4 : ∀ w ∈ wsX40, w ∈ wsX4_fold := by decide +kernel
  have hf7 := hts (.fieldLink RX4 7 "ExactFoldsModel" "kind" "[I") (by decide +kernel)
  have hf13 := hts (.fieldLink RX4 13 "ExactFoldsModel" "many" "[I") (by decide +kernel)
  have hf48 := hts (.fieldLink RX4 48 "ExactFoldsModel" "folds" "I") (by decide +kernel)
  have hf52 := hts (.fieldLink RX4 52 "ExactFoldsModel" "code" "I") (by decide +kernel)
  have hS : va_S A s.heap s.heap [] := va_S.rf
  have hl : lv_has ls 2 [(0, .ref m0), (1, .int k)] := hl
  refine lv_aload_n hx hb dX4_fold_0 rfl (lv_at hl 0 rfl) ?_
  refine lv_iconst (v := nI 0) hx hb dX4_fold_1 (by decide) ?_
  refine va_put (D := E.1) (ci := 5) (v := .int (nI 0)) (ty := .int) (C := RX4) (T := TX4) (N := 19) hx hb hts hiX4 tyX4 tyX4_ok nmX4 hown hK.1 hP hD hS 0 rfl rfl 0 (by decide) hf52 (fun _ h9 => h9) rfl (by decide +kernel) rfl rfl (Nat.le_of_ble_eq_true rfl) dX4_fold_2 (fun H locs hP hD hS => ?_)
  have hP : va_P E.1 vwCl (mW E m0 k0 q0 t0 v0 c0 o0 s0 j0 r0 f0 g0 h0 (nI 0) n K M TT VV CC OO b S J RR w1 w2 w3 w4 SF SM FD) H := hP
  have hD : va_D A (mW E m0 k0 q0 t0 v0 c0 o0 s0 j0 r0 f0 g0 h0 (nI 0) n K M TT VV CC OO b S J RR w1 w2 w3 w4 SF SM FD) := hD
  refine lv_iload_n hx hb dX4_fold_5 rfl (lv_at hl 1 rfl) ?_
  refine lv_if_lt (tgt := 14) hx hb dX4_fold_6 (by decide) (fun c_1 => ?_) (fun c_1 => ?_)
  · refine lv_bipush (v := (-2)) hx hb dX4_fold_14 (by decide) ?_
    exact z_reti (by unfold fdA; rw [if_pos (Or.inl c_1)]) (ret _ _ _ _ (by unfold fdN fdK fdM; rw [if_neg (show ¬ fdOk n k from (fun q => q.1 c_1)), if_neg (show ¬ fdOk n k from (fun q => q.1 c_1)), if_neg (show ¬ fdOk n k from (fun q => q.1 c_1))]; exact hP) hS dX4_fold_16)
  · refine lv_iload_n hx hb dX4_fold_9 rfl (lv_at hl 1 rfl) ?_
    refine lv_iconst (v := nI 4) hx hb dX4_fold_10 (by decide) ?_
    refine lv_icmp_le (tgt := 17) hx hb dX4_fold_11 (by decide) (fun c_2 => ?_) (fun c_2 => ?_)
    · have hk4 : ¬ nI 4 < k := nlt_of_le c_2
      obtain ⟨kk, hkk, rfl⟩ := fi_of (n := 5) (by decide) c_1 (nle5 c_2)
      refine lv_aload_n hx hb dX4_fold_17 rfl (lv_at hl 0 rfl) ?_
      refine va_get (D := E.1) (ci := 5) (C := RX4) (T := TX4) (N := 19) hx hb hts hiX4 hown hK.1 hP 0 rfl rfl 1 (by decide) hf48 (fun _ h9 => h9) rfl dX4_fold_18 ?_
      refine lv_bipush (v := nI 12) hx hb dX4_fold_21 (by decide) ?_
      refine zn_icmp_ne (tgt := 29) hx hb dX4_fold_23 (by decide) (by omega) (by omega) (fun c_3 => ?_) (fun c_3 => ?_)
      · refine lv_aload_n hx hb dX4_fold_29 rfl (lv_at hl 0 rfl) ?_
        refine va_get (D := E.1) (ci := 5) (C := RX4) (T := TX4) (N := 19) hx hb hts hiX4 hown hK.1 hP 0 rfl rfl 2 (by decide) hf7 (fun _ h9 => h9) rfl dX4_fold_30 ?_
        refine lv_aload_n hx hb dX4_fold_33 rfl (lv_at hl 0 rfl) ?_
        refine va_get (D := E.1) (ci := 5) (C := RX4) (T := TX4) (N := 19) hx hb hts hiX4 hown hK.1 hP 0 rfl rfl 1 (by decide) hf48 (fun _ h9 => h9) rfl dX4_fold_34 ?_
        refine lv_iload_n hx hb dX4_fold_37 rfl (lv_at hl 1 rfl) ?_
        refine zn_iast hx hb hK.1 hP hD hS 1 0 rfl rfl (by omega) (by decide) dX4_fold_38 (fun H locs hP hD hS => ?_)
        have hP : va_P E.1 vwCl (mW E m0 k0 q0 t0 v0 c0 o0 s0 j0 r0 f0 g0 h0 (nI 0) n (updN K n kk) M TT VV CC OO b S J RR w1 w2 w3 w4 SF SM FD) H := by rw [upd_nI] at hP; exact hP
        have hD : va_D A (mW E m0 k0 q0 t0 v0 c0 o0 s0 j0 r0 f0 g0 h0 (nI 0) n (updN K n kk) M TT VV CC OO b S J RR w1 w2 w3 w4 SF SM FD) := by rw [upd_nI] at hD; exact hD
        refine lv_aload_n hx hb dX4_fold_39 rfl (lv_at hl 0 rfl) ?_
        refine va_get (D := E.1) (ci := 5) (C := RX4) (T := TX4) (N := 19) hx hb hts hiX4 hown hK.1 hP 0 rfl rfl 3 (by decide) hf13 (fun _ h9 => h9) rfl dX4_fold_40 ?_
        refine lv_aload_n hx hb dX4_fold_43 rfl (lv_at hl 0 rfl) ?_
        refine va_get (D := E.1) (ci := 5) (C := RX4) (T := TX4) (N := 19) hx hb hts hiX4 hown hK.1 hP 0 rfl rfl 1 (by decide) hf48 (fun _ h9 => h9) rfl dX4_fold_44 ?_
        refine lv_iconst (v := nI 0) hx hb dX4_fold_47 (by decide) ?_
        refine zn_iast hx hb hK.1 hP hD hS 2 0 rfl rfl (by omega) (by decide) dX4_fold_48 (fun H locs hP hD hS => ?_)
        have hP : va_P E.1 vwCl (mW E m0 k0 q0 t0 v0 c0 o0 s0 j0 r0 f0 g0 h0 (nI 0) n (updN K n kk) (updN M n 0) TT VV CC OO b S J RR w1 w2 w3 w4 SF SM FD) H := by rw [upd_nI] at hP; exact hP
        have hD : va_D A (mW E m0 k0 q0 t0 v0 c0 o0 s0 j0 r0 f0 g0 h0 (nI 0) n (updN K n kk) (updN M n 0) TT VV CC OO b S J RR w1 w2 w3 w4 SF SM FD) := by rw [upd_nI] at hD; exact hD
        refine lv_aload_n hx hb dX4_fold_49 rfl (lv_at hl 0 rfl) ?_
        refine lv_dup hx hb dX4_fold_50 rfl ?_
        refine va_get (D := E.1) (ci := 5) (C := RX4) (T := TX4) (N := 19) hx hb hts hiX4 hown hK.1 hP 0 rfl rfl 1 (by decide) hf48 (fun _ h9 => h9) rfl dX4_fold_51 ?_
        refine lv_iconst (v := nI 1) hx hb dX4_fold_54 (by decide) ?_
        refine zn_iadd hx hb dX4_fold_55 ?_
        refine va_put (D := E.1) (ci := 5) (v := .int (nI (n + 1))) (ty := .int) (C := RX4) (T := TX4) (N := 19) hx hb hts hiX4 tyX4 tyX4_ok nmX4 hown hK.1 hP hD hS 0 rfl rfl 1 (by decide) hf48 (fun _ h9 => h9) rfl (by decide +kernel) rfl rfl (Nat.le_of_ble_eq_true rfl) dX4_fold_56 (fun H locs hP hD hS => ?_)
        have hP : va_P E.1 vwCl (mW E m0 k0 q0 t0 v0 c0 o0 s0 j0 r0 f0 g0 h0 (nI 0) (n + 1) (updN K n kk) (updN M n 0) TT VV CC OO b S J RR w1 w2 w3 w4 SF SM FD) H := hP
        have hD : va_D A (mW E m0 k0 q0 t0 v0 c0 o0 s0 j0 r0 f0 g0 h0 (nI 0) (n + 1) (updN K n kk) (updN M n 0) TT VV CC OO b S J RR w1 w2 w3 w4 SF SM FD) := hD
        refine lv_aload_n hx hb dX4_fold_59 rfl (lv_at hl 0 rfl) ?_
        refine va_get (D := E.1) (ci := 5) (C := RX4) (T := TX4) (N := 19) hx hb hts hiX4 hown hK.1 hP 0 rfl rfl 1 (by decide) hf48 (fun _ h9 => h9) rfl dX4_fold_60 ?_
        refine lv_iconst (v := nI 1) hx hb dX4_fold_63 (by decide) ?_
        refine zn_isub hx hb (by omega) dX4_fold_64 ?_
        exact z_reti (by unfold fdA; rw [if_neg (fun q => q.elim c_1 hk4), if_neg (by omega)]; exact congrArg nI (by omega)) (ret _ _ _ _ (by unfold fdN fdK fdM; rw [if_pos (show fdOk n (nI kk) from ⟨c_1, hk4, by omega⟩), if_pos (show fdOk n (nI kk) from ⟨c_1, hk4, by omega⟩), if_pos (show fdOk n (nI kk) from ⟨c_1, hk4, by omega⟩)]; rw [nI_clamp (by omega)]; exact hP) hS dX4_fold_65)
      · refine lv_bipush (v := (-4)) hx hb dX4_fold_26 (by decide) ?_
        exact z_reti (by unfold fdA; rw [if_neg (fun q => q.elim c_1 hk4), if_pos (by omega)]) (ret _ _ _ _ (by unfold fdN fdK fdM; rw [if_neg (show ¬ fdOk n (nI kk) from (fun q => by have := q.2.2; omega)), if_neg (show ¬ fdOk n (nI kk) from (fun q => by have := q.2.2; omega)), if_neg (show ¬ fdOk n (nI kk) from (fun q => by have := q.2.2; omega))]; exact hP) hS dX4_fold_28)
    · refine lv_bipush (v := (-2)) hx hb dX4_fold_14 (by decide) ?_
      exact z_reti (by unfold fdA; rw [if_pos (Or.inr (gt_of_nle c_2))]) (ret _ _ _ _ (by unfold fdN fdK fdM; rw [if_neg (show ¬ fdOk n k from (fun q => q.2.1 (gt_of_nle c_2))), if_neg (show ¬ fdOk n k from (fun q => q.2.1 (gt_of_nle c_2))), if_neg (show ¬ fdOk n k from (fun q => q.2.1 (gt_of_nle c_2)))]; exact hP) hS dX4_fold_16)
set_option maxHeartbeats 4000000 in
set_option maxRecDepth 100000 in
theorem kX4_put (l : Launch) (E : zE) (sz : Nat) (m0 k0 q0 t0 v0 c0 o0 s0 j0 r0 f0 g0 h0 : Nat) (cd : Int32) (n : Nat) (K M : Nat → Nat) (TT : Nat → Int32) (VV CC : Nat → Int64) (OO : Nat → Nat) (b : Nat) (S J : Nat → Nat) (RR : Nat → Bool) (w1 w2 w3 w4 : Int32) (SF SM FD : Nat → Nat) (hn : n ≤ 12) (hM : ∀ j, j < n → M j ≤ 64) (j : Nat) (hjj : j < n) (t : Int32) (v : Int64) : Met l yX4_put wsX4_put (rmL 0) (va_Pc [.ref m0, .int (nI j), .int t, .long v] (zS E (mW E m0 k0 q0 t0 v0 c0 o0 s0 j0 r0 f0 g0 h0 cd n K M TT VV CC OO b S J RR w1 w2 w3 w4 SF SM FD) sz)) (va_Qi (fun (r9 : Int32) (_ : Unit) => r9 = puA M j) (fun _ t9 => zW E (mW E m0 k0 q0 t0 v0 c0 o0 s0 j0 r0 f0 g0 h0 cd n K (puM M j) (puT M TT j t) (puV M VV j v) CC OO b S J RR w1 w2 w3 w4 SF SM FD) t9) (va_A (mW E m0 k0 q0 t0 v0 c0 o0 s0 j0 r0 f0 g0 h0 cd n K M TT VV CC OO b S J RR w1 w2 w3 w4 SF SM FD) sz)) 0 0 (va_A (mW E m0 k0 q0 t0 v0 c0 o0 s0 j0 r0 f0 g0 h0 cd n K M TT VV CC OO b S J RR w1 w2 w3 w4 SF SM FD) sz) := by
  refine z_ofWi (cc := cX4_put) (maxL := 5) (own := RX4) (by decide) rfl rfl (Nat.le_of_ble_eq_true rfl) ?_
  intro p e s m args below meth c R Q A B hP hD hA ret ls hl
  obtain ⟨hx, hb, hml, hown, hts, hK, hRf, hRl⟩ := B
  have hiX4 : ∀ w ∈ wsX40, w ∈ wsX4_put := by decide +kernel
  have hf13 := hts (.fieldLink RX4 13 "ExactFoldsModel" "many" "[I") (by decide +kernel)
  have hf16 := hts (.fieldLink RX4 16 "ExactFoldsModel" "times" "[I") (by decide +kernel)
  have hf19 := hts (.fieldLink RX4 19 "ExactFoldsModel" "values" "[J") (by decide +kernel)
  have hS : va_S A s.heap s.heap [] := va_S.rf
  have hl : lv_has ls 5 [(0, .ref m0), (1, .int (nI j)), (2, .int t), (3, .long v)] := hl
  have hMj := hM j hjj
  refine lv_aload_n hx hb dX4_put_0 rfl (lv_at hl 0 rfl) ?_
  refine va_get (D := E.1) (ci := 5) (C := RX4) (T := TX4) (N := 19) hx hb hts hiX4 hown hK.1 hP 0 rfl rfl 3 (by decide) hf13 (fun _ h9 => h9) rfl dX4_put_1 ?_
  refine lv_iload_n hx hb dX4_put_4 rfl (lv_at hl 1 rfl) ?_
  refine zn_iald hx hb hK.1 hP 2 0 rfl rfl (by omega) (by decide) dX4_put_5 ?_
  refine lv_bipush (v := nI 64) hx hb dX4_put_6 (by decide) ?_
  refine zn_icmp_ne (tgt := 14) hx hb dX4_put_8 (by decide) (by omega) (by omega) (fun c_1 => ?_) (fun c_1 => ?_)
  · refine lv_aload_n hx hb dX4_put_14 rfl (lv_at hl 0 rfl) ?_
    refine va_get (D := E.1) (ci := 5) (C := RX4) (T := TX4) (N := 19) hx hb hts hiX4 hown hK.1 hP 0 rfl rfl 4 (by decide) hf16 (fun _ h9 => h9) rfl dX4_put_15 ?_
    refine lv_bipush (v := nI 64) hx hb dX4_put_18 (by decide) ?_
    refine lv_iload_n hx hb dX4_put_20 rfl (lv_at hl 1 rfl) ?_
    refine zn_imul hx hb dX4_put_21 ?_
    refine lv_aload_n hx hb dX4_put_22 rfl (lv_at hl 0 rfl) ?_
    refine va_get (D := E.1) (ci := 5) (C := RX4) (T := TX4) (N := 19) hx hb hts hiX4 hown hK.1 hP 0 rfl rfl 3 (by decide) hf13 (fun _ h9 => h9) rfl dX4_put_23 ?_
    refine lv_iload_n hx hb dX4_put_26 rfl (lv_at hl 1 rfl) ?_
    refine zn_iald hx hb hK.1 hP 2 0 rfl rfl (by omega) (by decide) dX4_put_27 ?_
    refine zn_iadd hx hb dX4_put_28 ?_
    refine lv_iload_n hx hb dX4_put_29 rfl (lv_at hl 2 rfl) ?_
    refine zn_iast hx hb hK.1 hP hD hS 3 0 rfl rfl (by omega) (by decide) dX4_put_30 (fun H locs hP hD hS => ?_)
    have hP : va_P E.1 vwCl (mW E m0 k0 q0 t0 v0 c0 o0 s0 j0 r0 f0 g0 h0 cd n K M (upd TT ((64 * j) + (M j)) t) VV CC OO b S J RR w1 w2 w3 w4 SF SM FD) H := hP
    have hD : va_D A (mW E m0 k0 q0 t0 v0 c0 o0 s0 j0 r0 f0 g0 h0 cd n K M (upd TT ((64 * j) + (M j)) t) VV CC OO b S J RR w1 w2 w3 w4 SF SM FD) := hD
    refine lv_aload_n hx hb dX4_put_31 rfl (lv_at hl 0 rfl) ?_
    refine va_get (D := E.1) (ci := 5) (C := RX4) (T := TX4) (N := 19) hx hb hts hiX4 hown hK.1 hP 0 rfl rfl 5 (by decide) hf19 (fun _ h9 => h9) rfl dX4_put_32 ?_
    refine lv_bipush (v := nI 64) hx hb dX4_put_35 (by decide) ?_
    refine lv_iload_n hx hb dX4_put_37 rfl (lv_at hl 1 rfl) ?_
    refine zn_imul hx hb dX4_put_38 ?_
    refine lv_aload_n hx hb dX4_put_39 rfl (lv_at hl 0 rfl) ?_
    refine va_get (D := E.1) (ci := 5) (C := RX4) (T := TX4) (N := 19) hx hb hts hiX4 hown hK.1 hP 0 rfl rfl 3 (by decide) hf13 (fun _ h9 => h9) rfl dX4_put_40 ?_
    refine lv_iload_n hx hb dX4_put_43 rfl (lv_at hl 1 rfl) ?_
    refine zn_iald hx hb hK.1 hP 2 0 rfl rfl (by omega) (by decide) dX4_put_44 ?_
    refine zn_iadd hx hb dX4_put_45 ?_
    refine lv_lload_n hx hb dX4_put_46 rfl (lv_at hl 3 rfl) ?_
    refine zn_last hx hb hK.1 hP hD hS 4 1 rfl rfl (by omega) (by decide) dX4_put_47 (fun H locs hP hD hS => ?_)
    have hP : va_P E.1 vwCl (mW E m0 k0 q0 t0 v0 c0 o0 s0 j0 r0 f0 g0 h0 cd n K M (upd TT ((64 * j) + (M j)) t) (vp_updL VV ((64 * j) + (M j)) v) CC OO b S J RR w1 w2 w3 w4 SF SM FD) H := hP
    have hD : va_D A (mW E m0 k0 q0 t0 v0 c0 o0 s0 j0 r0 f0 g0 h0 cd n K M (upd TT ((64 * j) + (M j)) t) (vp_updL VV ((64 * j) + (M j)) v) CC OO b S J RR w1 w2 w3 w4 SF SM FD) := hD
    refine lv_aload_n hx hb dX4_put_48 rfl (lv_at hl 0 rfl) ?_
    refine va_get (D := E.1) (ci := 5) (C := RX4) (T := TX4) (N := 19) hx hb hts hiX4 hown hK.1 hP 0 rfl rfl 3 (by decide) hf13 (fun _ h9 => h9) rfl dX4_put_49 ?_
    refine lv_iload_n hx hb dX4_put_52 rfl (lv_at hl 1 rfl) ?_
    refine lv_dup2_11 hx hb dX4_put_53 rfl rfl ?_
    refine zn_iald hx hb hK.1 hP 2 0 rfl rfl (by omega) (by decide) dX4_put_54 ?_
    refine lv_iconst (v := nI 1) hx hb dX4_put_55 (by decide) ?_
    refine zn_iadd hx hb dX4_put_56 ?_
    refine zn_iast hx hb hK.1 hP hD hS 2 0 rfl rfl (by omega) (by decide) dX4_put_57 (fun H locs hP hD hS => ?_)
    have hP : va_P E.1 vwCl (mW E m0 k0 q0 t0 v0 c0 o0 s0 j0 r0 f0 g0 h0 cd n K (updN M j ((M j) + 1)) (upd TT ((64 * j) + (M j)) t) (vp_updL VV ((64 * j) + (M j)) v) CC OO b S J RR w1 w2 w3 w4 SF SM FD) H := by rw [upd_nI] at hP; exact hP
    have hD : va_D A (mW E m0 k0 q0 t0 v0 c0 o0 s0 j0 r0 f0 g0 h0 cd n K (updN M j ((M j) + 1)) (upd TT ((64 * j) + (M j)) t) (vp_updL VV ((64 * j) + (M j)) v) CC OO b S J RR w1 w2 w3 w4 SF SM FD) := by rw [upd_nI] at hD; exact hD
    refine lv_aload_n hx hb dX4_put_58 rfl (lv_at hl 0 rfl) ?_
    refine va_get (D := E.1) (ci := 5) (C := RX4) (T := TX4) (N := 19) hx hb hts hiX4 hown hK.1 hP 0 rfl rfl 3 (by decide) hf13 (fun _ h9 => h9) rfl dX4_put_59 ?_
    refine lv_iload_n hx hb dX4_put_62 rfl (lv_at hl 1 rfl) ?_
    refine zn_iald hx hb hK.1 hP 2 0 rfl rfl (by omega) (by decide) dX4_put_63 ?_
    exact z_reti (by unfold puA; rw [if_neg c_1, updN_self]) (ret _ _ _ _ (by unfold puM puT puV; rw [if_neg c_1, if_neg c_1, if_neg c_1]; exact hP) hS dX4_put_64)
  · refine lv_bipush (v := (-4)) hx hb dX4_put_11 (by decide) ?_
    exact z_reti (by unfold puA; rw [if_pos c_1]) (ret _ _ _ _ (by unfold puM puT puV; rw [if_pos c_1, if_pos c_1, if_pos c_1]; exact hP) hS dX4_put_13)
set_option maxHeartbeats 4000000 in
set_option maxRecDepth 100000 in
theorem kX4_add (l : Launch) (E : zE) (sz : Nat) (m0 k0 q0 t0 v0 c0 o0 s0 j0 r0 f0 g0 h0 : Nat) (cd : Int32) (n : Nat) (K M : Nat → Nat) (TT : Nat → Int32) (VV CC : Nat → Int64) (OO : Nat → Nat) (b : Nat) (S J : Nat → Nat) (RR : Nat → Bool) (w1 w2 w3 w4 : Int32) (SF SM FD : Nat → Nat) (hn : n ≤ 12) (hM : ∀ j, j < n → M j ≤ 64) (hK5 : ∀ j, j < n → K j < 5) (f t : Int32) (v : Int64) : Met l yX4_add wsX4_add (rmL 2) (va_Pc [.ref m0, .int f, .int t, .long v] (zS E (mW E m0 k0 q0 t0 v0 c0 o0 s0 j0 r0 f0 g0 h0 cd n K M TT VV CC OO b S J RR w1 w2 w3 w4 SF SM FD) sz)) (va_Qi (fun (r9 : Int32) (_ : Unit) => r9 = adA n K M 0 f t v) (fun _ t9 => zW E (mW E m0 k0 q0 t0 v0 c0 o0 s0 j0 r0 f0 g0 h0 (nI 0) n K (adN (adOk n K M 0 f t v) M) (adTm (adOk n K M 0 f t v) M TT t) (adVm (adOk n K M 0 f t v) M VV v) CC OO b S J RR w1 w2 w3 w4 SF SM FD) t9) (va_A (mW E m0 k0 q0 t0 v0 c0 o0 s0 j0 r0 f0 g0 h0 cd n K M TT VV CC OO b S J RR w1 w2 w3 w4 SF SM FD) sz)) 0 0 (va_A (mW E m0 k0 q0 t0 v0 c0 o0 s0 j0 r0 f0 g0 h0 cd n K M TT VV CC OO b S J RR w1 w2 w3 w4 SF SM FD) sz) := by
  refine z_ofWi (cc := cX4_add) (maxL := 5) (own := RX4) (by decide) rfl rfl (Nat.le_of_ble_eq_true rfl) ?_
  intro p e s m args below meth c R Q A B hP hD hA ret ls hl
  obtain ⟨hx, hb, hml, hown, hts, hK, hRf, hRl⟩ := B
  have hiX4 : ∀ w ∈ wsX40, w ∈ wsX4_add := by decide +kernel
  have hf7 := hts (.fieldLink RX4 7 "ExactFoldsModel" "kind" "[I") (by decide +kernel)
  have hf52 := hts (.fieldLink RX4 52 "ExactFoldsModel" "code" "I") (by decide +kernel)
  have hS : va_S A s.heap s.heap [] := va_S.rf
  have hl : lv_has ls 5 [(0, .ref m0), (1, .int f), (2, .int t), (3, .long v)] := hl
  refine lv_aload_n hx hb dX4_add_0 rfl (lv_at hl 0 rfl) ?_
  refine lv_iconst (v := nI 0) hx hb dX4_add_1 (by decide) ?_
  refine va_put (D := E.1) (ci := 5) (v := .int (nI 0)) (ty := .int) (C := RX4) (T := TX4) (N := 19) hx hb hts hiX4 tyX4 tyX4_ok nmX4 hown hK.1 hP hD hS 0 rfl rfl 0 (by decide) hf52 (fun _ h9 => h9) rfl (by decide +kernel) rfl rfl (Nat.le_of_ble_eq_true rfl) dX4_add_2 (fun H locs hP hD hS => ?_)
  have hP : va_P E.1 vwCl (mW E m0 k0 q0 t0 v0 c0 o0 s0 j0 r0 f0 g0 h0 (nI 0) n K M TT VV CC OO b S J RR w1 w2 w3 w4 SF SM FD) H := hP
  have hD : va_D A (mW E m0 k0 q0 t0 v0 c0 o0 s0 j0 r0 f0 g0 h0 (nI 0) n K M TT VV CC OO b S J RR w1 w2 w3 w4 SF SM FD) := hD
  refine lv_aload_n hx hb dX4_add_5 rfl (lv_at hl 0 rfl) ?_
  refine lv_iload_n hx hb dX4_add_6 rfl (lv_at hl 1 rfl) ?_
  refine zc_i (W.runV ⟨hx, hb, hml, hown, hts⟩ (kX4_isFold l E m0 k0 q0 t0 v0 c0 o0 s0 j0 r0 f0 g0 h0 (nI 0) n K M TT VV CC OO b S J RR w1 w2 w3 w4 SF SM FD hn f) (cwV 1 hts gX4_add_X4_isFold rfl rfl rfl (by decide +kernel) ⟨Nat.le_trans (Nat.le_of_ble_eq_true rfl) hRf, Nat.le_trans (Nat.le_of_ble_eq_true rfl) hRl⟩) (z_preV (As := [.int f]) hP hK 0 rfl rfl) rfl rfl hl.1 rfl (lv_room (Nat.le_of_ble_eq_true rfl)) dX4_add_7 ⟨Nat.zero_le _, Nat.zero_le _⟩) ?_
  refine zb_if_ne (tgt := 15) hx hb dX4_add_10 (by decide) (fun c_1 => ?_) (fun c_1 => ?_)
  · obtain ⟨j, hjj, rfl, hfij⟩ := fd_some (by omega) c_1
    have hMj := hM j hjj
    have hKj := hK5 j hjj
    refine lv_aload_n hx hb dX4_add_15 rfl (lv_at hl 0 rfl) ?_
    refine va_get (D := E.1) (ci := 5) (C := RX4) (T := TX4) (N := 19) hx hb hts hiX4 hown hK.1 hP 0 rfl rfl 2 (by decide) hf7 (fun _ h9 => h9) rfl dX4_add_16 ?_
    refine lv_iload_n hx hb dX4_add_19 rfl (lv_at hl 1 rfl) ?_
    refine zn_iald hx hb hK.1 hP 1 0 rfl rfl (by omega) (by decide) dX4_add_20 ?_
    refine lv_iconst (v := nI 1) hx hb dX4_add_21 (by decide) ?_
    refine zn_icmp_ne (tgt := 28) hx hb dX4_add_22 (by decide) (by omega) (by omega) (fun c_2 => ?_) (fun c_2 => ?_)
    · have hrr : (if K j = 1 then 1 else 0) = 0 := by rw [if_neg c_2]
      have hvv : isVal (K j) v = mVal (K j) v := val_eq hKj c_2 v
      refine lv_iload_n hx hb dX4_add_28 rfl (lv_at hl 2 rfl) ?_
      refine lv_i2l hx hb dX4_add_29 rfl ?_
      refine lv_lconst (v := 0) hx hb dX4_add_30 rfl ?_
      refine lv_ldc2 (v := 1000000) hx hb hown (hts (.constantLong RX4 61 (1000000)) (by decide +kernel)) dX4_add_31 ?_
      refine zc_i (W.runS ⟨hx, hb, hml, hown, hts⟩ (kX4_in l E t.toInt64 0 1000000) (cwS 3 hts gX4_add_X4_in rfl rfl rfl (by decide +kernel) ⟨Nat.le_trans (Nat.le_of_ble_eq_true rfl) hRf, Nat.le_trans (Nat.le_of_ble_eq_true rfl) hRl⟩) (z_preR (av := [.long t.toInt64, .long 0, .long 1000000]) (hP.sub (ws' := []) [] rfl) hK) rfl rfl hl.1 rfl (lv_room (Nat.le_of_ble_eq_true rfl)) dX4_add_34 ⟨Nat.zero_le _, Nat.zero_le _⟩) ?_
      refine zb_if_eq (tgt := 63) hx hb dX4_add_37 (by decide) (fun c_3 => ?_) (fun c_3 => ?_)
      · refine lv_bipush (v := (-2)) hx hb dX4_add_63 (by decide) ?_
        exact z_reti (by unfold adA; rw [hfij]; show _ = (if ¬ (if K j = 1 then 1 else 0) = 0 then (-3) else if t < 0 ∨ 1000000 < t ∨ isVal (K j) v = false then (-2) else if M j < 64 then nI (M j + 1) else (-4)); rw [if_neg (fun q => q hrr), if_pos ((inw_f c_3).elim Or.inl (fun q => Or.inr (Or.inl q)))]) (ret _ _ _ _ (by (have ho : adOk n K M 0 (nI j) t v = none := by unfold adOk; rw [hfij]; show (if (if K j = 1 then 1 else 0) = 0 ∧ ¬ t < 0 ∧ ¬ 1000000 < t ∧ isVal (K j) v = true ∧ M j < 64 then some j else none) = _; rw [if_neg (fun q => (inw_f c_3).elim q.2.1 q.2.2.1)]); unfold adN adTm adVm; rw [ho]; exact hP) hS dX4_add_65)
      · refine lv_aload_n hx hb dX4_add_40 rfl (lv_at hl 0 rfl) ?_
        refine va_get (D := E.1) (ci := 5) (C := RX4) (T := TX4) (N := 19) hx hb hts hiX4 hown hK.1 hP 0 rfl rfl 2 (by decide) hf7 (fun _ h9 => h9) rfl dX4_add_41 ?_
        refine lv_iload_n hx hb dX4_add_44 rfl (lv_at hl 1 rfl) ?_
        refine zn_iald hx hb hK.1 hP 1 0 rfl rfl (by omega) (by decide) dX4_add_45 ?_
        refine lv_lload_n hx hb dX4_add_46 rfl (lv_at hl 3 rfl) ?_
        refine zc_i (W.runS ⟨hx, hb, hml, hown, hts⟩ (kX4_isValue l E (K j) (by omega) v) (cwS 2 hts gX4_add_X4_isValue rfl rfl rfl (by decide +kernel) ⟨Nat.le_trans (Nat.le_of_ble_eq_true rfl) hRf, Nat.le_trans (Nat.le_of_ble_eq_true rfl) hRl⟩) (z_preR (av := [.int (nI (K j)), .long v]) (hP.sub (ws' := []) [] rfl) hK) rfl rfl hl.1 rfl (lv_room (Nat.le_of_ble_eq_true rfl)) dX4_add_47 ⟨Nat.zero_le _, Nat.zero_le _⟩) ?_
        refine zb_if_eq (tgt := 63) hx hb dX4_add_50 (by decide) (fun c_4 => ?_) (fun c_4 => ?_)
        · refine lv_bipush (v := (-2)) hx hb dX4_add_63 (by decide) ?_
          exact z_reti (by unfold adA; rw [hfij]; show _ = (if ¬ (if K j = 1 then 1 else 0) = 0 then (-3) else if t < 0 ∨ 1000000 < t ∨ isVal (K j) v = false then (-2) else if M j < 64 then nI (M j + 1) else (-4)); rw [if_neg (fun q => q hrr), if_pos (Or.inr (Or.inr (by rw [hvv, c_4])))]) (ret _ _ _ _ (by (have ho : adOk n K M 0 (nI j) t v = none := by unfold adOk; rw [hfij]; show (if (if K j = 1 then 1 else 0) = 0 ∧ ¬ t < 0 ∧ ¬ 1000000 < t ∧ isVal (K j) v = true ∧ M j < 64 then some j else none) = _; rw [if_neg (fun q => by have := q.2.2.2.1; rw [hvv, c_4] at this; cases this)]); unfold adN adTm adVm; rw [ho]; exact hP) hS dX4_add_65)
        · refine lv_aload_n hx hb dX4_add_53 rfl (lv_at hl 0 rfl) ?_
          refine lv_iload_n hx hb dX4_add_54 rfl (lv_at hl 1 rfl) ?_
          refine lv_iload_n hx hb dX4_add_55 rfl (lv_at hl 2 rfl) ?_
          refine lv_lload_n hx hb dX4_add_56 rfl (lv_at hl 3 rfl) ?_
          refine zall_i (wc' := (mW E m0 k0 q0 t0 v0 c0 o0 s0 j0 r0 f0 g0 h0 (nI 0) n K (puM M j) (puT M TT j t) (puV M VV j v) CC OO b S J RR w1 w2 w3 w4 SF SM FD)) (va_runV ⟨hx, hb, hml, hown, hts⟩ (kX4_put l E _ m0 k0 q0 t0 v0 c0 o0 s0 j0 r0 f0 g0 h0 (nI 0) n K M TT VV CC OO b S J RR w1 w2 w3 w4 SF SM FD hn hM j hjj t v) (cwV 3 hts gX4_add_X4_put rfl rfl rfl (by decide +kernel) ⟨Nat.le_trans (Nat.le_of_ble_eq_true rfl) hRf, Nat.le_trans (Nat.le_of_ble_eq_true rfl) hRl⟩) (z_preWV (As := [.int (nI j), .int t, .long v]) hP hD hK 0 rfl rfl) rfl rfl hl.1 rfl (lv_room (Nat.le_of_ble_eq_true rfl)) dX4_add_57 ⟨Nat.zero_le _, Nat.zero_le _⟩) hD hS hA rfl (fun H locs hP hD hS => ?_)
          refine lv_goto (tgt := 65) hx hb dX4_add_60 (by decide) ?_
          exact z_reti (by unfold adA; rw [hfij]; show _ = (if ¬ (if K j = 1 then 1 else 0) = 0 then (-3) else if t < 0 ∨ 1000000 < t ∨ isVal (K j) v = false then (-2) else if M j < 64 then nI (M j + 1) else (-4)); rw [if_neg (fun q => q hrr), if_neg (fun q => q.elim (inw_t c_3).1 (fun q => q.elim (inw_t c_3).2 (fun q => by rw [hvv, c_4] at q; cases q)))]; exact puA_ad hMj) (ret _ _ _ _ (ad_put (P := fun x1 x2 x3 => va_P E.1 vwCl (mW E m0 k0 q0 t0 v0 c0 o0 s0 j0 r0 f0 g0 h0 (nI 0) n K x1 x2 x3 CC OO b S J RR w1 w2 w3 w4 SF SM FD) H) (o := adOk n K M 0 (nI j) t v) hMj (fun c9 => by unfold adOk; rw [hfij]; show (if (if K j = 1 then 1 else 0) = 0 ∧ ¬ t < 0 ∧ ¬ 1000000 < t ∧ isVal (K j) v = true ∧ M j < 64 then some j else none) = _; rw [if_pos ⟨hrr, (inw_t c_3).1, (inw_t c_3).2, by rw [hvv, c_4], c9⟩]) (fun c9 => by unfold adOk; rw [hfij]; show (if (if K j = 1 then 1 else 0) = 0 ∧ ¬ t < 0 ∧ ¬ 1000000 < t ∧ isVal (K j) v = true ∧ M j < 64 then some j else none) = _; rw [if_neg (fun q => c9 q.2.2.2.2)]) hP) hS dX4_add_65)
    · have hrr : ¬ (if K j = 1 then 1 else 0) = 0 := by rw [if_pos c_2]; decide
      refine lv_bipush (v := (-3)) hx hb dX4_add_25 (by decide) ?_
      exact z_reti (by unfold adA; rw [hfij]; show _ = (if ¬ (if K j = 1 then 1 else 0) = 0 then (-3) else if t < 0 ∨ 1000000 < t ∨ isVal (K j) v = false then (-2) else if M j < 64 then nI (M j + 1) else (-4)); rw [if_pos hrr]) (ret _ _ _ _ (by (have ho : adOk n K M 0 (nI j) t v = none := by unfold adOk; rw [hfij]; show (if (if K j = 1 then 1 else 0) = 0 ∧ ¬ t < 0 ∧ ¬ 1000000 < t ∧ isVal (K j) v = true ∧ M j < 64 then some j else none) = _; rw [if_neg (fun q => hrr q.1)]); unfold adN adTm adVm; rw [ho]; exact hP) hS dX4_add_27)
  · have hfij := fd_none c_1
    refine lv_iconst (v := (-1)) hx hb dX4_add_13 (by decide) ?_
    exact z_reti (by unfold adA; rw [hfij]; rfl) (ret _ _ _ _ (by (have ho : adOk n K M 0 f t v = none := by unfold adOk; rw [hfij]; rfl); unfold adN adTm adVm; rw [ho]; exact hP) hS dX4_add_14)
set_option maxHeartbeats 4000000 in
set_option maxRecDepth 100000 in
theorem kX4_addReal (l : Launch) (E : zE) (sz : Nat) (m0 k0 q0 t0 v0 c0 o0 s0 j0 r0 f0 g0 h0 : Nat) (cd : Int32) (n : Nat) (K M : Nat → Nat) (TT : Nat → Int32) (VV CC : Nat → Int64) (OO : Nat → Nat) (b : Nat) (S J : Nat → Nat) (RR : Nat → Bool) (w1 w2 w3 w4 : Int32) (SF SM FD : Nat → Nat) (hn : n ≤ 12) (hM : ∀ j, j < n → M j ≤ 64) (hK5 : ∀ j, j < n → K j < 5) (f t : Int32) (v : Int64) : Met l yX4_addReal wsX4_addReal (rmL 2) (va_Pc [.ref m0, .int f, .int t, .long v] (zS E (mW E m0 k0 q0 t0 v0 c0 o0 s0 j0 r0 f0 g0 h0 cd n K M TT VV CC OO b S J RR w1 w2 w3 w4 SF SM FD) sz)) (va_Qi (fun (r9 : Int32) (_ : Unit) => r9 = adA n K M 1 f t (wz v)) (fun _ t9 => zW E (mW E m0 k0 q0 t0 v0 c0 o0 s0 j0 r0 f0 g0 h0 (nI 0) n K (adN (adOk n K M 1 f t (wz v)) M) (adTm (adOk n K M 1 f t (wz v)) M TT t) (adVm (adOk n K M 1 f t (wz v)) M VV (wz v)) CC OO b S J RR w1 w2 w3 w4 SF SM FD) t9) (va_A (mW E m0 k0 q0 t0 v0 c0 o0 s0 j0 r0 f0 g0 h0 cd n K M TT VV CC OO b S J RR w1 w2 w3 w4 SF SM FD) sz)) 0 0 (va_A (mW E m0 k0 q0 t0 v0 c0 o0 s0 j0 r0 f0 g0 h0 cd n K M TT VV CC OO b S J RR w1 w2 w3 w4 SF SM FD) sz) := by
  refine z_ofWi (cc := cX4_addReal) (maxL := 5) (own := RX4) (by decide) rfl rfl (Nat.le_of_ble_eq_true rfl) ?_
  intro p e s m args below meth c R Q A B hP hD hA ret ls hl
  obtain ⟨hx, hb, hml, hown, hts, hK, hRf, hRl⟩ := B
  have hiX4 : ∀ w ∈ wsX40, w ∈ wsX4_addReal := by decide +kernel
  have hf7 := hts (.fieldLink RX4 7 "ExactFoldsModel" "kind" "[I") (by decide +kernel)
  have hf52 := hts (.fieldLink RX4 52 "ExactFoldsModel" "code" "I") (by decide +kernel)
  have hS : va_S A s.heap s.heap [] := va_S.rf
  have hl : lv_has ls 5 [(0, .ref m0), (1, .int f), (2, .int t), (3, .long v)] := hl
  refine lv_aload_n hx hb dX4_addReal_0 rfl (lv_at hl 0 rfl) ?_
  refine lv_iconst (v := nI 0) hx hb dX4_addReal_1 (by decide) ?_
  refine va_put (D := E.1) (ci := 5) (v := .int (nI 0)) (ty := .int) (C := RX4) (T := TX4) (N := 19) hx hb hts hiX4 tyX4 tyX4_ok nmX4 hown hK.1 hP hD hS 0 rfl rfl 0 (by decide) hf52 (fun _ h9 => h9) rfl (by decide +kernel) rfl rfl (Nat.le_of_ble_eq_true rfl) dX4_addReal_2 (fun H locs hP hD hS => ?_)
  have hP : va_P E.1 vwCl (mW E m0 k0 q0 t0 v0 c0 o0 s0 j0 r0 f0 g0 h0 (nI 0) n K M TT VV CC OO b S J RR w1 w2 w3 w4 SF SM FD) H := hP
  have hD : va_D A (mW E m0 k0 q0 t0 v0 c0 o0 s0 j0 r0 f0 g0 h0 (nI 0) n K M TT VV CC OO b S J RR w1 w2 w3 w4 SF SM FD) := hD
  refine lv_aload_n hx hb dX4_addReal_5 rfl (lv_at hl 0 rfl) ?_
  refine lv_iload_n hx hb dX4_addReal_6 rfl (lv_at hl 1 rfl) ?_
  refine zc_i (W.runV ⟨hx, hb, hml, hown, hts⟩ (kX4_isFold l E m0 k0 q0 t0 v0 c0 o0 s0 j0 r0 f0 g0 h0 (nI 0) n K M TT VV CC OO b S J RR w1 w2 w3 w4 SF SM FD hn f) (cwV 1 hts gX4_addReal_X4_isFold rfl rfl rfl (by decide +kernel) ⟨Nat.le_trans (Nat.le_of_ble_eq_true rfl) hRf, Nat.le_trans (Nat.le_of_ble_eq_true rfl) hRl⟩) (z_preV (As := [.int f]) hP hK 0 rfl rfl) rfl rfl hl.1 rfl (lv_room (Nat.le_of_ble_eq_true rfl)) dX4_addReal_7 ⟨Nat.zero_le _, Nat.zero_le _⟩) ?_
  refine zb_if_ne (tgt := 15) hx hb dX4_addReal_10 (by decide) (fun c_1 => ?_) (fun c_1 => ?_)
  · obtain ⟨j, hjj, rfl, hfij⟩ := fd_some (by omega) c_1
    have hMj := hM j hjj
    have hKj := hK5 j hjj
    refine lv_aload_n hx hb dX4_addReal_15 rfl (lv_at hl 0 rfl) ?_
    refine va_get (D := E.1) (ci := 5) (C := RX4) (T := TX4) (N := 19) hx hb hts hiX4 hown hK.1 hP 0 rfl rfl 2 (by decide) hf7 (fun _ h9 => h9) rfl dX4_addReal_16 ?_
    refine lv_iload_n hx hb dX4_addReal_19 rfl (lv_at hl 1 rfl) ?_
    refine zn_iald hx hb hK.1 hP 1 0 rfl rfl (by omega) (by decide) dX4_addReal_20 ?_
    refine lv_iconst (v := nI 1) hx hb dX4_addReal_21 (by decide) ?_
    refine zn_icmp_eq (tgt := 28) hx hb dX4_addReal_22 (by decide) (by omega) (by omega) (fun c_2 => ?_) (fun c_2 => ?_)
    · have hrr : (if K j = 1 then 1 else 0) = 1 := by rw [if_pos c_2]
      have hvv : isVal (K j) (wz v) = mFin v := by rw [c_2]; exact fin_eq v
      refine lv_iload_n hx hb dX4_addReal_28 rfl (lv_at hl 2 rfl) ?_
      refine lv_i2l hx hb dX4_addReal_29 rfl ?_
      refine lv_lconst (v := 0) hx hb dX4_addReal_30 rfl ?_
      refine lv_ldc2 (v := 1000000) hx hb hown (hts (.constantLong RX4 61 (1000000)) (by decide +kernel)) dX4_addReal_31 ?_
      refine zc_i (W.runS ⟨hx, hb, hml, hown, hts⟩ (kX4_in l E t.toInt64 0 1000000) (cwS 3 hts gX4_addReal_X4_in rfl rfl rfl (by decide +kernel) ⟨Nat.le_trans (Nat.le_of_ble_eq_true rfl) hRf, Nat.le_trans (Nat.le_of_ble_eq_true rfl) hRl⟩) (z_preR (av := [.long t.toInt64, .long 0, .long 1000000]) (hP.sub (ws' := []) [] rfl) hK) rfl rfl hl.1 rfl (lv_room (Nat.le_of_ble_eq_true rfl)) dX4_addReal_34 ⟨Nat.zero_le _, Nat.zero_le _⟩) ?_
      refine zb_if_eq (tgt := 60) hx hb dX4_addReal_37 (by decide) (fun c_3 => ?_) (fun c_3 => ?_)
      · refine lv_bipush (v := (-2)) hx hb dX4_addReal_60 (by decide) ?_
        exact z_reti (by unfold adA; rw [hfij]; show _ = (if ¬ (if K j = 1 then 1 else 0) = 1 then (-3) else if t < 0 ∨ 1000000 < t ∨ isVal (K j) (wz v) = false then (-2) else if M j < 64 then nI (M j + 1) else (-4)); rw [if_neg (fun q => q hrr), if_pos ((inw_f c_3).elim Or.inl (fun q => Or.inr (Or.inl q)))]) (ret _ _ _ _ (by (have ho : adOk n K M 1 (nI j) t (wz v) = none := by unfold adOk; rw [hfij]; show (if (if K j = 1 then 1 else 0) = 1 ∧ ¬ t < 0 ∧ ¬ 1000000 < t ∧ isVal (K j) (wz v) = true ∧ M j < 64 then some j else none) = _; rw [if_neg (fun q => (inw_f c_3).elim q.2.1 q.2.2.1)]); unfold adN adTm adVm; rw [ho]; exact hP) hS dX4_addReal_62)
      · refine lv_lload_n hx hb dX4_addReal_40 rfl (lv_at hl 3 rfl) ?_
        refine zc_i (W.runS ⟨hx, hb, hml, hown, hts⟩ (kX4_isFinite l E v) (cwS 1 hts gX4_addReal_X4_isFinite rfl rfl rfl (by decide +kernel) ⟨Nat.le_trans (Nat.le_of_ble_eq_true rfl) hRf, Nat.le_trans (Nat.le_of_ble_eq_true rfl) hRl⟩) (z_preR (av := [.long v]) (hP.sub (ws' := []) [] rfl) hK) rfl rfl hl.1 rfl (lv_room (Nat.le_of_ble_eq_true rfl)) dX4_addReal_41 ⟨Nat.zero_le _, Nat.zero_le _⟩) ?_
        refine zb_if_eq (tgt := 60) hx hb dX4_addReal_44 (by decide) (fun c_4 => ?_) (fun c_4 => ?_)
        · refine lv_bipush (v := (-2)) hx hb dX4_addReal_60 (by decide) ?_
          exact z_reti (by unfold adA; rw [hfij]; show _ = (if ¬ (if K j = 1 then 1 else 0) = 1 then (-3) else if t < 0 ∨ 1000000 < t ∨ isVal (K j) (wz v) = false then (-2) else if M j < 64 then nI (M j + 1) else (-4)); rw [if_neg (fun q => q hrr), if_pos (Or.inr (Or.inr (by rw [hvv, c_4])))]) (ret _ _ _ _ (by (have ho : adOk n K M 1 (nI j) t (wz v) = none := by unfold adOk; rw [hfij]; show (if (if K j = 1 then 1 else 0) = 1 ∧ ¬ t < 0 ∧ ¬ 1000000 < t ∧ isVal (K j) (wz v) = true ∧ M j < 64 then some j else none) = _; rw [if_neg (fun q => by have := q.2.2.2.1; rw [hvv, c_4] at this; cases this)]); unfold adN adTm adVm; rw [ho]; exact hP) hS dX4_addReal_62)
        · refine lv_aload_n hx hb dX4_addReal_47 rfl (lv_at hl 0 rfl) ?_
          refine lv_iload_n hx hb dX4_addReal_48 rfl (lv_at hl 1 rfl) ?_
          refine lv_iload_n hx hb dX4_addReal_49 rfl (lv_at hl 2 rfl) ?_
          refine lv_lload_n hx hb dX4_addReal_50 rfl (lv_at hl 3 rfl) ?_
          refine zc_l (W.runS ⟨hx, hb, hml, hown, hts⟩ (kX4_bitsOf l E v) (cwS 1 hts gX4_addReal_X4_bitsOf rfl rfl rfl (by decide +kernel) ⟨Nat.le_trans (Nat.le_of_ble_eq_true rfl) hRf, Nat.le_trans (Nat.le_of_ble_eq_true rfl) hRl⟩) (z_preR (av := [.long v]) (hP.sub (ws' := []) [] rfl) hK) rfl rfl hl.1 rfl (lv_room (Nat.le_of_ble_eq_true rfl)) dX4_addReal_51 ⟨Nat.zero_le _, Nat.zero_le _⟩) ?_
          rw [bits_eq]
          refine zall_i (wc' := (mW E m0 k0 q0 t0 v0 c0 o0 s0 j0 r0 f0 g0 h0 (nI 0) n K (puM M j) (puT M TT j t) (puV M VV j (wz v)) CC OO b S J RR w1 w2 w3 w4 SF SM FD)) (va_runV ⟨hx, hb, hml, hown, hts⟩ (kX4_put l E _ m0 k0 q0 t0 v0 c0 o0 s0 j0 r0 f0 g0 h0 (nI 0) n K M TT VV CC OO b S J RR w1 w2 w3 w4 SF SM FD hn hM j hjj t (wz v)) (cwV 3 hts gX4_addReal_X4_put rfl rfl rfl (by decide +kernel) ⟨Nat.le_trans (Nat.le_of_ble_eq_true rfl) hRf, Nat.le_trans (Nat.le_of_ble_eq_true rfl) hRl⟩) (z_preWV (As := [.int (nI j), .int t, .long (wz v)]) hP hD hK 0 rfl rfl) rfl rfl hl.1 rfl (lv_room (Nat.le_of_ble_eq_true rfl)) dX4_addReal_54 ⟨Nat.zero_le _, Nat.zero_le _⟩) hD hS hA rfl (fun H locs hP hD hS => ?_)
          refine lv_goto (tgt := 62) hx hb dX4_addReal_57 (by decide) ?_
          exact z_reti (by unfold adA; rw [hfij]; show _ = (if ¬ (if K j = 1 then 1 else 0) = 1 then (-3) else if t < 0 ∨ 1000000 < t ∨ isVal (K j) (wz v) = false then (-2) else if M j < 64 then nI (M j + 1) else (-4)); rw [if_neg (fun q => q hrr), if_neg (fun q => q.elim (inw_t c_3).1 (fun q => q.elim (inw_t c_3).2 (fun q => by rw [hvv, c_4] at q; cases q)))]; exact puA_ad hMj) (ret _ _ _ _ (ad_put (P := fun x1 x2 x3 => va_P E.1 vwCl (mW E m0 k0 q0 t0 v0 c0 o0 s0 j0 r0 f0 g0 h0 (nI 0) n K x1 x2 x3 CC OO b S J RR w1 w2 w3 w4 SF SM FD) H) (o := adOk n K M 1 (nI j) t (wz v)) hMj (fun c9 => by unfold adOk; rw [hfij]; show (if (if K j = 1 then 1 else 0) = 1 ∧ ¬ t < 0 ∧ ¬ 1000000 < t ∧ isVal (K j) (wz v) = true ∧ M j < 64 then some j else none) = _; rw [if_pos ⟨hrr, (inw_t c_3).1, (inw_t c_3).2, by rw [hvv, c_4], c9⟩]) (fun c9 => by unfold adOk; rw [hfij]; show (if (if K j = 1 then 1 else 0) = 1 ∧ ¬ t < 0 ∧ ¬ 1000000 < t ∧ isVal (K j) (wz v) = true ∧ M j < 64 then some j else none) = _; rw [if_neg (fun q => c9 q.2.2.2.2)]) hP) hS dX4_addReal_62)
    · have hrr : ¬ (if K j = 1 then 1 else 0) = 1 := by rw [if_neg c_2]; decide
      refine lv_bipush (v := (-3)) hx hb dX4_addReal_25 (by decide) ?_
      exact z_reti (by unfold adA; rw [hfij]; show _ = (if ¬ (if K j = 1 then 1 else 0) = 1 then (-3) else if t < 0 ∨ 1000000 < t ∨ isVal (K j) (wz v) = false then (-2) else if M j < 64 then nI (M j + 1) else (-4)); rw [if_pos hrr]) (ret _ _ _ _ (by (have ho : adOk n K M 1 (nI j) t (wz v) = none := by unfold adOk; rw [hfij]; show (if (if K j = 1 then 1 else 0) = 1 ∧ ¬ t < 0 ∧ ¬ 1000000 < t ∧ isVal (K j) (wz v) = true ∧ M j < 64 then some j else none) = _; rw [if_neg (fun q => hrr q.1)]); unfold adN adTm adVm; rw [ho]; exact hP) hS dX4_addReal_27)
  · have hfij := fd_none c_1
    refine lv_iconst (v := (-1)) hx hb dX4_addReal_13 (by decide) ?_
    exact z_reti (by unfold adA; rw [hfij]; rfl) (ret _ _ _ _ (by (have ho : adOk n K M 1 f t (wz v) = none := by unfold adOk; rw [hfij]; rfl); unfold adN adTm adVm; rw [ho]; exact hP) hS dX4_addReal_14)
