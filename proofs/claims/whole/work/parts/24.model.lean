/-! the model: merging; what is reached, what is wrong; joining -/
def mgTm (TT : Nat → Int32) (M : Nat → Nat) (j o : Nat) : Nat → (Nat → Int32)
  | 0 => TT
  | i + 1 => upd (mgTm TT M j o i) (64 * j + (M j + i)) (mgTm TT M j o i (64 * o + i))
def mgVm (VV : Nat → Int64) (M : Nat → Nat) (j o : Nat) : Nat → (Nat → Int64)
  | 0 => VV
  | i + 1 => vp_updL (mgVm VV M j o i) (64 * j + (M j + i)) (mgVm VV M j o i (64 * o + i))
def mgTo (q : Option (Nat × Nat)) (TT : Nat → Int32) (M : Nat → Nat) : Nat → Int32 := q.elim TT (fun q => mgTm TT M q.1 q.2 (M q.2))
def mgVo (q : Option (Nat × Nat)) (VV : Nat → Int64) (M : Nat → Nat) : Nat → Int64 := q.elim VV (fun q => mgVm VV M q.1 q.2 (M q.2))
theorem updN_twice {α : Type} (S : Nat → α) (k : Nat) (x y : α) : updN (updN S k x) k y = updN S k y := by funext j; unfold updN; split <;> rfl
theorem updN_add0 (M : Nat → Nat) (j : Nat) : updN M j (M j + 0) = M := by
  funext q
  unfold updN
  by_cases e : q = j
  · rw [if_pos e, e]; rfl
  · rw [if_neg e]
/-- reached: the first row, then turns -/
def rc0 (R : Nat → Bool) (b i : Nat) : Nat → Bool := fun j => if j < i then decide (j = b) else R j
theorem rc0_step (R : Nat → Bool) (b i : Nat) : updN (rc0 R b i) i (decide (i = b)) = rc0 R b (i + 1) := by
  funext j
  unfold updN rc0
  by_cases e : j = i
  · subst e; rw [if_pos rfl, if_pos (by omega)]
  · rw [if_neg e]
    by_cases c : j < i
    · rw [if_pos c, if_pos (by omega)]
    · rw [if_neg c, if_neg (by omega)]
theorem rc0_0 (R : Nat → Bool) (b : Nat) : rc0 R b 0 = R := by funext j; exact if_neg (by omega)
def rkS (S : Nat → Nat) (R : Nat → Bool) : Nat → (Nat → Bool)
  | 0 => R
  | k + 1 => updN (rkS S R k) (S k) (rkS S R k (S k) || rkS S R k (k / 4))
def rtS (S : Nat → Nat) (R : Nat → Bool) : Nat → (Nat → Bool)
  | 0 => R
  | t + 1 => rkS S (rtS S R t) 32
def rcM (S : Nat → Nat) (b : Nat) (R : Nat → Bool) : Nat → Bool := rtS S (rc0 R b 8) 8
def lokF (S J : Nat → Nat) (R : Nat → Bool) (s : Nat) : Nat → Nat → zQ4 → zQ4
  | 0, _, w => w
  | f + 1, k, w => if w.1 = 0 then lokF S J R s f (k + 1) (if R (k / 4) = true ∧ ¬ J (8 * s + S k) = S (4 * J (8 * s + k / 4) + k % 4) then (nI 2, nI s, nI (k / 4), nI (k % 4)) else w) else w
theorem lok_hit {S J : Nat → Nat} {R : Nat → Bool} {s k : Nat} {w : zQ4} (h : k < 32) (c : ¬ w.1 = 0) : lokF S J R s (32 - k) k w = w := by
  obtain ⟨f, hf⟩ : ∃ f, 32 - k = f + 1 := ⟨32 - k - 1, by omega⟩
  rw [hf]; unfold lokF; rw [if_neg c]
theorem lok_step {S J : Nat → Nat} {R : Nat → Bool} {s k : Nat} {w : zQ4} (h : k < 32) (c : w.1 = 0) : lokF S J R s (32 - k) k w = lokF S J R s (32 - (k + 1)) (k + 1) (if R (k / 4) = true ∧ ¬ J (8 * s + S k) = S (4 * J (8 * s + k / 4) + k % 4) then (nI 2, nI s, nI (k / 4), nI (k % 4)) else w) := by
  obtain ⟨f, hf⟩ : ∃ f, 32 - k = f + 1 := ⟨32 - k - 1, by omega⟩
  rw [hf, show 32 - (k + 1) = f by omega]; conv => lhs; unfold lokF
  rw [if_pos c]
def lokA (S J : Nat → Nat) (b : Nat) (R : Nat → Bool) (s : Nat) (w : zQ4) : zQ4 := if J (8 * s + b) = s then lokF S J R s 32 0 w else (nI 1, nI s, w.2.2.1, w.2.2.2)
def mckF (S J : Nat → Nat) (b : Nat) (R : Nat → Bool) : Nat → Nat → zQ4 → zQ4
  | 0, _, w => w
  | f + 1, s, w => if w.1 = 0 then mckF S J b R f (s + 1) (if R s = true then lokA S J b R s w else w) else w
theorem mck_hit {S J : Nat → Nat} {b : Nat} {R : Nat → Bool} {i : Nat} {w : zQ4} (h : i < 8) (c : ¬ w.1 = 0) : mckF S J b R (8 - i) i w = w := by
  obtain ⟨f, hf⟩ : ∃ f, 8 - i = f + 1 := ⟨8 - i - 1, by omega⟩
  rw [hf]; unfold mckF; rw [if_neg c]
theorem mck_step {S J : Nat → Nat} {b : Nat} {R : Nat → Bool} {i : Nat} {w : zQ4} (h : i < 8) (c : w.1 = 0) : mckF S J b R (8 - i) i w = mckF S J b R (8 - (i + 1)) (i + 1) (if R i = true then lokA S J b R i w else w) := by
  obtain ⟨f, hf⟩ : ∃ f, 8 - i = f + 1 := ⟨8 - i - 1, by omega⟩
  rw [hf, show 8 - (i + 1) = f by omega]; conv => lhs; unfold mckF
  rw [if_pos c]
def mckA (S J : Nat → Nat) (b : Nat) (R : Nat → Bool) (w : zQ4) : zQ4 := mckF S J b (rcM S b R) 8 0 (nI 0, w.2.1, w.2.2.1, w.2.2.2)
def mckW (S J : Nat → Nat) (b : Nat) (R : Nat → Bool) (w : zQ4) (q : Int32) : zQ4 := if q < 0 ∨ nI 4 ≤ q then w else mckA S J b R w
def mckR (S : Nat → Nat) (b : Nat) (R : Nat → Bool) (q : Int32) : Nat → Bool := if q < 0 ∨ nI 4 ≤ q then R else rcM S b R
def ckM (S J : Nat → Nat) (b : Nat) (R : Nat → Bool) (w : zQ4) (q : Int32) : Int32 := if q < 0 ∨ nI 4 ≤ q then (-2) else if q = 0 then (mckA S J b R w).1 else if (mckA S J b R w).1 = 0 ∨ ((mckA S J b R w).1 = nI 1 ∧ nI 1 < q) then (-3) else if q = nI 1 then (mckA S J b R w).2.1 else if q = nI 2 then (mckA S J b R w).2.2.1 else (mckA S J b R w).2.2.2
theorem inw3_f2 {w : Int32} (h : inL w.toInt64 0 3 = false) : w < 0 ∨ nI 4 ≤ w := inw3_f h
theorem inw3_t2 {w : Int32} (h : inL w.toInt64 0 3 = true) : ¬ (w < 0 ∨ nI 4 ≤ w) := fun q => q.elim (inw3_t h).1 (inw3_t h).2
set_option maxHeartbeats 4000000 in
set_option maxRecDepth 100000 in
theorem kX4_merge (l : Launch) (E : zE) (sz : Nat) (m0 k0 q0 t0 v0 c0 o0 s0 j0 r0 f0 g0 h0 : Nat) (cd : Int32) (n : Nat) (K M : Nat → Nat) (TT : Nat → Int32) (VV CC : Nat → Int64) (OO : Nat → Nat) (b : Nat) (S J : Nat → Nat) (RR : Nat → Bool) (w1 w2 w3 w4 : Int32) (SF SM FD : Nat → Nat) (hn : n ≤ 12) (hM : ∀ j, j < n → M j ≤ 64) (hK5 : ∀ j, j < n → K j < 5) (f g : Int32) : Met l yX4_merge wsX4_merge (rmL 1) (va_Pc [.ref m0, .int f, .int g] (zS E (mW E m0 k0 q0 t0 v0 c0 o0 s0 j0 r0 f0 g0 h0 cd n K M TT VV CC OO b S J RR w1 w2 w3 w4 SF SM FD) sz)) (va_Qi (fun (r9 : Int32) (_ : Unit) => r9 = mgA n K M f g) (fun _ t9 => zW E (mW E m0 k0 q0 t0 v0 c0 o0 s0 j0 r0 f0 g0 h0 (nI 0) n K (mgN (mgOk n K M f g) M) (mgTo (mgOk n K M f g) TT M) (mgVo (mgOk n K M f g) VV M) CC OO b S J RR w1 w2 w3 w4 SF SM FD) t9) (va_A (mW E m0 k0 q0 t0 v0 c0 o0 s0 j0 r0 f0 g0 h0 cd n K M TT VV CC OO b S J RR w1 w2 w3 w4 SF SM FD) sz)) 0 0 (va_A (mW E m0 k0 q0 t0 v0 c0 o0 s0 j0 r0 f0 g0 h0 cd n K M TT VV CC OO b S J RR w1 w2 w3 w4 SF SM FD) sz) := by
  refine z_ofWi (cc := cX4_merge) (maxL := 4) (own := RX4) (by decide) rfl rfl (Nat.le_of_ble_eq_true rfl) ?_
  intro p e s m args below meth c R Q A B hP hD hA ret ls hl
  obtain ⟨hx, hb, hml, hown, hts, hK, hRf, hRl⟩ := B
  have hiX4 : ∀ w ∈ wsX40, w ∈ wsX4_merge := by decide +kernel
  have hf7 := hts (.fieldLink RX4 7 "ExactFoldsModel" "kind" "[I") (by decide +kernel)
  have hf13 := hts (.fieldLink RX4 13 "ExactFoldsModel" "many" "[I") (by decide +kernel)
  have hf16 := hts (.fieldLink RX4 16 "ExactFoldsModel" "times" "[I") (by decide +kernel)
  have hf19 := hts (.fieldLink RX4 19 "ExactFoldsModel" "values" "[J") (by decide +kernel)
  have hf52 := hts (.fieldLink RX4 52 "ExactFoldsModel" "code" "I") (by decide +kernel)
  have hS : va_S A s.heap s.heap [] := va_S.rf
  have hl : lv_has ls 4 [(0, .ref m0), (1, .int f), (2, .int g)] := hl
  refine lv_aload_n hx hb dX4_merge_0 rfl (lv_at hl 0 rfl) ?_
  refine lv_iconst (v := nI 0) hx hb dX4_merge_1 (by decide) ?_
  refine va_put (D := E.1) (ci := 5) (v := .int (nI 0)) (ty := .int) (C := RX4) (T := TX4) (N := 19) hx hb hts hiX4 tyX4 tyX4_ok nmX4 hown hK.1 hP hD hS 0 rfl rfl 0 (by decide) hf52 (fun _ h9 => h9) rfl (by decide +kernel) rfl rfl (Nat.le_of_ble_eq_true rfl) dX4_merge_2 (fun H locs hP hD hS => ?_)
  have hP : va_P E.1 vwCl (mW E m0 k0 q0 t0 v0 c0 o0 s0 j0 r0 f0 g0 h0 (nI 0) n K M TT VV CC OO b S J RR w1 w2 w3 w4 SF SM FD) H := hP
  have hD : va_D A (mW E m0 k0 q0 t0 v0 c0 o0 s0 j0 r0 f0 g0 h0 (nI 0) n K M TT VV CC OO b S J RR w1 w2 w3 w4 SF SM FD) := hD
  refine lv_aload_n hx hb dX4_merge_5 rfl (lv_at hl 0 rfl) ?_
  refine lv_iload_n hx hb dX4_merge_6 rfl (lv_at hl 1 rfl) ?_
  refine zc_i (W.runV ⟨hx, hb, hml, hown, hts⟩ (kX4_isFold l E m0 k0 q0 t0 v0 c0 o0 s0 j0 r0 f0 g0 h0 (nI 0) n K M TT VV CC OO b S J RR w1 w2 w3 w4 SF SM FD hn f) (cwV 1 hts gX4_merge_X4_isFold rfl rfl rfl (by decide +kernel) ⟨Nat.le_trans (Nat.le_of_ble_eq_true rfl) hRf, Nat.le_trans (Nat.le_of_ble_eq_true rfl) hRl⟩) (z_preV (As := [.int f]) hP hK 0 rfl rfl) rfl rfl hl.1 rfl (lv_room (Nat.le_of_ble_eq_true rfl)) dX4_merge_7 ⟨Nat.zero_le _, Nat.zero_le _⟩) ?_
  refine zb_if_eq (tgt := 26) hx hb dX4_merge_10 (by decide) (fun c_1 => ?_) (fun c_1 => ?_)
  · have hfij := fd_none c_1
    refine lv_iconst (v := (-1)) hx hb dX4_merge_26 (by decide) ?_
    exact z_reti (by unfold mgA; rw [hfij]; rfl) (ret _ _ _ _ (by (have ho : mgOk n K M f g = none := by unfold mgOk; rw [hfij]; rfl); rw [ho]; exact hP) hS dX4_merge_27)
  · obtain ⟨j, hjj, rfl, hfij⟩ := fd_some (by omega) c_1
    have hMj := hM j hjj
    have hKj := hK5 j hjj
    refine lv_aload_n hx hb dX4_merge_13 rfl (lv_at hl 0 rfl) ?_
    refine lv_iload_n hx hb dX4_merge_14 rfl (lv_at hl 2 rfl) ?_
    refine zc_i (W.runV ⟨hx, hb, hml, hown, hts⟩ (kX4_isFold l E m0 k0 q0 t0 v0 c0 o0 s0 j0 r0 f0 g0 h0 (nI 0) n K M TT VV CC OO b S J RR w1 w2 w3 w4 SF SM FD hn g) (cwV 1 hts gX4_merge_X4_isFold rfl rfl rfl (by decide +kernel) ⟨Nat.le_trans (Nat.le_of_ble_eq_true rfl) hRf, Nat.le_trans (Nat.le_of_ble_eq_true rfl) hRl⟩) (z_preV (As := [.int g]) hP hK 0 rfl rfl) rfl rfl hl.1 rfl (lv_room (Nat.le_of_ble_eq_true rfl)) dX4_merge_15 ⟨Nat.zero_le _, Nat.zero_le _⟩) ?_
    refine zb_if_eq (tgt := 26) hx hb dX4_merge_18 (by decide) (fun c_2 => ?_) (fun c_2 => ?_)
    · have hfio := fd_none c_2
      refine lv_iconst (v := (-1)) hx hb dX4_merge_26 (by decide) ?_
      exact z_reti (by unfold mgA; rw [hfij]; show _ = (fidx n g).elim (-1) _; rw [hfio]; rfl) (ret _ _ _ _ (by (have ho : mgOk n K M (nI j) g = none := by unfold mgOk; rw [hfij]; show (fidx n g).elim none _ = _; rw [hfio]; rfl); rw [ho]; exact hP) hS dX4_merge_27)
    · obtain ⟨o, hjo, rfl, hfio⟩ := fd_some (by omega) c_2
      have hMo := hM o hjo
      have hKo := hK5 o hjo
      refine lv_iload_n hx hb dX4_merge_21 rfl (lv_at hl 1 rfl) ?_
      refine lv_iload_n hx hb dX4_merge_22 rfl (lv_at hl 2 rfl) ?_
      refine zn_icmp_ne (tgt := 28) hx hb dX4_merge_23 (by decide) (by omega) (by omega) (fun c_3 => ?_) (fun c_3 => ?_)
      · refine lv_aload_n hx hb dX4_merge_28 rfl (lv_at hl 0 rfl) ?_
        refine va_get (D := E.1) (ci := 5) (C := RX4) (T := TX4) (N := 19) hx hb hts hiX4 hown hK.1 hP 0 rfl rfl 2 (by decide) hf7 (fun _ h9 => h9) rfl dX4_merge_29 ?_
        refine lv_iload_n hx hb dX4_merge_32 rfl (lv_at hl 1 rfl) ?_
        refine zn_iald hx hb hK.1 hP 1 0 rfl rfl (by omega) (by decide) dX4_merge_33 ?_
        refine lv_aload_n hx hb dX4_merge_34 rfl (lv_at hl 0 rfl) ?_
        refine va_get (D := E.1) (ci := 5) (C := RX4) (T := TX4) (N := 19) hx hb hts hiX4 hown hK.1 hP 0 rfl rfl 2 (by decide) hf7 (fun _ h9 => h9) rfl dX4_merge_35 ?_
        refine lv_iload_n hx hb dX4_merge_38 rfl (lv_at hl 2 rfl) ?_
        refine zn_iald hx hb hK.1 hP 1 0 rfl rfl (by omega) (by decide) dX4_merge_39 ?_
        refine zn_icmp_eq (tgt := 46) hx hb dX4_merge_40 (by decide) (by omega) (by omega) (fun c_4 => ?_) (fun c_4 => ?_)
        · refine lv_aload_n hx hb dX4_merge_46 rfl (lv_at hl 0 rfl) ?_
          refine va_get (D := E.1) (ci := 5) (C := RX4) (T := TX4) (N := 19) hx hb hts hiX4 hown hK.1 hP 0 rfl rfl 3 (by decide) hf13 (fun _ h9 => h9) rfl dX4_merge_47 ?_
          refine lv_iload_n hx hb dX4_merge_50 rfl (lv_at hl 1 rfl) ?_
          refine zn_iald hx hb hK.1 hP 2 0 rfl rfl (by omega) (by decide) dX4_merge_51 ?_
          refine lv_aload_n hx hb dX4_merge_52 rfl (lv_at hl 0 rfl) ?_
          refine va_get (D := E.1) (ci := 5) (C := RX4) (T := TX4) (N := 19) hx hb hts hiX4 hown hK.1 hP 0 rfl rfl 3 (by decide) hf13 (fun _ h9 => h9) rfl dX4_merge_53 ?_
          refine lv_iload_n hx hb dX4_merge_56 rfl (lv_at hl 2 rfl) ?_
          refine zn_iald hx hb hK.1 hP 2 0 rfl rfl (by omega) (by decide) dX4_merge_57 ?_
          refine zn_iadd hx hb dX4_merge_58 ?_
          refine lv_bipush (v := nI 64) hx hb dX4_merge_59 (by decide) ?_
          refine zn_icmp_le (tgt := 67) hx hb dX4_merge_61 (by decide) (by omega) (by omega) (fun c_5 => ?_) (fun c_5 => ?_)
          · have hjo2 : j ≠ o := c_3
            have hkk : K j = K o := c_4
            have hmm : M j + M o ≤ 64 := c_5
            have hup1 : ∀ x : Nat, updN M j x o = M o := fun x => updN_ne _ _ (Ne.symm hjo2)
            have hup2 : ∀ x : Nat, updN M j x j = x := fun x => updN_self _ _ _
            refine lv_iconst (v := nI 0) hx hb dX4_merge_67 (by decide) ?_
            refine lv_istore_n (lv' := [(3, .int (nI 0)), (0, .ref m0), (1, .int (nI j)), (2, .int (nI o))]) hx hb dX4_merge_68 rfl hl (by decide) rfl (fun ls hl => ?_)
            have lp : ∀ (fu : Nat) (i : Nat) (ls : Array Slot) (H : Heap) (locs : List Loc), M o - i < fu → (i ≤ M o) → lv_has ls 4 [(0, .ref m0), (1, .int (nI j)), (2, .int (nI o)), (3, .int (nI i))] → va_P E.1 vwCl (mW E m0 k0 q0 t0 v0 c0 o0 s0 j0 r0 f0 g0 h0 (nI 0) n K (updN M j (M j + i)) (mgTm TT M j o i) (mgVm VV M j o i) CC OO b S J RR w1 w2 w3 w4 SF SM FD) H → va_D A (mW E m0 k0 q0 t0 v0 c0 o0 s0 j0 r0 f0 g0 h0 (nI 0) n K (updN M j (M j + i)) (mgTm TT M j o i) (mgVm VV M j o i) CC OO b S J RR w1 w2 w3 w4 SF SM FD) → va_S A s.heap H locs → W p l e R s m args below meth c H locs 0 0 Q (F0 m 69 ls []) := by
              intro fu
              induction fu with
              | zero => intros; exact absurd (by assumption) (Nat.not_lt_zero _)
              | succ fu ihlp =>
                intro i ls H locs hfu hi hl hP hD hS
                refine lv_iload_n hx hb dX4_merge_69 rfl (lv_at hl 3 rfl) ?_
                refine lv_aload_n hx hb dX4_merge_70 rfl (lv_at hl 0 rfl) ?_
                refine va_get (D := E.1) (ci := 5) (C := RX4) (T := TX4) (N := 19) hx hb hts hiX4 hown hK.1 hP 0 rfl rfl 3 (by decide) hf13 (fun _ h9 => h9) rfl dX4_merge_71 ?_
                refine lv_iload_n hx hb dX4_merge_74 rfl (lv_at hl 2 rfl) ?_
                refine zn_iald hx hb hK.1 hP 2 0 rfl rfl (by omega) (by decide) dX4_merge_75 ?_
                rw [hup1]
                refine zn_icmp_ge (tgt := 149) hx hb dX4_merge_76 (by decide) (by omega) (by omega) (fun c_6 => ?_) (fun c_6 => ?_)
                · obtain rfl : i = M o := by omega
                  have hup : updN (updN M j (M j + M o)) o 0 j = M j + M o := by rw [updN_ne _ _ hjo2, updN_self]
                  refine lv_aload_n hx hb dX4_merge_149 rfl (lv_at hl 0 rfl) ?_
                  refine va_get (D := E.1) (ci := 5) (C := RX4) (T := TX4) (N := 19) hx hb hts hiX4 hown hK.1 hP 0 rfl rfl 3 (by decide) hf13 (fun _ h9 => h9) rfl dX4_merge_150 ?_
                  refine lv_iload_n hx hb dX4_merge_153 rfl (lv_at hl 2 rfl) ?_
                  refine lv_iconst (v := nI 0) hx hb dX4_merge_154 (by decide) ?_
                  refine zn_iast hx hb hK.1 hP hD hS 2 0 rfl rfl (by omega) (by decide) dX4_merge_155 (fun H locs hP hD hS => ?_)
                  have hP : va_P E.1 vwCl (mW E m0 k0 q0 t0 v0 c0 o0 s0 j0 r0 f0 g0 h0 (nI 0) n K (updN (updN M j (M j + (M o))) o 0) (mgTm TT M j o (M o)) (mgVm VV M j o (M o)) CC OO b S J RR w1 w2 w3 w4 SF SM FD) H := by rw [upd_nI] at hP; exact hP
                  have hD : va_D A (mW E m0 k0 q0 t0 v0 c0 o0 s0 j0 r0 f0 g0 h0 (nI 0) n K (updN (updN M j (M j + (M o))) o 0) (mgTm TT M j o (M o)) (mgVm VV M j o (M o)) CC OO b S J RR w1 w2 w3 w4 SF SM FD) := by rw [upd_nI] at hD; exact hD
                  refine lv_aload_n hx hb dX4_merge_156 rfl (lv_at hl 0 rfl) ?_
                  refine va_get (D := E.1) (ci := 5) (C := RX4) (T := TX4) (N := 19) hx hb hts hiX4 hown hK.1 hP 0 rfl rfl 3 (by decide) hf13 (fun _ h9 => h9) rfl dX4_merge_157 ?_
                  refine lv_iload_n hx hb dX4_merge_160 rfl (lv_at hl 1 rfl) ?_
                  refine zn_iald hx hb hK.1 hP 2 0 rfl rfl (by omega) (by decide) dX4_merge_161 ?_
                  exact z_reti (by unfold mgA; rw [hfij]; show _ = (fidx n (nI o)).elim (-1) _; rw [hfio]; show _ = (if j = o then (-1) else if K j = K o then (if M j + M o ≤ 64 then nI (M j + M o) else (-4)) else (-3)); rw [if_neg hjo2, if_pos hkk, if_pos hmm, hup]) (ret _ _ _ _ (by (have ho : mgOk n K M (nI j) (nI o) = some (j, o) := by unfold mgOk; rw [hfij]; show (fidx n (nI o)).elim none _ = _; rw [hfio]; show (if j ≠ o ∧ K j = K o ∧ M j + M o ≤ 64 then some (j, o) else none) = _; rw [if_pos ⟨hjo2, hkk, hmm⟩]); rw [ho]; exact hP) hS dX4_merge_162)
                · refine lv_aload_n hx hb dX4_merge_79 rfl (lv_at hl 0 rfl) ?_
                  refine va_get (D := E.1) (ci := 5) (C := RX4) (T := TX4) (N := 19) hx hb hts hiX4 hown hK.1 hP 0 rfl rfl 4 (by decide) hf16 (fun _ h9 => h9) rfl dX4_merge_80 ?_
                  refine lv_bipush (v := nI 64) hx hb dX4_merge_83 (by decide) ?_
                  refine lv_iload_n hx hb dX4_merge_85 rfl (lv_at hl 1 rfl) ?_
                  refine zn_imul hx hb dX4_merge_86 ?_
                  refine lv_aload_n hx hb dX4_merge_87 rfl (lv_at hl 0 rfl) ?_
                  refine va_get (D := E.1) (ci := 5) (C := RX4) (T := TX4) (N := 19) hx hb hts hiX4 hown hK.1 hP 0 rfl rfl 3 (by decide) hf13 (fun _ h9 => h9) rfl dX4_merge_88 ?_
                  refine lv_iload_n hx hb dX4_merge_91 rfl (lv_at hl 1 rfl) ?_
                  refine zn_iald hx hb hK.1 hP 2 0 rfl rfl (by omega) (by decide) dX4_merge_92 ?_
                  rw [hup2]
                  refine zn_iadd hx hb dX4_merge_93 ?_
                  refine lv_aload_n hx hb dX4_merge_94 rfl (lv_at hl 0 rfl) ?_
                  refine va_get (D := E.1) (ci := 5) (C := RX4) (T := TX4) (N := 19) hx hb hts hiX4 hown hK.1 hP 0 rfl rfl 4 (by decide) hf16 (fun _ h9 => h9) rfl dX4_merge_95 ?_
                  refine lv_bipush (v := nI 64) hx hb dX4_merge_98 (by decide) ?_
                  refine lv_iload_n hx hb dX4_merge_100 rfl (lv_at hl 2 rfl) ?_
                  refine zn_imul hx hb dX4_merge_101 ?_
                  refine lv_iload_n hx hb dX4_merge_102 rfl (lv_at hl 3 rfl) ?_
                  refine zn_iadd hx hb dX4_merge_103 ?_
                  refine zn_iald hx hb hK.1 hP 3 0 rfl rfl (by omega) (by decide) dX4_merge_104 ?_
                  refine zn_iast hx hb hK.1 hP hD hS 3 0 rfl rfl (by omega) (by decide) dX4_merge_105 (fun H locs hP hD hS => ?_)
                  have hP : va_P E.1 vwCl (mW E m0 k0 q0 t0 v0 c0 o0 s0 j0 r0 f0 g0 h0 (nI 0) n K (updN M j (M j + i)) (upd (mgTm TT M j o i) ((64 * j) + (M j + i)) ((mgTm TT M j o i) ((64 * o) + i))) (mgVm VV M j o i) CC OO b S J RR w1 w2 w3 w4 SF SM FD) H := hP
                  have hD : va_D A (mW E m0 k0 q0 t0 v0 c0 o0 s0 j0 r0 f0 g0 h0 (nI 0) n K (updN M j (M j + i)) (upd (mgTm TT M j o i) ((64 * j) + (M j + i)) ((mgTm TT M j o i) ((64 * o) + i))) (mgVm VV M j o i) CC OO b S J RR w1 w2 w3 w4 SF SM FD) := hD
                  refine lv_aload_n hx hb dX4_merge_106 rfl (lv_at hl 0 rfl) ?_
                  refine va_get (D := E.1) (ci := 5) (C := RX4) (T := TX4) (N := 19) hx hb hts hiX4 hown hK.1 hP 0 rfl rfl 5 (by decide) hf19 (fun _ h9 => h9) rfl dX4_merge_107 ?_
                  refine lv_bipush (v := nI 64) hx hb dX4_merge_110 (by decide) ?_
                  refine lv_iload_n hx hb dX4_merge_112 rfl (lv_at hl 1 rfl) ?_
                  refine zn_imul hx hb dX4_merge_113 ?_
                  refine lv_aload_n hx hb dX4_merge_114 rfl (lv_at hl 0 rfl) ?_
                  refine va_get (D := E.1) (ci := 5) (C := RX4) (T := TX4) (N := 19) hx hb hts hiX4 hown hK.1 hP 0 rfl rfl 3 (by decide) hf13 (fun _ h9 => h9) rfl dX4_merge_115 ?_
                  refine lv_iload_n hx hb dX4_merge_118 rfl (lv_at hl 1 rfl) ?_
                  refine zn_iald hx hb hK.1 hP 2 0 rfl rfl (by omega) (by decide) dX4_merge_119 ?_
                  rw [hup2]
                  refine zn_iadd hx hb dX4_merge_120 ?_
                  refine lv_aload_n hx hb dX4_merge_121 rfl (lv_at hl 0 rfl) ?_
                  refine va_get (D := E.1) (ci := 5) (C := RX4) (T := TX4) (N := 19) hx hb hts hiX4 hown hK.1 hP 0 rfl rfl 5 (by decide) hf19 (fun _ h9 => h9) rfl dX4_merge_122 ?_
                  refine lv_bipush (v := nI 64) hx hb dX4_merge_125 (by decide) ?_
                  refine lv_iload_n hx hb dX4_merge_127 rfl (lv_at hl 2 rfl) ?_
                  refine zn_imul hx hb dX4_merge_128 ?_
                  refine lv_iload_n hx hb dX4_merge_129 rfl (lv_at hl 3 rfl) ?_
                  refine zn_iadd hx hb dX4_merge_130 ?_
                  refine zn_lald hx hb hK.1 hP 4 1 rfl rfl (by omega) (by decide) dX4_merge_131 ?_
                  refine zn_last hx hb hK.1 hP hD hS 4 1 rfl rfl (by omega) (by decide) dX4_merge_132 (fun H locs hP hD hS => ?_)
                  have hP : va_P E.1 vwCl (mW E m0 k0 q0 t0 v0 c0 o0 s0 j0 r0 f0 g0 h0 (nI 0) n K (updN M j (M j + i)) (upd (mgTm TT M j o i) ((64 * j) + (M j + i)) ((mgTm TT M j o i) ((64 * o) + i))) (vp_updL (mgVm VV M j o i) ((64 * j) + (M j + i)) ((mgVm VV M j o i) ((64 * o) + i))) CC OO b S J RR w1 w2 w3 w4 SF SM FD) H := hP
                  have hD : va_D A (mW E m0 k0 q0 t0 v0 c0 o0 s0 j0 r0 f0 g0 h0 (nI 0) n K (updN M j (M j + i)) (upd (mgTm TT M j o i) ((64 * j) + (M j + i)) ((mgTm TT M j o i) ((64 * o) + i))) (vp_updL (mgVm VV M j o i) ((64 * j) + (M j + i)) ((mgVm VV M j o i) ((64 * o) + i))) CC OO b S J RR w1 w2 w3 w4 SF SM FD) := hD
                  refine lv_aload_n hx hb dX4_merge_133 rfl (lv_at hl 0 rfl) ?_
                  refine va_get (D := E.1) (ci := 5) (C := RX4) (T := TX4) (N := 19) hx hb hts hiX4 hown hK.1 hP 0 rfl rfl 3 (by decide) hf13 (fun _ h9 => h9) rfl dX4_merge_134 ?_
                  refine lv_iload_n hx hb dX4_merge_137 rfl (lv_at hl 1 rfl) ?_
                  refine lv_dup2_11 hx hb dX4_merge_138 rfl rfl ?_
                  refine zn_iald hx hb hK.1 hP 2 0 rfl rfl (by omega) (by decide) dX4_merge_139 ?_
                  rw [hup2]
                  refine lv_iconst (v := nI 1) hx hb dX4_merge_140 (by decide) ?_
                  refine zn_iadd hx hb dX4_merge_141 ?_
                  refine zn_iast hx hb hK.1 hP hD hS 2 0 rfl rfl (by omega) (by decide) dX4_merge_142 (fun H locs hP hD hS => ?_)
                  have hP : va_P E.1 vwCl (mW E m0 k0 q0 t0 v0 c0 o0 s0 j0 r0 f0 g0 h0 (nI 0) n K (updN (updN M j (M j + i)) j ((M j + i) + 1)) (upd (mgTm TT M j o i) ((64 * j) + (M j + i)) ((mgTm TT M j o i) ((64 * o) + i))) (vp_updL (mgVm VV M j o i) ((64 * j) + (M j + i)) ((mgVm VV M j o i) ((64 * o) + i))) CC OO b S J RR w1 w2 w3 w4 SF SM FD) H := by rw [upd_nI] at hP; exact hP
                  have hD : va_D A (mW E m0 k0 q0 t0 v0 c0 o0 s0 j0 r0 f0 g0 h0 (nI 0) n K (updN (updN M j (M j + i)) j ((M j + i) + 1)) (upd (mgTm TT M j o i) ((64 * j) + (M j + i)) ((mgTm TT M j o i) ((64 * o) + i))) (vp_updL (mgVm VV M j o i) ((64 * j) + (M j + i)) ((mgVm VV M j o i) ((64 * o) + i))) CC OO b S J RR w1 w2 w3 w4 SF SM FD) := by rw [upd_nI] at hD; exact hD
                  refine lv_iinc (v := nI (i + 1)) (lv' := [(3, .int (nI (i + 1))), (0, .ref m0), (1, .int (nI j)), (2, .int (nI o))]) hx hb dX4_merge_143 hl (k := 3) rfl (z_inc _ 1) (by decide) rfl (fun ls hl => ?_)
                  refine lv_goto (tgt := 69) hx hb dX4_merge_146 (by decide) ?_
                  rw [updN_twice] at hP hD
                  exact ihlp (i + 1) ls _ _ (by omega) (by omega) (lv_sub hl [1, 2, 3, 0] rfl) hP hD hS
            have hM0 := updN_add0 M j
            have hP : va_P E.1 vwCl (mW E m0 k0 q0 t0 v0 c0 o0 s0 j0 r0 f0 g0 h0 (nI 0) n K (updN M j (M j + 0)) TT VV CC OO b S J RR w1 w2 w3 w4 SF SM FD) H := by rw [hM0]; exact hP
            have hD : va_D A (mW E m0 k0 q0 t0 v0 c0 o0 s0 j0 r0 f0 g0 h0 (nI 0) n K (updN M j (M j + 0)) TT VV CC OO b S J RR w1 w2 w3 w4 SF SM FD) := by rw [hM0]; exact hD
            exact lp _ 0 ls _ _ (Nat.lt_succ_self _) (Nat.zero_le _) (lv_sub hl [1, 2, 3, 0] rfl) hP hD hS
          · refine lv_bipush (v := (-4)) hx hb dX4_merge_64 (by decide) ?_
            exact z_reti (by unfold mgA; rw [hfij]; show _ = (fidx n (nI o)).elim (-1) _; rw [hfio]; show _ = (if j = o then (-1) else if K j = K o then (if M j + M o ≤ 64 then nI (M j + M o) else (-4)) else (-3)); rw [if_neg c_3, if_pos c_4, if_neg (by omega)]) (ret _ _ _ _ (by (have ho : mgOk n K M (nI j) (nI o) = none := by unfold mgOk; rw [hfij]; show (fidx n (nI o)).elim none _ = _; rw [hfio]; show (if j ≠ o ∧ K j = K o ∧ M j + M o ≤ 64 then some (j, o) else none) = _; rw [if_neg (fun q => by have := q.2.2; omega)]); rw [ho]; exact hP) hS dX4_merge_66)
        · refine lv_bipush (v := (-3)) hx hb dX4_merge_43 (by decide) ?_
          exact z_reti (by unfold mgA; rw [hfij]; show _ = (fidx n (nI o)).elim (-1) _; rw [hfio]; show _ = (if j = o then (-1) else if K j = K o then (if M j + M o ≤ 64 then nI (M j + M o) else (-4)) else (-3)); rw [if_neg c_3, if_neg c_4]) (ret _ _ _ _ (by (have ho : mgOk n K M (nI j) (nI o) = none := by unfold mgOk; rw [hfij]; show (fidx n (nI o)).elim none _ = _; rw [hfio]; show (if j ≠ o ∧ K j = K o ∧ M j + M o ≤ 64 then some (j, o) else none) = _; rw [if_neg (fun q => c_4 q.2.1)]); rw [ho]; exact hP) hS dX4_merge_45)
      · refine lv_iconst (v := (-1)) hx hb dX4_merge_26 (by decide) ?_
        exact z_reti (by unfold mgA; rw [hfij]; show _ = (fidx n (nI o)).elim (-1) _; rw [hfio]; show _ = (if j = o then (-1) else if K j = K o then (if M j + M o ≤ 64 then nI (M j + M o) else (-4)) else (-3)); rw [if_pos c_3]) (ret _ _ _ _ (by (have ho : mgOk n K M (nI j) (nI o) = none := by unfold mgOk; rw [hfij]; show (fidx n (nI o)).elim none _ = _; rw [hfio]; show (if j ≠ o ∧ K j = K o ∧ M j + M o ≤ 64 then some (j, o) else none) = _; rw [if_neg (fun q => q.1 c_3)]); rw [ho]; exact hP) hS dX4_merge_27)
set_option maxHeartbeats 4000000 in
set_option maxRecDepth 100000 in
theorem kX4_reach (l : Launch) (E : zE) (sz : Nat) (m0 k0 q0 t0 v0 c0 o0 s0 j0 r0 f0 g0 h0 : Nat) (cd : Int32) (n : Nat) (K M : Nat → Nat) (TT : Nat → Int32) (VV CC : Nat → Int64) (OO : Nat → Nat) (b : Nat) (S J : Nat → Nat) (RR : Nat → Bool) (w1 w2 w3 w4 : Int32) (SF SM FD : Nat → Nat) (hn : n ≤ 12) (hb0 : b < 8) (hS0 : ∀ j, S j < 8) (hJ0 : ∀ j, J j < 8) : Met l yX4_reach wsX4_reach (rmL 0) (va_Pc [.ref m0] (zS E (mW E m0 k0 q0 t0 v0 c0 o0 s0 j0 r0 f0 g0 h0 cd n K M TT VV CC OO b S J RR w1 w2 w3 w4 SF SM FD) sz)) (va_Qv (fun (_ : Unit) => True) (fun _ t9 => zW E (mW E m0 k0 q0 t0 v0 c0 o0 s0 j0 r0 f0 g0 h0 cd n K M TT VV CC OO b S J (rcM S b RR) w1 w2 w3 w4 SF SM FD) t9) (va_A (mW E m0 k0 q0 t0 v0 c0 o0 s0 j0 r0 f0 g0 h0 cd n K M TT VV CC OO b S J RR w1 w2 w3 w4 SF SM FD) sz)) 0 0 (va_A (mW E m0 k0 q0 t0 v0 c0 o0 s0 j0 r0 f0 g0 h0 cd n K M TT VV CC OO b S J RR w1 w2 w3 w4 SF SM FD) sz) := by
  refine z_ofWv (cc := cX4_reach) (maxL := 3) (own := RX4) (by decide) rfl rfl (Nat.le_of_ble_eq_true rfl) ?_
  intro p e s m args below meth c R Q A B hP hD hA ret ls hl
  obtain ⟨hx, hb, hml, hown, hts, hK, hRf, hRl⟩ := B
  have hiX4 : ∀ w ∈ wsX40, w ∈ wsX4_reach := by decide +kernel
  have hf29 := hts (.fieldLink RX4 29 "ExactFoldsModel" "steps" "[I") (by decide +kernel)
  have hf35 := hts (.fieldLink RX4 35 "ExactFoldsModel" "reached" "[Z") (by decide +kernel)
  have hf155 := hts (.fieldLink RX4 155 "ExactFoldsModel" "begin" "I") (by decide +kernel)
  have hS : va_S A s.heap s.heap [] := va_S.rf
  have hl : lv_has ls 3 [(0, .ref m0)] := hl
  refine lv_iconst (v := nI 0) hx hb dX4_reach_0 (by decide) ?_
  refine lv_istore_n (lv' := [(1, .int (nI 0)), (0, .ref m0)]) hx hb dX4_reach_1 rfl hl (by decide) rfl (fun ls hl => ?_)
  have lp : ∀ (fu : Nat) (i : Nat) (ls : Array Slot) (H : Heap) (locs : List Loc), 8 - i < fu → (i ≤ 8) → lv_has ls 3 [(0, .ref m0), (1, .int (nI i))] → va_P E.1 vwCl (mW E m0 k0 q0 t0 v0 c0 o0 s0 j0 r0 f0 g0 h0 cd n K M TT VV CC OO b S J (rc0 RR b i) w1 w2 w3 w4 SF SM FD) H → va_D A (mW E m0 k0 q0 t0 v0 c0 o0 s0 j0 r0 f0 g0 h0 cd n K M TT VV CC OO b S J (rc0 RR b i) w1 w2 w3 w4 SF SM FD) → va_S A s.heap H locs → W p l e R s m args below meth c H locs 0 0 Q (F0 m 2 ls []) := by
    intro fu
    induction fu with
    | zero => intros; exact absurd (by assumption) (Nat.not_lt_zero _)
    | succ fu ihlp =>
      intro i ls H locs hfu hi hl hP hD hS
      refine lv_iload_n hx hb dX4_reach_2 rfl (lv_at hl 1 rfl) ?_
      refine lv_bipush (v := nI 8) hx hb dX4_reach_3 (by decide) ?_
      refine zn_icmp_ge (tgt := 33) hx hb dX4_reach_5 (by decide) (by omega) (by omega) (fun c_1 => ?_) (fun c_1 => ?_)
      · obtain rfl : i = 8 := by omega
        refine lv_iconst (v := nI 0) hx hb dX4_reach_33 (by decide) ?_
        refine lv_istore_n (lv' := [(1, .int (nI 0)), (0, .ref m0)]) hx hb dX4_reach_34 rfl hl (by decide) rfl (fun ls hl => ?_)
        have lq : ∀ (fu : Nat) (t : Nat) (ls : Array Slot) (H : Heap) (locs : List Loc), 8 - t < fu → (t ≤ 8) → lv_has ls 3 [(0, .ref m0), (1, .int (nI t))] → va_P E.1 vwCl (mW E m0 k0 q0 t0 v0 c0 o0 s0 j0 r0 f0 g0 h0 cd n K M TT VV CC OO b S J (rtS S (rc0 RR b 8) t) w1 w2 w3 w4 SF SM FD) H → va_D A (mW E m0 k0 q0 t0 v0 c0 o0 s0 j0 r0 f0 g0 h0 cd n K M TT VV CC OO b S J (rtS S (rc0 RR b 8) t) w1 w2 w3 w4 SF SM FD) → va_S A s.heap H locs → W p l e R s m args below meth c H locs 0 0 Q (F0 m 35 ls []) := by
          intro fu
          induction fu with
          | zero => intros; exact absurd (by assumption) (Nat.not_lt_zero _)
          | succ fu ihlq =>
            intro t ls H locs hfu ht8 hl hP hD hS
            refine lv_iload_n hx hb dX4_reach_35 rfl (lv_at hl 1 rfl) ?_
            refine lv_bipush (v := nI 8) hx hb dX4_reach_36 (by decide) ?_
            refine zn_icmp_ge (tgt := 102) hx hb dX4_reach_38 (by decide) (by omega) (by omega) (fun c_2 => ?_) (fun c_2 => ?_)
            · obtain rfl : t = 8 := by omega
              exact ret _ _ _ _ (hP) hS dX4_reach_102
            · refine lv_iconst (v := nI 0) hx hb dX4_reach_41 (by decide) ?_
              refine lv_istore_n (lv' := [(2, .int (nI 0)), (0, .ref m0), (1, .int (nI t))]) hx hb dX4_reach_42 rfl hl (by decide) rfl (fun ls hl => ?_)
              have lr : ∀ (fu : Nat) (k : Nat) (ls : Array Slot) (H : Heap) (locs : List Loc), 32 - k < fu → (k ≤ 32) → lv_has ls 3 [(0, .ref m0), (1, .int (nI t)), (2, .int (nI k))] → va_P E.1 vwCl (mW E m0 k0 q0 t0 v0 c0 o0 s0 j0 r0 f0 g0 h0 cd n K M TT VV CC OO b S J (rkS S (rtS S (rc0 RR b 8) t) k) w1 w2 w3 w4 SF SM FD) H → va_D A (mW E m0 k0 q0 t0 v0 c0 o0 s0 j0 r0 f0 g0 h0 cd n K M TT VV CC OO b S J (rkS S (rtS S (rc0 RR b 8) t) k) w1 w2 w3 w4 SF SM FD) → va_S A s.heap H locs → W p l e R s m args below meth c H locs 0 0 Q (F0 m 43 ls []) := by
                intro fu
                induction fu with
                | zero => intros; exact absurd (by assumption) (Nat.not_lt_zero _)
                | succ fu ihlr =>
                  intro k ls H locs hfu hk hl hP hD hS
                  refine lv_iload_n hx hb dX4_reach_43 rfl (lv_at hl 2 rfl) ?_
                  refine lv_bipush (v := nI 32) hx hb dX4_reach_44 (by decide) ?_
                  refine zn_icmp_ge (tgt := 96) hx hb dX4_reach_46 (by decide) (by omega) (by omega) (fun c_3 => ?_) (fun c_3 => ?_)
                  · obtain rfl : k = 32 := by omega
                    refine lv_iinc (v := nI (t + 1)) (lv' := [(1, .int (nI (t + 1))), (0, .ref m0), (2, .int (nI 32))]) hx hb dX4_reach_96 hl (k := 1) rfl (z_inc _ 1) (by decide) rfl (fun ls hl => ?_)
                    refine lv_goto (tgt := 35) hx hb dX4_reach_99 (by decide) ?_
                    exact ihlq (t + 1) ls _ _ (by omega) (by omega) (lv_sub hl [1, 0] rfl) hP hD hS
                  · have hsk := hS0 k
                    refine lv_aload_n hx hb dX4_reach_49 rfl (lv_at hl 0 rfl) ?_
                    refine va_get (D := E.1) (ci := 5) (C := RX4) (T := TX4) (N := 19) hx hb hts hiX4 hown hK.1 hP 0 rfl rfl 11 (by decide) hf35 (fun _ h9 => h9) rfl dX4_reach_50 ?_
                    refine lv_aload_n hx hb dX4_reach_53 rfl (lv_at hl 0 rfl) ?_
                    refine va_get (D := E.1) (ci := 5) (C := RX4) (T := TX4) (N := 19) hx hb hts hiX4 hown hK.1 hP 0 rfl rfl 9 (by decide) hf29 (fun _ h9 => h9) rfl dX4_reach_54 ?_
                    refine lv_iload_n hx hb dX4_reach_57 rfl (lv_at hl 2 rfl) ?_
                    refine zn_iald hx hb hK.1 hP 7 0 rfl rfl (by omega) (by decide) dX4_reach_58 ?_
                    refine lv_aload_n hx hb dX4_reach_59 rfl (lv_at hl 0 rfl) ?_
                    refine va_get (D := E.1) (ci := 5) (C := RX4) (T := TX4) (N := 19) hx hb hts hiX4 hown hK.1 hP 0 rfl rfl 11 (by decide) hf35 (fun _ h9 => h9) rfl dX4_reach_60 ?_
                    refine lv_aload_n hx hb dX4_reach_63 rfl (lv_at hl 0 rfl) ?_
                    refine va_get (D := E.1) (ci := 5) (C := RX4) (T := TX4) (N := 19) hx hb hts hiX4 hown hK.1 hP 0 rfl rfl 9 (by decide) hf29 (fun _ h9 => h9) rfl dX4_reach_64 ?_
                    refine lv_iload_n hx hb dX4_reach_67 rfl (lv_at hl 2 rfl) ?_
                    refine zn_iald hx hb hK.1 hP 7 0 rfl rfl (by omega) (by decide) dX4_reach_68 ?_
                    refine zn_zald hx hb hK.1 hP 9 2 rfl rfl (by omega) (by decide) dX4_reach_69 ?_
                    refine zb_if_ne (tgt := 84) hx hb dX4_reach_70 (by decide) (fun c_4 => ?_) (fun c_4 => ?_)
                    · have hbs : updN (rkS S (rtS S (rc0 RR b 8) t) k) (S k) true = rkS S (rtS S (rc0 RR b 8) t) (k + 1) := by rw [show rkS S (rtS S (rc0 RR b 8) t) (k + 1) = updN (rkS S (rtS S (rc0 RR b 8) t) k) (S k) (rkS S (rtS S (rc0 RR b 8) t) k (S k) || rkS S (rtS S (rc0 RR b 8) t) k (k / 4)) from rfl, c_4]; rfl
                      refine lv_iconst (v := nI 1) hx hb dX4_reach_84 (by decide) ?_
                      refine lv_goto (tgt := 89) hx hb dX4_reach_85 (by decide) ?_
                      refine W.eq (g2 := F0 m 89 ls ([.int (bI true), .int (nI (S k)), .ref r0])) rfl ?_
                      refine zn_zast hx hb hK.1 hP hD hS 9 2 rfl rfl (by omega) (by decide) dX4_reach_89 (fun H locs hP hD hS => ?_)
                      have hP : va_P E.1 vwCl (mW E m0 k0 q0 t0 v0 c0 o0 s0 j0 r0 f0 g0 h0 cd n K M TT VV CC OO b S J (updN (rkS S (rtS S (rc0 RR b 8) t) k) (S k) true) w1 w2 w3 w4 SF SM FD) H := by rw [upd_bI] at hP; exact hP
                      have hD : va_D A (mW E m0 k0 q0 t0 v0 c0 o0 s0 j0 r0 f0 g0 h0 cd n K M TT VV CC OO b S J (updN (rkS S (rtS S (rc0 RR b 8) t) k) (S k) true) w1 w2 w3 w4 SF SM FD) := by rw [upd_bI] at hD; exact hD
                      refine lv_iinc (v := nI (k + 1)) (lv' := [(2, .int (nI (k + 1))), (0, .ref m0), (1, .int (nI t))]) hx hb dX4_reach_90 hl (k := 2) rfl (z_inc _ 1) (by decide) rfl (fun ls hl => ?_)
                      refine lv_goto (tgt := 43) hx hb dX4_reach_93 (by decide) ?_
                      rw [hbs] at hP hD
                      exact ihlr (k + 1) ls _ _ (by omega) (by omega) (lv_sub hl [1, 2, 0] rfl) hP hD hS
                    · refine lv_aload_n hx hb dX4_reach_73 rfl (lv_at hl 0 rfl) ?_
                      refine va_get (D := E.1) (ci := 5) (C := RX4) (T := TX4) (N := 19) hx hb hts hiX4 hown hK.1 hP 0 rfl rfl 11 (by decide) hf35 (fun _ h9 => h9) rfl dX4_reach_74 ?_
                      refine lv_iload_n hx hb dX4_reach_77 rfl (lv_at hl 2 rfl) ?_
                      refine lv_iconst (v := nI 4) hx hb dX4_reach_78 (by decide) ?_
                      refine zn_idiv hx hb (by omega) (by omega) (by omega) dX4_reach_79 ?_
                      refine zn_zald hx hb hK.1 hP 9 2 rfl rfl (by omega) (by decide) dX4_reach_80 ?_
                      refine zb_if_eq (tgt := 88) hx hb dX4_reach_81 (by decide) (fun c_5 => ?_) (fun c_5 => ?_)
                      · have hbs : updN (rkS S (rtS S (rc0 RR b 8) t) k) (S k) false = rkS S (rtS S (rc0 RR b 8) t) (k + 1) := by rw [show rkS S (rtS S (rc0 RR b 8) t) (k + 1) = updN (rkS S (rtS S (rc0 RR b 8) t) k) (S k) (rkS S (rtS S (rc0 RR b 8) t) k (S k) || rkS S (rtS S (rc0 RR b 8) t) k (k / 4)) from rfl, c_4, c_5]; rfl
                        refine lv_iconst (v := nI 0) hx hb dX4_reach_88 (by decide) ?_
                        refine W.eq (g2 := F0 m 89 ls ([.int (bI false), .int (nI (S k)), .ref r0])) rfl ?_
                        refine zn_zast hx hb hK.1 hP hD hS 9 2 rfl rfl (by omega) (by decide) dX4_reach_89 (fun H locs hP hD hS => ?_)
                        have hP : va_P E.1 vwCl (mW E m0 k0 q0 t0 v0 c0 o0 s0 j0 r0 f0 g0 h0 cd n K M TT VV CC OO b S J (updN (rkS S (rtS S (rc0 RR b 8) t) k) (S k) false) w1 w2 w3 w4 SF SM FD) H := by rw [upd_bI] at hP; exact hP
                        have hD : va_D A (mW E m0 k0 q0 t0 v0 c0 o0 s0 j0 r0 f0 g0 h0 cd n K M TT VV CC OO b S J (updN (rkS S (rtS S (rc0 RR b 8) t) k) (S k) false) w1 w2 w3 w4 SF SM FD) := by rw [upd_bI] at hD; exact hD
                        refine lv_iinc (v := nI (k + 1)) (lv' := [(2, .int (nI (k + 1))), (0, .ref m0), (1, .int (nI t))]) hx hb dX4_reach_90 hl (k := 2) rfl (z_inc _ 1) (by decide) rfl (fun ls hl => ?_)
                        refine lv_goto (tgt := 43) hx hb dX4_reach_93 (by decide) ?_
                        rw [hbs] at hP hD
                        exact ihlr (k + 1) ls _ _ (by omega) (by omega) (lv_sub hl [1, 2, 0] rfl) hP hD hS
                      · have hbs : updN (rkS S (rtS S (rc0 RR b 8) t) k) (S k) true = rkS S (rtS S (rc0 RR b 8) t) (k + 1) := by rw [show rkS S (rtS S (rc0 RR b 8) t) (k + 1) = updN (rkS S (rtS S (rc0 RR b 8) t) k) (S k) (rkS S (rtS S (rc0 RR b 8) t) k (S k) || rkS S (rtS S (rc0 RR b 8) t) k (k / 4)) from rfl, c_4, c_5]; rfl
                        refine lv_iconst (v := nI 1) hx hb dX4_reach_84 (by decide) ?_
                        refine lv_goto (tgt := 89) hx hb dX4_reach_85 (by decide) ?_
                        refine W.eq (g2 := F0 m 89 ls ([.int (bI true), .int (nI (S k)), .ref r0])) rfl ?_
                        refine zn_zast hx hb hK.1 hP hD hS 9 2 rfl rfl (by omega) (by decide) dX4_reach_89 (fun H locs hP hD hS => ?_)
                        have hP : va_P E.1 vwCl (mW E m0 k0 q0 t0 v0 c0 o0 s0 j0 r0 f0 g0 h0 cd n K M TT VV CC OO b S J (updN (rkS S (rtS S (rc0 RR b 8) t) k) (S k) true) w1 w2 w3 w4 SF SM FD) H := by rw [upd_bI] at hP; exact hP
                        have hD : va_D A (mW E m0 k0 q0 t0 v0 c0 o0 s0 j0 r0 f0 g0 h0 cd n K M TT VV CC OO b S J (updN (rkS S (rtS S (rc0 RR b 8) t) k) (S k) true) w1 w2 w3 w4 SF SM FD) := by rw [upd_bI] at hD; exact hD
                        refine lv_iinc (v := nI (k + 1)) (lv' := [(2, .int (nI (k + 1))), (0, .ref m0), (1, .int (nI t))]) hx hb dX4_reach_90 hl (k := 2) rfl (z_inc _ 1) (by decide) rfl (fun ls hl => ?_)
                        refine lv_goto (tgt := 43) hx hb dX4_reach_93 (by decide) ?_
                        rw [hbs] at hP hD
                        exact ihlr (k + 1) ls _ _ (by omega) (by omega) (lv_sub hl [1, 2, 0] rfl) hP hD hS
              exact lr _ 0 ls _ _ (Nat.lt_succ_self _) (Nat.zero_le _) (lv_sub hl [1, 2, 0] rfl) hP hD hS
        exact lq _ 0 ls _ _ (Nat.lt_succ_self _) (Nat.zero_le _) (lv_sub hl [1, 0] rfl) hP hD hS
      · refine lv_aload_n hx hb dX4_reach_8 rfl (lv_at hl 0 rfl) ?_
        refine va_get (D := E.1) (ci := 5) (C := RX4) (T := TX4) (N := 19) hx hb hts hiX4 hown hK.1 hP 0 rfl rfl 11 (by decide) hf35 (fun _ h9 => h9) rfl dX4_reach_9 ?_
        refine lv_iload_n hx hb dX4_reach_12 rfl (lv_at hl 1 rfl) ?_
        refine lv_iload_n hx hb dX4_reach_13 rfl (lv_at hl 1 rfl) ?_
        refine lv_aload_n hx hb dX4_reach_14 rfl (lv_at hl 0 rfl) ?_
        refine va_get (D := E.1) (ci := 5) (C := RX4) (T := TX4) (N := 19) hx hb hts hiX4 hown hK.1 hP 0 rfl rfl 8 (by decide) hf155 (fun _ h9 => h9) rfl dX4_reach_15 ?_
        refine zn_icmp_ne (tgt := 25) hx hb dX4_reach_18 (by decide) (by omega) (by omega) (fun c_6 => ?_) (fun c_6 => ?_)
        · have hbs : updN (rc0 RR b i) i false = rc0 RR b (i + 1) := by rw [← rc0_step, decide_eq_false c_6]
          refine lv_iconst (v := nI 0) hx hb dX4_reach_25 (by decide) ?_
          refine W.eq (g2 := F0 m 26 ls ([.int (bI false), .int (nI i), .ref r0])) rfl ?_
          refine zn_zast hx hb hK.1 hP hD hS 9 2 rfl rfl (by omega) (by decide) dX4_reach_26 (fun H locs hP hD hS => ?_)
          have hP : va_P E.1 vwCl (mW E m0 k0 q0 t0 v0 c0 o0 s0 j0 r0 f0 g0 h0 cd n K M TT VV CC OO b S J (updN (rc0 RR b i) i false) w1 w2 w3 w4 SF SM FD) H := by rw [upd_bI] at hP; exact hP
          have hD : va_D A (mW E m0 k0 q0 t0 v0 c0 o0 s0 j0 r0 f0 g0 h0 cd n K M TT VV CC OO b S J (updN (rc0 RR b i) i false) w1 w2 w3 w4 SF SM FD) := by rw [upd_bI] at hD; exact hD
          refine lv_iinc (v := nI (i + 1)) (lv' := [(1, .int (nI (i + 1))), (0, .ref m0)]) hx hb dX4_reach_27 hl (k := 1) rfl (z_inc _ 1) (by decide) rfl (fun ls hl => ?_)
          refine lv_goto (tgt := 2) hx hb dX4_reach_30 (by decide) ?_
          rw [hbs] at hP hD
          exact ihlp (i + 1) ls _ _ (by omega) (by omega) (lv_sub hl [1, 0] rfl) hP hD hS
        · have hbs : updN (rc0 RR b i) i true = rc0 RR b (i + 1) := by rw [← rc0_step, decide_eq_true c_6]
          refine lv_iconst (v := nI 1) hx hb dX4_reach_21 (by decide) ?_
          refine lv_goto (tgt := 26) hx hb dX4_reach_22 (by decide) ?_
          refine W.eq (g2 := F0 m 26 ls ([.int (bI true), .int (nI i), .ref r0])) rfl ?_
          refine zn_zast hx hb hK.1 hP hD hS 9 2 rfl rfl (by omega) (by decide) dX4_reach_26 (fun H locs hP hD hS => ?_)
          have hP : va_P E.1 vwCl (mW E m0 k0 q0 t0 v0 c0 o0 s0 j0 r0 f0 g0 h0 cd n K M TT VV CC OO b S J (updN (rc0 RR b i) i true) w1 w2 w3 w4 SF SM FD) H := by rw [upd_bI] at hP; exact hP
          have hD : va_D A (mW E m0 k0 q0 t0 v0 c0 o0 s0 j0 r0 f0 g0 h0 cd n K M TT VV CC OO b S J (updN (rc0 RR b i) i true) w1 w2 w3 w4 SF SM FD) := by rw [upd_bI] at hD; exact hD
          refine lv_iinc (v := nI (i + 1)) (lv' := [(1, .int (nI (i + 1))), (0, .ref m0)]) hx hb dX4_reach_27 hl (k := 1) rfl (z_inc _ 1) (by decide) rfl (fun ls hl => ?_)
          refine lv_goto (tgt := 2) hx hb dX4_reach_30 (by decide) ?_
          rw [hbs] at hP hD
          exact ihlp (i + 1) ls _ _ (by omega) (by omega) (lv_sub hl [1, 0] rfl) hP hD hS
  have hP : va_P E.1 vwCl (mW E m0 k0 q0 t0 v0 c0 o0 s0 j0 r0 f0 g0 h0 cd n K M TT VV CC OO b S J (rc0 RR b 0) w1 w2 w3 w4 SF SM FD) s.heap := by rw [rc0_0]; exact hP
  have hD : va_D A (mW E m0 k0 q0 t0 v0 c0 o0 s0 j0 r0 f0 g0 h0 cd n K M TT VV CC OO b S J (rc0 RR b 0) w1 w2 w3 w4 SF SM FD) := by rw [rc0_0]; exact hD
  exact lp _ 0 ls _ _ (Nat.lt_succ_self _) (Nat.zero_le _) (lv_sub hl [1, 0] rfl) hP hD hS
set_option maxHeartbeats 4000000 in
set_option maxRecDepth 100000 in
theorem kX4_look (l : Launch) (E : zE) (sz : Nat) (m0 k0 q0 t0 v0 c0 o0 s0 j0 r0 f0 g0 h0 : Nat) (cd : Int32) (n : Nat) (K M : Nat → Nat) (TT : Nat → Int32) (VV CC : Nat → Int64) (OO : Nat → Nat) (b : Nat) (S J : Nat → Nat) (RR : Nat → Bool) (w1 w2 w3 w4 : Int32) (SF SM FD : Nat → Nat) (hn : n ≤ 12) (hb0 : b < 8) (hS0 : ∀ j, S j < 8) (hJ0 : ∀ j, J j < 8) (s_ : Nat) (hs : s_ < 8) : Met l yX4_look wsX4_look (rmL 0) (va_Pc [.ref m0, .int (nI s_)] (zS E (mW E m0 k0 q0 t0 v0 c0 o0 s0 j0 r0 f0 g0 h0 cd n K M TT VV CC OO b S J RR w1 w2 w3 w4 SF SM FD) sz)) (va_Qv (fun (_ : Unit) => True) (fun _ t9 => zW E (mW E m0 k0 q0 t0 v0 c0 o0 s0 j0 r0 f0 g0 h0 cd n K M TT VV CC OO b S J RR ((lokA S J b RR s_ (w1, w2, w3, w4)).1) ((lokA S J b RR s_ (w1, w2, w3, w4)).2.1) ((lokA S J b RR s_ (w1, w2, w3, w4)).2.2.1) ((lokA S J b RR s_ (w1, w2, w3, w4)).2.2.2) SF SM FD) t9) (va_A (mW E m0 k0 q0 t0 v0 c0 o0 s0 j0 r0 f0 g0 h0 cd n K M TT VV CC OO b S J RR w1 w2 w3 w4 SF SM FD) sz)) 0 0 (va_A (mW E m0 k0 q0 t0 v0 c0 o0 s0 j0 r0 f0 g0 h0 cd n K M TT VV CC OO b S J RR w1 w2 w3 w4 SF SM FD) sz) := by
  refine z_ofWv (cc := cX4_look) (maxL := 4) (own := RX4) (by decide) rfl rfl (Nat.le_of_ble_eq_true rfl) ?_
  intro p e s m args below meth c R Q A B hP hD hA ret ls hl
  obtain ⟨hx, hb, hml, hown, hts, hK, hRf, hRl⟩ := B
  have hiX4 : ∀ w ∈ wsX40, w ∈ wsX4_look := by decide +kernel
  have hf29 := hts (.fieldLink RX4 29 "ExactFoldsModel" "steps" "[I") (by decide +kernel)
  have hf32 := hts (.fieldLink RX4 32 "ExactFoldsModel" "joins" "[I") (by decide +kernel)
  have hf35 := hts (.fieldLink RX4 35 "ExactFoldsModel" "reached" "[Z") (by decide +kernel)
  have hf155 := hts (.fieldLink RX4 155 "ExactFoldsModel" "begin" "I") (by decide +kernel)
  have hf158 := hts (.fieldLink RX4 158 "ExactFoldsModel" "wrongKind" "I") (by decide +kernel)
  have hf161 := hts (.fieldLink RX4 161 "ExactFoldsModel" "wrongS" "I") (by decide +kernel)
  have hf164 := hts (.fieldLink RX4 164 "ExactFoldsModel" "wrongT" "I") (by decide +kernel)
  have hf167 := hts (.fieldLink RX4 167 "ExactFoldsModel" "wrongV" "I") (by decide +kernel)
  have hS : va_S A s.heap s.heap [] := va_S.rf
  have hl : lv_has ls 4 [(0, .ref m0), (1, .int (nI s_))] := hl
  refine lv_aload_n hx hb dX4_look_0 rfl (lv_at hl 0 rfl) ?_
  refine va_get (D := E.1) (ci := 5) (C := RX4) (T := TX4) (N := 19) hx hb hts hiX4 hown hK.1 hP 0 rfl rfl 10 (by decide) hf32 (fun _ h9 => h9) rfl dX4_look_1 ?_
  refine lv_bipush (v := nI 8) hx hb dX4_look_4 (by decide) ?_
  refine lv_iload_n hx hb dX4_look_6 rfl (lv_at hl 1 rfl) ?_
  refine zn_imul hx hb dX4_look_7 ?_
  refine lv_aload_n hx hb dX4_look_8 rfl (lv_at hl 0 rfl) ?_
  refine va_get (D := E.1) (ci := 5) (C := RX4) (T := TX4) (N := 19) hx hb hts hiX4 hown hK.1 hP 0 rfl rfl 8 (by decide) hf155 (fun _ h9 => h9) rfl dX4_look_9 ?_
  refine zn_iadd hx hb dX4_look_12 ?_
  refine zn_iald hx hb hK.1 hP 8 0 rfl rfl (by omega) (by decide) dX4_look_13 ?_
  refine lv_iload_n hx hb dX4_look_14 rfl (lv_at hl 1 rfl) ?_
  refine zn_icmp_eq (tgt := 29) hx hb dX4_look_15 (by decide) (Nat.lt_trans (hJ0 _) (by decide)) (by omega) (fun c_1 => ?_) (fun c_1 => ?_)
  · refine lv_iconst (v := nI 0) hx hb dX4_look_29 (by decide) ?_
    refine lv_istore_n (lv' := [(2, .int (nI 0)), (0, .ref m0), (1, .int (nI s_))]) hx hb dX4_look_30 rfl hl (by decide) rfl (fun ls hl => ?_)
    have lp : ∀ (fu : Nat) (k : Nat) (u1 : Int32) (u2 : Int32) (u3 : Int32) (u4 : Int32) (ls : Array Slot) (H : Heap) (locs : List Loc), 32 - k < fu → (k ≤ 32) → (lokF S J RR s_ (32 - k) k (u1, u2, u3, u4) = lokA S J b RR s_ (w1, w2, w3, w4)) → lv_has ls 4 [(0, .ref m0), (1, .int (nI s_)), (2, .int (nI k))] → va_P E.1 vwCl (mW E m0 k0 q0 t0 v0 c0 o0 s0 j0 r0 f0 g0 h0 cd n K M TT VV CC OO b S J RR u1 u2 u3 u4 SF SM FD) H → va_D A (mW E m0 k0 q0 t0 v0 c0 o0 s0 j0 r0 f0 g0 h0 cd n K M TT VV CC OO b S J RR u1 u2 u3 u4 SF SM FD) → va_S A s.heap H locs → W p l e R s m args below meth c H locs 0 0 Q (F0 m 31 ls []) := by
      intro fu
      induction fu with
      | zero => intros; exact absurd (by assumption) (Nat.not_lt_zero _)
      | succ fu ihlp =>
        intro k u1 u2 u3 u4 ls H locs hfu hk hq hl hP hD hS
        refine lv_iload_n hx hb dX4_look_31 rfl (lv_at hl 2 rfl) ?_
        refine lv_bipush (v := nI 32) hx hb dX4_look_32 (by decide) ?_
        refine zn_icmp_ge (tgt := 126) hx hb dX4_look_34 (by decide) (by omega) (by omega) (fun c_2 => ?_) (fun c_2 => ?_)
        · obtain rfl : k = 32 := by omega
          exact ret _ _ _ _ (by rw [← hq]; exact hP) hS dX4_look_126
        · have hsk := hS0 k
          have hjk := hJ0 (8 * s_ + k / 4)
          refine lv_aload_n hx hb dX4_look_37 rfl (lv_at hl 0 rfl) ?_
          refine va_get (D := E.1) (ci := 5) (C := RX4) (T := TX4) (N := 19) hx hb hts hiX4 hown hK.1 hP 0 rfl rfl 12 (by decide) hf158 (fun _ h9 => h9) rfl dX4_look_38 ?_
          refine lv_if_ne (tgt := 126) hx hb dX4_look_41 (by decide) (fun c_3 => ?_) (fun c_3 => ?_)
          · exact ret _ _ _ _ (by rw [← hq, lok_hit c_2 c_3]; exact hP) hS dX4_look_126
          · refine lv_iload_n hx hb dX4_look_44 rfl (lv_at hl 2 rfl) ?_
            refine lv_iconst (v := nI 4) hx hb dX4_look_45 (by decide) ?_
            refine zn_idiv hx hb (by omega) (by omega) (by omega) dX4_look_46 ?_
            refine lv_istore_n (lv' := [(3, .int (nI (k / 4))), (0, .ref m0), (1, .int (nI s_)), (2, .int (nI k))]) hx hb dX4_look_47 rfl hl (by decide) rfl (fun ls hl => ?_)
            refine lv_aload_n hx hb dX4_look_48 rfl (lv_at hl 1 rfl) ?_
            refine va_get (D := E.1) (ci := 5) (C := RX4) (T := TX4) (N := 19) hx hb hts hiX4 hown hK.1 hP 0 rfl rfl 11 (by decide) hf35 (fun _ h9 => h9) rfl dX4_look_49 ?_
            refine lv_iload_n hx hb dX4_look_52 rfl (lv_at hl 0 rfl) ?_
            refine zn_zald hx hb hK.1 hP 9 2 rfl rfl (by omega) (by decide) dX4_look_53 ?_
            refine zb_if_eq (tgt := 120) hx hb dX4_look_54 (by decide) (fun c_4 => ?_) (fun c_4 => ?_)
            · have hq2 : lokF S J RR s_ (32 - (k + 1)) (k + 1) (u1, u2, u3, u4) = lokA S J b RR s_ (w1, w2, w3, w4) := by rw [← hq, lok_step c_2 c_3, if_neg (fun q => by rw [c_4] at q; exact absurd q.1 Bool.false_ne_true)]
              refine lv_iinc (v := nI (k + 1)) (lv' := [(2, .int (nI (k + 1))), (3, .int (nI (k / 4))), (0, .ref m0), (1, .int (nI s_))]) hx hb dX4_look_120 hl (k := 3) rfl (z_inc _ 1) (by decide) rfl (fun ls hl => ?_)
              refine lv_goto (tgt := 31) hx hb dX4_look_123 (by decide) ?_
              exact ihlp (k + 1) u1 u2 u3 u4 ls _ _ (by omega) (by omega) (hq2) (lv_sub hl [2, 3, 0] rfl) hP hD hS
            · refine lv_aload_n hx hb dX4_look_57 rfl (lv_at hl 1 rfl) ?_
              refine va_get (D := E.1) (ci := 5) (C := RX4) (T := TX4) (N := 19) hx hb hts hiX4 hown hK.1 hP 0 rfl rfl 10 (by decide) hf32 (fun _ h9 => h9) rfl dX4_look_58 ?_
              refine lv_bipush (v := nI 8) hx hb dX4_look_61 (by decide) ?_
              refine lv_iload_n hx hb dX4_look_63 rfl (lv_at hl 2 rfl) ?_
              refine zn_imul hx hb dX4_look_64 ?_
              refine lv_aload_n hx hb dX4_look_65 rfl (lv_at hl 1 rfl) ?_
              refine va_get (D := E.1) (ci := 5) (C := RX4) (T := TX4) (N := 19) hx hb hts hiX4 hown hK.1 hP 0 rfl rfl 9 (by decide) hf29 (fun _ h9 => h9) rfl dX4_look_66 ?_
              refine lv_iload_n hx hb dX4_look_69 rfl (lv_at hl 3 rfl) ?_
              refine zn_iald hx hb hK.1 hP 7 0 rfl rfl (by omega) (by decide) dX4_look_70 ?_
              refine zn_iadd hx hb dX4_look_71 ?_
              refine zn_iald hx hb hK.1 hP 8 0 rfl rfl (by omega) (by decide) dX4_look_72 ?_
              refine lv_aload_n hx hb dX4_look_73 rfl (lv_at hl 1 rfl) ?_
              refine va_get (D := E.1) (ci := 5) (C := RX4) (T := TX4) (N := 19) hx hb hts hiX4 hown hK.1 hP 0 rfl rfl 9 (by decide) hf29 (fun _ h9 => h9) rfl dX4_look_74 ?_
              refine lv_iconst (v := nI 4) hx hb dX4_look_77 (by decide) ?_
              refine lv_aload_n hx hb dX4_look_78 rfl (lv_at hl 1 rfl) ?_
              refine va_get (D := E.1) (ci := 5) (C := RX4) (T := TX4) (N := 19) hx hb hts hiX4 hown hK.1 hP 0 rfl rfl 10 (by decide) hf32 (fun _ h9 => h9) rfl dX4_look_79 ?_
              refine lv_bipush (v := nI 8) hx hb dX4_look_82 (by decide) ?_
              refine lv_iload_n hx hb dX4_look_84 rfl (lv_at hl 2 rfl) ?_
              refine zn_imul hx hb dX4_look_85 ?_
              refine lv_iload_n hx hb dX4_look_86 rfl (lv_at hl 0 rfl) ?_
              refine zn_iadd hx hb dX4_look_87 ?_
              refine zn_iald hx hb hK.1 hP 8 0 rfl rfl (by omega) (by decide) dX4_look_88 ?_
              refine zn_imul hx hb dX4_look_89 ?_
              refine lv_iload_n hx hb dX4_look_90 rfl (lv_at hl 3 rfl) ?_
              refine lv_iconst (v := nI 4) hx hb dX4_look_91 (by decide) ?_
              refine zn_irem hx hb (by omega) (by omega) (by omega) dX4_look_92 ?_
              refine zn_iadd hx hb dX4_look_93 ?_
              refine zn_iald hx hb hK.1 hP 7 0 rfl rfl (by omega) (by decide) dX4_look_94 ?_
              refine zn_icmp_eq (tgt := 120) hx hb dX4_look_95 (by decide) (Nat.lt_trans (hJ0 _) (by decide)) (Nat.lt_trans (hS0 _) (by decide)) (fun c_5 => ?_) (fun c_5 => ?_)
              · have hq2 : lokF S J RR s_ (32 - (k + 1)) (k + 1) (u1, u2, u3, u4) = lokA S J b RR s_ (w1, w2, w3, w4) := by rw [← hq, lok_step c_2 c_3, if_neg (fun q => q.2 c_5)]
                refine lv_iinc (v := nI (k + 1)) (lv' := [(2, .int (nI (k + 1))), (3, .int (nI (k / 4))), (0, .ref m0), (1, .int (nI s_))]) hx hb dX4_look_120 hl (k := 3) rfl (z_inc _ 1) (by decide) rfl (fun ls hl => ?_)
                refine lv_goto (tgt := 31) hx hb dX4_look_123 (by decide) ?_
                exact ihlp (k + 1) u1 u2 u3 u4 ls _ _ (by omega) (by omega) (hq2) (lv_sub hl [2, 3, 0] rfl) hP hD hS
              · have hq2 : lokF S J RR s_ (32 - (k + 1)) (k + 1) (nI 2, nI s_, nI (k / 4), nI (k % 4)) = lokA S J b RR s_ (w1, w2, w3, w4) := by rw [← hq, lok_step c_2 c_3, if_pos ⟨c_4, c_5⟩]
                refine lv_aload_n hx hb dX4_look_98 rfl (lv_at hl 1 rfl) ?_
                refine lv_iconst (v := nI 2) hx hb dX4_look_99 (by decide) ?_
                refine va_put (D := E.1) (ci := 5) (v := .int (nI 2)) (ty := .int) (C := RX4) (T := TX4) (N := 19) hx hb hts hiX4 tyX4 tyX4_ok nmX4 hown hK.1 hP hD hS 0 rfl rfl 12 (by decide) hf158 (fun _ h9 => h9) rfl (by decide +kernel) rfl rfl (Nat.le_of_ble_eq_true rfl) dX4_look_100 (fun H locs hP hD hS => ?_)
                have hP : va_P E.1 vwCl (mW E m0 k0 q0 t0 v0 c0 o0 s0 j0 r0 f0 g0 h0 cd n K M TT VV CC OO b S J RR (nI 2) u2 u3 u4 SF SM FD) H := hP
                have hD : va_D A (mW E m0 k0 q0 t0 v0 c0 o0 s0 j0 r0 f0 g0 h0 cd n K M TT VV CC OO b S J RR (nI 2) u2 u3 u4 SF SM FD) := hD
                refine lv_aload_n hx hb dX4_look_103 rfl (lv_at hl 1 rfl) ?_
                refine lv_iload_n hx hb dX4_look_104 rfl (lv_at hl 2 rfl) ?_
                refine va_put (D := E.1) (ci := 5) (v := .int (nI s_)) (ty := .int) (C := RX4) (T := TX4) (N := 19) hx hb hts hiX4 tyX4 tyX4_ok nmX4 hown hK.1 hP hD hS 0 rfl rfl 13 (by decide) hf161 (fun _ h9 => h9) rfl (by decide +kernel) rfl rfl (Nat.le_of_ble_eq_true rfl) dX4_look_105 (fun H locs hP hD hS => ?_)
                have hP : va_P E.1 vwCl (mW E m0 k0 q0 t0 v0 c0 o0 s0 j0 r0 f0 g0 h0 cd n K M TT VV CC OO b S J RR (nI 2) (nI s_) u3 u4 SF SM FD) H := hP
                have hD : va_D A (mW E m0 k0 q0 t0 v0 c0 o0 s0 j0 r0 f0 g0 h0 cd n K M TT VV CC OO b S J RR (nI 2) (nI s_) u3 u4 SF SM FD) := hD
                refine lv_aload_n hx hb dX4_look_108 rfl (lv_at hl 1 rfl) ?_
                refine lv_iload_n hx hb dX4_look_109 rfl (lv_at hl 0 rfl) ?_
                refine va_put (D := E.1) (ci := 5) (v := .int (nI (k / 4))) (ty := .int) (C := RX4) (T := TX4) (N := 19) hx hb hts hiX4 tyX4 tyX4_ok nmX4 hown hK.1 hP hD hS 0 rfl rfl 14 (by decide) hf164 (fun _ h9 => h9) rfl (by decide +kernel) rfl rfl (Nat.le_of_ble_eq_true rfl) dX4_look_110 (fun H locs hP hD hS => ?_)
                have hP : va_P E.1 vwCl (mW E m0 k0 q0 t0 v0 c0 o0 s0 j0 r0 f0 g0 h0 cd n K M TT VV CC OO b S J RR (nI 2) (nI s_) (nI (k / 4)) u4 SF SM FD) H := hP
                have hD : va_D A (mW E m0 k0 q0 t0 v0 c0 o0 s0 j0 r0 f0 g0 h0 cd n K M TT VV CC OO b S J RR (nI 2) (nI s_) (nI (k / 4)) u4 SF SM FD) := hD
                refine lv_aload_n hx hb dX4_look_113 rfl (lv_at hl 1 rfl) ?_
                refine lv_iload_n hx hb dX4_look_114 rfl (lv_at hl 3 rfl) ?_
                refine lv_iconst (v := nI 4) hx hb dX4_look_115 (by decide) ?_
                refine zn_irem hx hb (by omega) (by omega) (by omega) dX4_look_116 ?_
                refine va_put (D := E.1) (ci := 5) (v := .int (nI (k % 4))) (ty := .int) (C := RX4) (T := TX4) (N := 19) hx hb hts hiX4 tyX4 tyX4_ok nmX4 hown hK.1 hP hD hS 0 rfl rfl 15 (by decide) hf167 (fun _ h9 => h9) rfl (by decide +kernel) rfl rfl (Nat.le_of_ble_eq_true rfl) dX4_look_117 (fun H locs hP hD hS => ?_)
                have hP : va_P E.1 vwCl (mW E m0 k0 q0 t0 v0 c0 o0 s0 j0 r0 f0 g0 h0 cd n K M TT VV CC OO b S J RR (nI 2) (nI s_) (nI (k / 4)) (nI (k % 4)) SF SM FD) H := hP
                have hD : va_D A (mW E m0 k0 q0 t0 v0 c0 o0 s0 j0 r0 f0 g0 h0 cd n K M TT VV CC OO b S J RR (nI 2) (nI s_) (nI (k / 4)) (nI (k % 4)) SF SM FD) := hD
                refine lv_iinc (v := nI (k + 1)) (lv' := [(2, .int (nI (k + 1))), (3, .int (nI (k / 4))), (0, .ref m0), (1, .int (nI s_))]) hx hb dX4_look_120 hl (k := 3) rfl (z_inc _ 1) (by decide) rfl (fun ls hl => ?_)
                refine lv_goto (tgt := 31) hx hb dX4_look_123 (by decide) ?_
                exact ihlp (k + 1) (nI 2) (nI s_) (nI (k / 4)) (nI (k % 4)) ls _ _ (by omega) (by omega) (hq2) (lv_sub hl [2, 3, 0] rfl) hP hD hS
    exact lp _ 0 w1 w2 w3 w4 ls _ _ (Nat.lt_succ_self _) (Nat.zero_le _) (by unfold lokA; rw [if_pos c_1]) (lv_sub hl [1, 2, 0] rfl) hP hD hS
  · refine lv_aload_n hx hb dX4_look_18 rfl (lv_at hl 0 rfl) ?_
    refine lv_iconst (v := nI 1) hx hb dX4_look_19 (by decide) ?_
    refine va_put (D := E.1) (ci := 5) (v := .int (nI 1)) (ty := .int) (C := RX4) (T := TX4) (N := 19) hx hb hts hiX4 tyX4 tyX4_ok nmX4 hown hK.1 hP hD hS 0 rfl rfl 12 (by decide) hf158 (fun _ h9 => h9) rfl (by decide +kernel) rfl rfl (Nat.le_of_ble_eq_true rfl) dX4_look_20 (fun H locs hP hD hS => ?_)
    have hP : va_P E.1 vwCl (mW E m0 k0 q0 t0 v0 c0 o0 s0 j0 r0 f0 g0 h0 cd n K M TT VV CC OO b S J RR (nI 1) w2 w3 w4 SF SM FD) H := hP
    have hD : va_D A (mW E m0 k0 q0 t0 v0 c0 o0 s0 j0 r0 f0 g0 h0 cd n K M TT VV CC OO b S J RR (nI 1) w2 w3 w4 SF SM FD) := hD
    refine lv_aload_n hx hb dX4_look_23 rfl (lv_at hl 0 rfl) ?_
    refine lv_iload_n hx hb dX4_look_24 rfl (lv_at hl 1 rfl) ?_
    refine va_put (D := E.1) (ci := 5) (v := .int (nI s_)) (ty := .int) (C := RX4) (T := TX4) (N := 19) hx hb hts hiX4 tyX4 tyX4_ok nmX4 hown hK.1 hP hD hS 0 rfl rfl 13 (by decide) hf161 (fun _ h9 => h9) rfl (by decide +kernel) rfl rfl (Nat.le_of_ble_eq_true rfl) dX4_look_25 (fun H locs hP hD hS => ?_)
    have hP : va_P E.1 vwCl (mW E m0 k0 q0 t0 v0 c0 o0 s0 j0 r0 f0 g0 h0 cd n K M TT VV CC OO b S J RR (nI 1) (nI s_) w3 w4 SF SM FD) H := hP
    have hD : va_D A (mW E m0 k0 q0 t0 v0 c0 o0 s0 j0 r0 f0 g0 h0 cd n K M TT VV CC OO b S J RR (nI 1) (nI s_) w3 w4 SF SM FD) := hD
    exact ret _ _ _ _ (by unfold lokA; rw [if_neg c_1]; exact hP) hS dX4_look_28
set_option maxHeartbeats 4000000 in
set_option maxRecDepth 100000 in
theorem kX4_check (l : Launch) (E : zE) (sz : Nat) (m0 k0 q0 t0 v0 c0 o0 s0 j0 r0 f0 g0 h0 : Nat) (cd : Int32) (n : Nat) (K M : Nat → Nat) (TT : Nat → Int32) (VV CC : Nat → Int64) (OO : Nat → Nat) (b : Nat) (S J : Nat → Nat) (RR : Nat → Bool) (w1 w2 w3 w4 : Int32) (SF SM FD : Nat → Nat) (hn : n ≤ 12) (hb0 : b < 8) (hS0 : ∀ j, S j < 8) (hJ0 : ∀ j, J j < 8) (wh : Int32) : Met l yX4_check wsX4_check (rmL 2) (va_Pc [.ref m0, .int wh] (zS E (mW E m0 k0 q0 t0 v0 c0 o0 s0 j0 r0 f0 g0 h0 cd n K M TT VV CC OO b S J RR w1 w2 w3 w4 SF SM FD) sz)) (va_Qi (fun (r9 : Int32) (_ : Unit) => r9 = ckM S J b RR (w1, w2, w3, w4) wh) (fun _ t9 => zW E (mW E m0 k0 q0 t0 v0 c0 o0 s0 j0 r0 f0 g0 h0 (nI 0) n K M TT VV CC OO b S J (mckR S b RR wh) ((mckW S J b RR (w1, w2, w3, w4) wh).1) ((mckW S J b RR (w1, w2, w3, w4) wh).2.1) ((mckW S J b RR (w1, w2, w3, w4) wh).2.2.1) ((mckW S J b RR (w1, w2, w3, w4) wh).2.2.2) SF SM FD) t9) (va_A (mW E m0 k0 q0 t0 v0 c0 o0 s0 j0 r0 f0 g0 h0 cd n K M TT VV CC OO b S J RR w1 w2 w3 w4 SF SM FD) sz)) 0 0 (va_A (mW E m0 k0 q0 t0 v0 c0 o0 s0 j0 r0 f0 g0 h0 cd n K M TT VV CC OO b S J RR w1 w2 w3 w4 SF SM FD) sz) := by
  refine z_ofWi (cc := cX4_check) (maxL := 3) (own := RX4) (by decide) rfl rfl (Nat.le_of_ble_eq_true rfl) ?_
  intro p e s m args below meth c R Q A B hP hD hA ret ls hl
  obtain ⟨hx, hb, hml, hown, hts, hK, hRf, hRl⟩ := B
  have hiX4 : ∀ w ∈ wsX40, w ∈ wsX4_check := by decide +kernel
  have hf35 := hts (.fieldLink RX4 35 "ExactFoldsModel" "reached" "[Z") (by decide +kernel)
  have hf52 := hts (.fieldLink RX4 52 "ExactFoldsModel" "code" "I") (by decide +kernel)
  have hf158 := hts (.fieldLink RX4 158 "ExactFoldsModel" "wrongKind" "I") (by decide +kernel)
  have hf161 := hts (.fieldLink RX4 161 "ExactFoldsModel" "wrongS" "I") (by decide +kernel)
  have hf164 := hts (.fieldLink RX4 164 "ExactFoldsModel" "wrongT" "I") (by decide +kernel)
  have hf167 := hts (.fieldLink RX4 167 "ExactFoldsModel" "wrongV" "I") (by decide +kernel)
  have hS : va_S A s.heap s.heap [] := va_S.rf
  have hl : lv_has ls 3 [(0, .ref m0), (1, .int wh)] := hl
  refine lv_aload_n hx hb dX4_check_0 rfl (lv_at hl 0 rfl) ?_
  refine lv_iconst (v := nI 0) hx hb dX4_check_1 (by decide) ?_
  refine va_put (D := E.1) (ci := 5) (v := .int (nI 0)) (ty := .int) (C := RX4) (T := TX4) (N := 19) hx hb hts hiX4 tyX4 tyX4_ok nmX4 hown hK.1 hP hD hS 0 rfl rfl 0 (by decide) hf52 (fun _ h9 => h9) rfl (by decide +kernel) rfl rfl (Nat.le_of_ble_eq_true rfl) dX4_check_2 (fun H locs hP hD hS => ?_)
  have hP : va_P E.1 vwCl (mW E m0 k0 q0 t0 v0 c0 o0 s0 j0 r0 f0 g0 h0 (nI 0) n K M TT VV CC OO b S J RR w1 w2 w3 w4 SF SM FD) H := hP
  have hD : va_D A (mW E m0 k0 q0 t0 v0 c0 o0 s0 j0 r0 f0 g0 h0 (nI 0) n K M TT VV CC OO b S J RR w1 w2 w3 w4 SF SM FD) := hD
  refine lv_iload_n hx hb dX4_check_5 rfl (lv_at hl 1 rfl) ?_
  refine lv_i2l hx hb dX4_check_6 rfl ?_
  refine lv_lconst (v := 0) hx hb dX4_check_7 rfl ?_
  refine lv_ldc2 (v := 3) hx hb hown (hts (.constantLong RX4 71 (3)) (by decide +kernel)) dX4_check_8 ?_
  refine zc_i (W.runS ⟨hx, hb, hml, hown, hts⟩ (kX4_in l E wh.toInt64 0 3) (cwS 3 hts gX4_check_X4_in rfl rfl rfl (by decide +kernel) ⟨Nat.le_trans (Nat.le_of_ble_eq_true rfl) hRf, Nat.le_trans (Nat.le_of_ble_eq_true rfl) hRl⟩) (z_preR (av := [.long wh.toInt64, .long 0, .long 3]) (hP.sub (ws' := []) [] rfl) hK) rfl rfl hl.1 rfl (lv_room (Nat.le_of_ble_eq_true rfl)) dX4_check_11 ⟨Nat.zero_le _, Nat.zero_le _⟩) ?_
  refine zb_if_ne (tgt := 20) hx hb dX4_check_14 (by decide) (fun c_1 => ?_) (fun c_1 => ?_)
  · have hin3 := c_1
    refine lv_aload_n hx hb dX4_check_20 rfl (lv_at hl 0 rfl) ?_
    refine zall_v (wc' := (mW E m0 k0 q0 t0 v0 c0 o0 s0 j0 r0 f0 g0 h0 (nI 0) n K M TT VV CC OO b S J (rcM S b RR) w1 w2 w3 w4 SF SM FD)) (va_runV ⟨hx, hb, hml, hown, hts⟩ (kX4_reach l E _ m0 k0 q0 t0 v0 c0 o0 s0 j0 r0 f0 g0 h0 (nI 0) n K M TT VV CC OO b S J RR w1 w2 w3 w4 SF SM FD hn hb0 hS0 hJ0) (cwV 0 hts gX4_check_X4_reach rfl rfl rfl (by decide +kernel) ⟨Nat.le_trans (Nat.le_of_ble_eq_true rfl) hRf, Nat.le_trans (Nat.le_of_ble_eq_true rfl) hRl⟩) (z_preWV (As := []) hP hD hK 0 rfl rfl) rfl rfl hl.1 rfl (lv_room (Nat.le_of_ble_eq_true rfl)) dX4_check_21 ⟨Nat.zero_le _, Nat.zero_le _⟩) hD hS hA rfl (fun H locs hP hD hS => ?_)
    refine lv_aload_n hx hb dX4_check_24 rfl (lv_at hl 0 rfl) ?_
    refine lv_iconst (v := nI 0) hx hb dX4_check_25 (by decide) ?_
    refine va_put (D := E.1) (ci := 5) (v := .int (nI 0)) (ty := .int) (C := RX4) (T := TX4) (N := 19) hx hb hts hiX4 tyX4 tyX4_ok nmX4 hown hK.1 hP hD hS 0 rfl rfl 12 (by decide) hf158 (fun _ h9 => h9) rfl (by decide +kernel) rfl rfl (Nat.le_of_ble_eq_true rfl) dX4_check_26 (fun H locs hP hD hS => ?_)
    have hP : va_P E.1 vwCl (mW E m0 k0 q0 t0 v0 c0 o0 s0 j0 r0 f0 g0 h0 (nI 0) n K M TT VV CC OO b S J (rcM S b RR) (nI 0) w2 w3 w4 SF SM FD) H := hP
    have hD : va_D A (mW E m0 k0 q0 t0 v0 c0 o0 s0 j0 r0 f0 g0 h0 (nI 0) n K M TT VV CC OO b S J (rcM S b RR) (nI 0) w2 w3 w4 SF SM FD) := hD
    refine lv_iconst (v := nI 0) hx hb dX4_check_29 (by decide) ?_
    refine lv_istore_n (lv' := [(2, .int (nI 0)), (0, .ref m0), (1, .int wh)]) hx hb dX4_check_30 rfl hl (by decide) rfl (fun ls hl => ?_)
    have lp : ∀ (fu : Nat) (i : Nat) (u1 : Int32) (u2 : Int32) (u3 : Int32) (u4 : Int32) (ls : Array Slot) (H : Heap) (locs : List Loc), 8 - i < fu → (i ≤ 8) → (mckF S J b (rcM S b RR) (8 - i) i (u1, u2, u3, u4) = mckA S J b RR (w1, w2, w3, w4)) → lv_has ls 3 [(0, .ref m0), (1, .int wh), (2, .int (nI i))] → va_P E.1 vwCl (mW E m0 k0 q0 t0 v0 c0 o0 s0 j0 r0 f0 g0 h0 (nI 0) n K M TT VV CC OO b S J (rcM S b RR) u1 u2 u3 u4 SF SM FD) H → va_D A (mW E m0 k0 q0 t0 v0 c0 o0 s0 j0 r0 f0 g0 h0 (nI 0) n K M TT VV CC OO b S J (rcM S b RR) u1 u2 u3 u4 SF SM FD) → va_S A s.heap H locs → W p l e R s m args below meth c H locs 0 0 Q (F0 m 31 ls []) := by
      intro fu
      induction fu with
      | zero => intros; exact absurd (by assumption) (Nat.not_lt_zero _)
      | succ fu ihlp =>
        intro i u1 u2 u3 u4 ls H locs hfu hi hq hl hP hD hS
        refine lv_iload_n hx hb dX4_check_31 rfl (lv_at hl 2 rfl) ?_
        refine lv_bipush (v := nI 8) hx hb dX4_check_32 (by decide) ?_
        refine zn_icmp_ge (tgt := 64) hx hb dX4_check_34 (by decide) (by omega) (by omega) (fun c_2 => ?_) (fun c_2 => ?_)
        · obtain rfl : i = 8 := by omega
          have hfin : (u1, u2, u3, u4) = mckA S J b RR (w1, w2, w3, w4) := by rw [← hq]; rfl
          refine lv_iload_n hx hb dX4_check_64 rfl (lv_at hl 1 rfl) ?_
          refine lv_if_ne (tgt := 73) hx hb dX4_check_65 (by decide) (fun c_3 => ?_) (fun c_3 => ?_)
          · refine lv_aload_n hx hb dX4_check_73 rfl (lv_at hl 0 rfl) ?_
            refine va_get (D := E.1) (ci := 5) (C := RX4) (T := TX4) (N := 19) hx hb hts hiX4 hown hK.1 hP 0 rfl rfl 12 (by decide) hf158 (fun _ h9 => h9) rfl dX4_check_74 ?_
            refine lv_if_eq (tgt := 93) hx hb dX4_check_77 (by decide) (fun c_4 => ?_) (fun c_4 => ?_)
            · refine lv_bipush (v := (-3)) hx hb dX4_check_93 (by decide) ?_
              exact z_reti (by unfold ckM; rw [if_neg (inw3_t2 hin3)]; rw [← hfin]; rw [if_neg c_3, if_pos (Or.inl c_4)]) (ret _ _ _ _ (by rw [show mckW S J b RR (w1, w2, w3, w4) wh = mckA S J b RR (w1, w2, w3, w4) from by unfold mckW; rw [if_neg (inw3_t2 hin3)], show mckR S b RR wh = rcM S b RR from by unfold mckR; rw [if_neg (inw3_t2 hin3)], ← hfin]; exact hP) hS dX4_check_95)
            · refine lv_aload_n hx hb dX4_check_80 rfl (lv_at hl 0 rfl) ?_
              refine va_get (D := E.1) (ci := 5) (C := RX4) (T := TX4) (N := 19) hx hb hts hiX4 hown hK.1 hP 0 rfl rfl 12 (by decide) hf158 (fun _ h9 => h9) rfl dX4_check_81 ?_
              refine lv_iconst (v := nI 1) hx hb dX4_check_84 (by decide) ?_
              refine lv_icmp_ne (tgt := 96) hx hb dX4_check_85 (by decide) (fun c_5 => ?_) (fun c_5 => ?_)
              · refine lv_iload_n hx hb dX4_check_96 rfl (lv_at hl 1 rfl) ?_
                refine lv_iconst (v := nI 1) hx hb dX4_check_97 (by decide) ?_
                refine lv_icmp_ne (tgt := 108) hx hb dX4_check_98 (by decide) (fun c_6 => ?_) (fun c_6 => ?_)
                · refine lv_iload_n hx hb dX4_check_108 rfl (lv_at hl 1 rfl) ?_
                  refine lv_iconst (v := nI 2) hx hb dX4_check_109 (by decide) ?_
                  refine lv_icmp_ne (tgt := 120) hx hb dX4_check_110 (by decide) (fun c_7 => ?_) (fun c_7 => ?_)
                  · refine lv_aload_n hx hb dX4_check_120 rfl (lv_at hl 0 rfl) ?_
                    refine va_get (D := E.1) (ci := 5) (C := RX4) (T := TX4) (N := 19) hx hb hts hiX4 hown hK.1 hP 0 rfl rfl 15 (by decide) hf167 (fun _ h9 => h9) rfl dX4_check_121 ?_
                    exact z_reti (by unfold ckM; rw [if_neg (inw3_t2 hin3)]; rw [← hfin]; rw [if_neg c_3, if_neg (fun q => q.elim c_4 (fun q => c_5 q.1)), if_neg c_6, if_neg c_7]) (ret _ _ _ _ (by rw [show mckW S J b RR (w1, w2, w3, w4) wh = mckA S J b RR (w1, w2, w3, w4) from by unfold mckW; rw [if_neg (inw3_t2 hin3)], show mckR S b RR wh = rcM S b RR from by unfold mckR; rw [if_neg (inw3_t2 hin3)], ← hfin]; exact hP) hS dX4_check_124)
                  · refine lv_aload_n hx hb dX4_check_113 rfl (lv_at hl 0 rfl) ?_
                    refine va_get (D := E.1) (ci := 5) (C := RX4) (T := TX4) (N := 19) hx hb hts hiX4 hown hK.1 hP 0 rfl rfl 14 (by decide) hf164 (fun _ h9 => h9) rfl dX4_check_114 ?_
                    refine lv_goto (tgt := 124) hx hb dX4_check_117 (by decide) ?_
                    exact z_reti (by unfold ckM; rw [if_neg (inw3_t2 hin3)]; rw [← hfin]; rw [if_neg c_3, if_neg (fun q => q.elim c_4 (fun q => c_5 q.1)), if_neg c_6, if_pos c_7]) (ret _ _ _ _ (by rw [show mckW S J b RR (w1, w2, w3, w4) wh = mckA S J b RR (w1, w2, w3, w4) from by unfold mckW; rw [if_neg (inw3_t2 hin3)], show mckR S b RR wh = rcM S b RR from by unfold mckR; rw [if_neg (inw3_t2 hin3)], ← hfin]; exact hP) hS dX4_check_124)
                · refine lv_aload_n hx hb dX4_check_101 rfl (lv_at hl 0 rfl) ?_
                  refine va_get (D := E.1) (ci := 5) (C := RX4) (T := TX4) (N := 19) hx hb hts hiX4 hown hK.1 hP 0 rfl rfl 13 (by decide) hf161 (fun _ h9 => h9) rfl dX4_check_102 ?_
                  refine lv_goto (tgt := 124) hx hb dX4_check_105 (by decide) ?_
                  exact z_reti (by unfold ckM; rw [if_neg (inw3_t2 hin3)]; rw [← hfin]; rw [if_neg c_3, if_neg (fun q => q.elim c_4 (fun q => c_5 q.1)), if_pos c_6]) (ret _ _ _ _ (by rw [show mckW S J b RR (w1, w2, w3, w4) wh = mckA S J b RR (w1, w2, w3, w4) from by unfold mckW; rw [if_neg (inw3_t2 hin3)], show mckR S b RR wh = rcM S b RR from by unfold mckR; rw [if_neg (inw3_t2 hin3)], ← hfin]; exact hP) hS dX4_check_124)
              · refine lv_iload_n hx hb dX4_check_88 rfl (lv_at hl 1 rfl) ?_
                refine lv_iconst (v := nI 1) hx hb dX4_check_89 (by decide) ?_
                refine lv_icmp_le (tgt := 96) hx hb dX4_check_90 (by decide) (fun c_8 => ?_) (fun c_8 => ?_)
                · refine lv_iload_n hx hb dX4_check_96 rfl (lv_at hl 1 rfl) ?_
                  refine lv_iconst (v := nI 1) hx hb dX4_check_97 (by decide) ?_
                  refine lv_icmp_ne (tgt := 108) hx hb dX4_check_98 (by decide) (fun c_9 => ?_) (fun c_9 => ?_)
                  · refine lv_iload_n hx hb dX4_check_108 rfl (lv_at hl 1 rfl) ?_
                    refine lv_iconst (v := nI 2) hx hb dX4_check_109 (by decide) ?_
                    refine lv_icmp_ne (tgt := 120) hx hb dX4_check_110 (by decide) (fun c_10 => ?_) (fun c_10 => ?_)
                    · refine lv_aload_n hx hb dX4_check_120 rfl (lv_at hl 0 rfl) ?_
                      refine va_get (D := E.1) (ci := 5) (C := RX4) (T := TX4) (N := 19) hx hb hts hiX4 hown hK.1 hP 0 rfl rfl 15 (by decide) hf167 (fun _ h9 => h9) rfl dX4_check_121 ?_
                      exact z_reti (by unfold ckM; rw [if_neg (inw3_t2 hin3)]; rw [← hfin]; rw [if_neg c_3, if_neg (fun q => q.elim c_4 (fun q => nlt_of_le c_8 q.2)), if_neg c_9, if_neg c_10]) (ret _ _ _ _ (by rw [show mckW S J b RR (w1, w2, w3, w4) wh = mckA S J b RR (w1, w2, w3, w4) from by unfold mckW; rw [if_neg (inw3_t2 hin3)], show mckR S b RR wh = rcM S b RR from by unfold mckR; rw [if_neg (inw3_t2 hin3)], ← hfin]; exact hP) hS dX4_check_124)
                    · refine lv_aload_n hx hb dX4_check_113 rfl (lv_at hl 0 rfl) ?_
                      refine va_get (D := E.1) (ci := 5) (C := RX4) (T := TX4) (N := 19) hx hb hts hiX4 hown hK.1 hP 0 rfl rfl 14 (by decide) hf164 (fun _ h9 => h9) rfl dX4_check_114 ?_
                      refine lv_goto (tgt := 124) hx hb dX4_check_117 (by decide) ?_
                      exact z_reti (by unfold ckM; rw [if_neg (inw3_t2 hin3)]; rw [← hfin]; rw [if_neg c_3, if_neg (fun q => q.elim c_4 (fun q => nlt_of_le c_8 q.2)), if_neg c_9, if_pos c_10]) (ret _ _ _ _ (by rw [show mckW S J b RR (w1, w2, w3, w4) wh = mckA S J b RR (w1, w2, w3, w4) from by unfold mckW; rw [if_neg (inw3_t2 hin3)], show mckR S b RR wh = rcM S b RR from by unfold mckR; rw [if_neg (inw3_t2 hin3)], ← hfin]; exact hP) hS dX4_check_124)
                  · refine lv_aload_n hx hb dX4_check_101 rfl (lv_at hl 0 rfl) ?_
                    refine va_get (D := E.1) (ci := 5) (C := RX4) (T := TX4) (N := 19) hx hb hts hiX4 hown hK.1 hP 0 rfl rfl 13 (by decide) hf161 (fun _ h9 => h9) rfl dX4_check_102 ?_
                    refine lv_goto (tgt := 124) hx hb dX4_check_105 (by decide) ?_
                    exact z_reti (by unfold ckM; rw [if_neg (inw3_t2 hin3)]; rw [← hfin]; rw [if_neg c_3, if_neg (fun q => q.elim c_4 (fun q => nlt_of_le c_8 q.2)), if_pos c_9]) (ret _ _ _ _ (by rw [show mckW S J b RR (w1, w2, w3, w4) wh = mckA S J b RR (w1, w2, w3, w4) from by unfold mckW; rw [if_neg (inw3_t2 hin3)], show mckR S b RR wh = rcM S b RR from by unfold mckR; rw [if_neg (inw3_t2 hin3)], ← hfin]; exact hP) hS dX4_check_124)
                · refine lv_bipush (v := (-3)) hx hb dX4_check_93 (by decide) ?_
                  exact z_reti (by unfold ckM; rw [if_neg (inw3_t2 hin3)]; rw [← hfin]; rw [if_neg c_3, if_pos (Or.inr ⟨c_5, gt_of_nle c_8⟩)]) (ret _ _ _ _ (by rw [show mckW S J b RR (w1, w2, w3, w4) wh = mckA S J b RR (w1, w2, w3, w4) from by unfold mckW; rw [if_neg (inw3_t2 hin3)], show mckR S b RR wh = rcM S b RR from by unfold mckR; rw [if_neg (inw3_t2 hin3)], ← hfin]; exact hP) hS dX4_check_95)
          · refine lv_aload_n hx hb dX4_check_68 rfl (lv_at hl 0 rfl) ?_
            refine va_get (D := E.1) (ci := 5) (C := RX4) (T := TX4) (N := 19) hx hb hts hiX4 hown hK.1 hP 0 rfl rfl 12 (by decide) hf158 (fun _ h9 => h9) rfl dX4_check_69 ?_
            exact z_reti (by unfold ckM; rw [if_neg (inw3_t2 hin3)]; rw [← hfin]; rw [if_pos c_3]) (ret _ _ _ _ (by rw [show mckW S J b RR (w1, w2, w3, w4) wh = mckA S J b RR (w1, w2, w3, w4) from by unfold mckW; rw [if_neg (inw3_t2 hin3)], show mckR S b RR wh = rcM S b RR from by unfold mckR; rw [if_neg (inw3_t2 hin3)], ← hfin]; exact hP) hS dX4_check_72)
        · refine lv_aload_n hx hb dX4_check_37 rfl (lv_at hl 0 rfl) ?_
          refine va_get (D := E.1) (ci := 5) (C := RX4) (T := TX4) (N := 19) hx hb hts hiX4 hown hK.1 hP 0 rfl rfl 12 (by decide) hf158 (fun _ h9 => h9) rfl dX4_check_38 ?_
          refine lv_if_ne (tgt := 64) hx hb dX4_check_41 (by decide) (fun c_11 => ?_) (fun c_11 => ?_)
          · have hfin : (u1, u2, u3, u4) = mckA S J b RR (w1, w2, w3, w4) := by rw [← hq, mck_hit c_2 c_11]
            refine lv_iload_n hx hb dX4_check_64 rfl (lv_at hl 1 rfl) ?_
            refine lv_if_ne (tgt := 73) hx hb dX4_check_65 (by decide) (fun c_12 => ?_) (fun c_12 => ?_)
            · refine lv_aload_n hx hb dX4_check_73 rfl (lv_at hl 0 rfl) ?_
              refine va_get (D := E.1) (ci := 5) (C := RX4) (T := TX4) (N := 19) hx hb hts hiX4 hown hK.1 hP 0 rfl rfl 12 (by decide) hf158 (fun _ h9 => h9) rfl dX4_check_74 ?_
              refine lv_if_eq (tgt := 93) hx hb dX4_check_77 (by decide) (fun c_13 => ?_) (fun c_13 => ?_)
              · refine lv_bipush (v := (-3)) hx hb dX4_check_93 (by decide) ?_
                exact z_reti (by unfold ckM; rw [if_neg (inw3_t2 hin3)]; rw [← hfin]; rw [if_neg c_12, if_pos (Or.inl c_13)]) (ret _ _ _ _ (by rw [show mckW S J b RR (w1, w2, w3, w4) wh = mckA S J b RR (w1, w2, w3, w4) from by unfold mckW; rw [if_neg (inw3_t2 hin3)], show mckR S b RR wh = rcM S b RR from by unfold mckR; rw [if_neg (inw3_t2 hin3)], ← hfin]; exact hP) hS dX4_check_95)
              · refine lv_aload_n hx hb dX4_check_80 rfl (lv_at hl 0 rfl) ?_
                refine va_get (D := E.1) (ci := 5) (C := RX4) (T := TX4) (N := 19) hx hb hts hiX4 hown hK.1 hP 0 rfl rfl 12 (by decide) hf158 (fun _ h9 => h9) rfl dX4_check_81 ?_
                refine lv_iconst (v := nI 1) hx hb dX4_check_84 (by decide) ?_
                refine lv_icmp_ne (tgt := 96) hx hb dX4_check_85 (by decide) (fun c_14 => ?_) (fun c_14 => ?_)
                · refine lv_iload_n hx hb dX4_check_96 rfl (lv_at hl 1 rfl) ?_
                  refine lv_iconst (v := nI 1) hx hb dX4_check_97 (by decide) ?_
                  refine lv_icmp_ne (tgt := 108) hx hb dX4_check_98 (by decide) (fun c_15 => ?_) (fun c_15 => ?_)
                  · refine lv_iload_n hx hb dX4_check_108 rfl (lv_at hl 1 rfl) ?_
                    refine lv_iconst (v := nI 2) hx hb dX4_check_109 (by decide) ?_
                    refine lv_icmp_ne (tgt := 120) hx hb dX4_check_110 (by decide) (fun c_16 => ?_) (fun c_16 => ?_)
                    · refine lv_aload_n hx hb dX4_check_120 rfl (lv_at hl 0 rfl) ?_
                      refine va_get (D := E.1) (ci := 5) (C := RX4) (T := TX4) (N := 19) hx hb hts hiX4 hown hK.1 hP 0 rfl rfl 15 (by decide) hf167 (fun _ h9 => h9) rfl dX4_check_121 ?_
                      exact z_reti (by unfold ckM; rw [if_neg (inw3_t2 hin3)]; rw [← hfin]; rw [if_neg c_12, if_neg (fun q => q.elim c_13 (fun q => c_14 q.1)), if_neg c_15, if_neg c_16]) (ret _ _ _ _ (by rw [show mckW S J b RR (w1, w2, w3, w4) wh = mckA S J b RR (w1, w2, w3, w4) from by unfold mckW; rw [if_neg (inw3_t2 hin3)], show mckR S b RR wh = rcM S b RR from by unfold mckR; rw [if_neg (inw3_t2 hin3)], ← hfin]; exact hP) hS dX4_check_124)
                    · refine lv_aload_n hx hb dX4_check_113 rfl (lv_at hl 0 rfl) ?_
                      refine va_get (D := E.1) (ci := 5) (C := RX4) (T := TX4) (N := 19) hx hb hts hiX4 hown hK.1 hP 0 rfl rfl 14 (by decide) hf164 (fun _ h9 => h9) rfl dX4_check_114 ?_
                      refine lv_goto (tgt := 124) hx hb dX4_check_117 (by decide) ?_
                      exact z_reti (by unfold ckM; rw [if_neg (inw3_t2 hin3)]; rw [← hfin]; rw [if_neg c_12, if_neg (fun q => q.elim c_13 (fun q => c_14 q.1)), if_neg c_15, if_pos c_16]) (ret _ _ _ _ (by rw [show mckW S J b RR (w1, w2, w3, w4) wh = mckA S J b RR (w1, w2, w3, w4) from by unfold mckW; rw [if_neg (inw3_t2 hin3)], show mckR S b RR wh = rcM S b RR from by unfold mckR; rw [if_neg (inw3_t2 hin3)], ← hfin]; exact hP) hS dX4_check_124)
                  · refine lv_aload_n hx hb dX4_check_101 rfl (lv_at hl 0 rfl) ?_
                    refine va_get (D := E.1) (ci := 5) (C := RX4) (T := TX4) (N := 19) hx hb hts hiX4 hown hK.1 hP 0 rfl rfl 13 (by decide) hf161 (fun _ h9 => h9) rfl dX4_check_102 ?_
                    refine lv_goto (tgt := 124) hx hb dX4_check_105 (by decide) ?_
                    exact z_reti (by unfold ckM; rw [if_neg (inw3_t2 hin3)]; rw [← hfin]; rw [if_neg c_12, if_neg (fun q => q.elim c_13 (fun q => c_14 q.1)), if_pos c_15]) (ret _ _ _ _ (by rw [show mckW S J b RR (w1, w2, w3, w4) wh = mckA S J b RR (w1, w2, w3, w4) from by unfold mckW; rw [if_neg (inw3_t2 hin3)], show mckR S b RR wh = rcM S b RR from by unfold mckR; rw [if_neg (inw3_t2 hin3)], ← hfin]; exact hP) hS dX4_check_124)
                · refine lv_iload_n hx hb dX4_check_88 rfl (lv_at hl 1 rfl) ?_
                  refine lv_iconst (v := nI 1) hx hb dX4_check_89 (by decide) ?_
                  refine lv_icmp_le (tgt := 96) hx hb dX4_check_90 (by decide) (fun c_17 => ?_) (fun c_17 => ?_)
                  · refine lv_iload_n hx hb dX4_check_96 rfl (lv_at hl 1 rfl) ?_
                    refine lv_iconst (v := nI 1) hx hb dX4_check_97 (by decide) ?_
                    refine lv_icmp_ne (tgt := 108) hx hb dX4_check_98 (by decide) (fun c_18 => ?_) (fun c_18 => ?_)
                    · refine lv_iload_n hx hb dX4_check_108 rfl (lv_at hl 1 rfl) ?_
                      refine lv_iconst (v := nI 2) hx hb dX4_check_109 (by decide) ?_
                      refine lv_icmp_ne (tgt := 120) hx hb dX4_check_110 (by decide) (fun c_19 => ?_) (fun c_19 => ?_)
                      · refine lv_aload_n hx hb dX4_check_120 rfl (lv_at hl 0 rfl) ?_
                        refine va_get (D := E.1) (ci := 5) (C := RX4) (T := TX4) (N := 19) hx hb hts hiX4 hown hK.1 hP 0 rfl rfl 15 (by decide) hf167 (fun _ h9 => h9) rfl dX4_check_121 ?_
                        exact z_reti (by unfold ckM; rw [if_neg (inw3_t2 hin3)]; rw [← hfin]; rw [if_neg c_12, if_neg (fun q => q.elim c_13 (fun q => nlt_of_le c_17 q.2)), if_neg c_18, if_neg c_19]) (ret _ _ _ _ (by rw [show mckW S J b RR (w1, w2, w3, w4) wh = mckA S J b RR (w1, w2, w3, w4) from by unfold mckW; rw [if_neg (inw3_t2 hin3)], show mckR S b RR wh = rcM S b RR from by unfold mckR; rw [if_neg (inw3_t2 hin3)], ← hfin]; exact hP) hS dX4_check_124)
                      · refine lv_aload_n hx hb dX4_check_113 rfl (lv_at hl 0 rfl) ?_
                        refine va_get (D := E.1) (ci := 5) (C := RX4) (T := TX4) (N := 19) hx hb hts hiX4 hown hK.1 hP 0 rfl rfl 14 (by decide) hf164 (fun _ h9 => h9) rfl dX4_check_114 ?_
                        refine lv_goto (tgt := 124) hx hb dX4_check_117 (by decide) ?_
                        exact z_reti (by unfold ckM; rw [if_neg (inw3_t2 hin3)]; rw [← hfin]; rw [if_neg c_12, if_neg (fun q => q.elim c_13 (fun q => nlt_of_le c_17 q.2)), if_neg c_18, if_pos c_19]) (ret _ _ _ _ (by rw [show mckW S J b RR (w1, w2, w3, w4) wh = mckA S J b RR (w1, w2, w3, w4) from by unfold mckW; rw [if_neg (inw3_t2 hin3)], show mckR S b RR wh = rcM S b RR from by unfold mckR; rw [if_neg (inw3_t2 hin3)], ← hfin]; exact hP) hS dX4_check_124)
                    · refine lv_aload_n hx hb dX4_check_101 rfl (lv_at hl 0 rfl) ?_
                      refine va_get (D := E.1) (ci := 5) (C := RX4) (T := TX4) (N := 19) hx hb hts hiX4 hown hK.1 hP 0 rfl rfl 13 (by decide) hf161 (fun _ h9 => h9) rfl dX4_check_102 ?_
                      refine lv_goto (tgt := 124) hx hb dX4_check_105 (by decide) ?_
                      exact z_reti (by unfold ckM; rw [if_neg (inw3_t2 hin3)]; rw [← hfin]; rw [if_neg c_12, if_neg (fun q => q.elim c_13 (fun q => nlt_of_le c_17 q.2)), if_pos c_18]) (ret _ _ _ _ (by rw [show mckW S J b RR (w1, w2, w3, w4) wh = mckA S J b RR (w1, w2, w3, w4) from by unfold mckW; rw [if_neg (inw3_t2 hin3)], show mckR S b RR wh = rcM S b RR from by unfold mckR; rw [if_neg (inw3_t2 hin3)], ← hfin]; exact hP) hS dX4_check_124)
                  · refine lv_bipush (v := (-3)) hx hb dX4_check_93 (by decide) ?_
                    exact z_reti (by unfold ckM; rw [if_neg (inw3_t2 hin3)]; rw [← hfin]; rw [if_neg c_12, if_pos (Or.inr ⟨c_14, gt_of_nle c_17⟩)]) (ret _ _ _ _ (by rw [show mckW S J b RR (w1, w2, w3, w4) wh = mckA S J b RR (w1, w2, w3, w4) from by unfold mckW; rw [if_neg (inw3_t2 hin3)], show mckR S b RR wh = rcM S b RR from by unfold mckR; rw [if_neg (inw3_t2 hin3)], ← hfin]; exact hP) hS dX4_check_95)
            · refine lv_aload_n hx hb dX4_check_68 rfl (lv_at hl 0 rfl) ?_
              refine va_get (D := E.1) (ci := 5) (C := RX4) (T := TX4) (N := 19) hx hb hts hiX4 hown hK.1 hP 0 rfl rfl 12 (by decide) hf158 (fun _ h9 => h9) rfl dX4_check_69 ?_
              exact z_reti (by unfold ckM; rw [if_neg (inw3_t2 hin3)]; rw [← hfin]; rw [if_pos c_12]) (ret _ _ _ _ (by rw [show mckW S J b RR (w1, w2, w3, w4) wh = mckA S J b RR (w1, w2, w3, w4) from by unfold mckW; rw [if_neg (inw3_t2 hin3)], show mckR S b RR wh = rcM S b RR from by unfold mckR; rw [if_neg (inw3_t2 hin3)], ← hfin]; exact hP) hS dX4_check_72)
          · refine lv_aload_n hx hb dX4_check_44 rfl (lv_at hl 0 rfl) ?_
            refine va_get (D := E.1) (ci := 5) (C := RX4) (T := TX4) (N := 19) hx hb hts hiX4 hown hK.1 hP 0 rfl rfl 11 (by decide) hf35 (fun _ h9 => h9) rfl dX4_check_45 ?_
            refine lv_iload_n hx hb dX4_check_48 rfl (lv_at hl 2 rfl) ?_
            refine zn_zald hx hb hK.1 hP 9 2 rfl rfl (by omega) (by decide) dX4_check_49 ?_
            refine zb_if_eq (tgt := 58) hx hb dX4_check_50 (by decide) (fun c_20 => ?_) (fun c_20 => ?_)
            · have hq2 : mckF S J b (rcM S b RR) (8 - (i + 1)) (i + 1) (u1, u2, u3, u4) = mckA S J b RR (w1, w2, w3, w4) := by rw [← hq, mck_step c_2 c_11, c_20]; rfl
              refine lv_iinc (v := nI (i + 1)) (lv' := [(2, .int (nI (i + 1))), (0, .ref m0), (1, .int wh)]) hx hb dX4_check_58 hl (k := 2) rfl (z_inc _ 1) (by decide) rfl (fun ls hl => ?_)
              refine lv_goto (tgt := 31) hx hb dX4_check_61 (by decide) ?_
              exact ihlp (i + 1) u1 u2 u3 u4 ls _ _ (by omega) (by omega) (hq2) (lv_sub hl [1, 2, 0] rfl) hP hD hS
            · have hq2 : mckF S J b (rcM S b RR) (8 - (i + 1)) (i + 1) (lokA S J b (rcM S b RR) i (u1, u2, u3, u4)) = mckA S J b RR (w1, w2, w3, w4) := by rw [← hq, mck_step c_2 c_11, c_20]; rfl
              refine lv_aload_n hx hb dX4_check_53 rfl (lv_at hl 0 rfl) ?_
              refine lv_iload_n hx hb dX4_check_54 rfl (lv_at hl 2 rfl) ?_
              refine zall_v (wc' := (mW E m0 k0 q0 t0 v0 c0 o0 s0 j0 r0 f0 g0 h0 (nI 0) n K M TT VV CC OO b S J (rcM S b RR) ((lokA S J b (rcM S b RR) i (u1, u2, u3, u4)).1) ((lokA S J b (rcM S b RR) i (u1, u2, u3, u4)).2.1) ((lokA S J b (rcM S b RR) i (u1, u2, u3, u4)).2.2.1) ((lokA S J b (rcM S b RR) i (u1, u2, u3, u4)).2.2.2) SF SM FD)) (va_runV ⟨hx, hb, hml, hown, hts⟩ (kX4_look l E _ m0 k0 q0 t0 v0 c0 o0 s0 j0 r0 f0 g0 h0 (nI 0) n K M TT VV CC OO b S J (rcM S b RR) u1 u2 u3 u4 SF SM FD hn hb0 hS0 hJ0 i (by omega)) (cwV 1 hts gX4_check_X4_look rfl rfl rfl (by decide +kernel) ⟨Nat.le_trans (Nat.le_of_ble_eq_true rfl) hRf, Nat.le_trans (Nat.le_of_ble_eq_true rfl) hRl⟩) (z_preWV (As := [.int (nI i)]) hP hD hK 0 rfl rfl) rfl rfl hl.1 rfl (lv_room (Nat.le_of_ble_eq_true rfl)) dX4_check_55 ⟨Nat.zero_le _, Nat.zero_le _⟩) hD hS hA rfl (fun H locs hP hD hS => ?_)
              refine lv_iinc (v := nI (i + 1)) (lv' := [(2, .int (nI (i + 1))), (0, .ref m0), (1, .int wh)]) hx hb dX4_check_58 hl (k := 2) rfl (z_inc _ 1) (by decide) rfl (fun ls hl => ?_)
              refine lv_goto (tgt := 31) hx hb dX4_check_61 (by decide) ?_
              exact ihlp (i + 1) ((lokA S J b (rcM S b RR) i (u1, u2, u3, u4)).1) ((lokA S J b (rcM S b RR) i (u1, u2, u3, u4)).2.1) ((lokA S J b (rcM S b RR) i (u1, u2, u3, u4)).2.2.1) ((lokA S J b (rcM S b RR) i (u1, u2, u3, u4)).2.2.2) ls _ _ (by omega) (by omega) (hq2) (lv_sub hl [1, 2, 0] rfl) hP hD hS
    exact lp _ 0 (nI 0) w2 w3 w4 ls _ _ (Nat.lt_succ_self _) (Nat.zero_le _) (rfl) (lv_sub hl [1, 2, 0] rfl) hP hD hS
  · refine lv_bipush (v := (-2)) hx hb dX4_check_17 (by decide) ?_
    exact z_reti (by unfold ckM; rw [if_pos (inw3_f2 c_1)]) (ret _ _ _ _ (by rw [show mckW S J b RR (w1, w2, w3, w4) wh = (w1, w2, w3, w4) from by unfold mckW; rw [if_pos (inw3_f2 c_1)], show mckR S b RR wh = RR from by unfold mckR; rw [if_pos (inw3_f2 c_1)]]; exact hP) hS dX4_check_19)
