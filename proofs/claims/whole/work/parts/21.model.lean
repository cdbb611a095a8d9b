/-! the model: taking rows out, counting them, sums -/
def lkF (T : Nat → Int32) (V : Nat → Int64) (t : Int32) (v : Int64) : Nat → Nat → Option Nat
  | 0, _ => none
  | f + 1, i => if T i = t ∧ V i = v then some i else lkF T V t v f (i + 1)
def lk (T : Nat → Int32) (V : Nat → Int64) (t : Int32) (v : Int64) (n : Nat) : Option Nat := lkF T V t v n 0
theorem lk_end (T : Nat → Int32) (V : Nat → Int64) (t : Int32) (v : Int64) (n : Nat) : lkF T V t v (n - n) n = none := by rw [Nat.sub_self]; rfl
theorem lk_hit {T : Nat → Int32} {V : Nat → Int64} {t : Int32} {v : Int64} {n i : Nat} (h : i < n) (c : T i = t ∧ V i = v) : lkF T V t v (n - i) i = some i := by
  obtain ⟨f, hf⟩ : ∃ f, n - i = f + 1 := ⟨n - i - 1, by omega⟩
  rw [hf]; unfold lkF; rw [if_pos c]
theorem lk_step {T : Nat → Int32} {V : Nat → Int64} {t : Int32} {v : Int64} {n i : Nat} (h : i < n) (c : ¬ (T i = t ∧ V i = v)) : lkF T V t v (n - i) i = lkF T V t v (n - (i + 1)) (i + 1) := by
  obtain ⟨f, hf⟩ : ∃ f, n - i = f + 1 := ⟨n - i - 1, by omega⟩
  rw [hf, show n - (i + 1) = f by omega]; conv => lhs; unfold lkF
  rw [if_neg c]
/-- which row goes: (fold, place) -/
def tkO (n : Nat) (K M : Nat → Nat) (TT : Nat → Int32) (VV : Nat → Int64) (j : Nat) (t : Int32) (v : Int64) : Option (Nat × Nat) := (lk (vw TT j) (vw VV j) t v (M j)).map (fun i => (j, i))
def tkA (M : Nat → Nat) (o : Option (Nat × Nat)) : Int32 := o.elim (-3) (fun q => nI (M q.1 - 1))
def tkM (M : Nat → Nat) (o : Option (Nat × Nat)) : Nat → Nat := o.elim M (fun q => updN M q.1 (M q.1 - 1))
def tkT (M : Nat → Nat) (TT : Nat → Int32) (o : Option (Nat × Nat)) : Nat → Int32 := o.elim TT (fun q => upd TT (64 * q.1 + q.2) (TT (64 * q.1 + (M q.1 - 1))))
def tkV (M : Nat → Nat) (VV : Nat → Int64) (o : Option (Nat × Nat)) : Nat → Int64 := o.elim VV (fun q => vp_updL VV (64 * q.1 + q.2) (VV (64 * q.1 + (M q.1 - 1))))
/-- remove: which row, if the kind is right (r = 1: REAL) -/
def rvO (n : Nat) (K M : Nat → Nat) (TT : Nat → Int32) (VV : Nat → Int64) (r : Nat) (f t : Int32) (v : Int64) : Option (Nat × Nat) := (fidx n f).elim none (fun j => if (if K j = 1 then 1 else 0) = r then tkO n K M TT VV j t v else none)
def rvA (n : Nat) (K M : Nat → Nat) (TT : Nat → Int32) (VV : Nat → Int64) (r : Nat) (f t : Int32) (v : Int64) : Int32 := (fidx n f).elim (-1) (fun j => if (if K j = 1 then 1 else 0) = r then tkA M (tkO n K M TT VV j t v) else (-3))
theorem lk_none {T : Nat → Int32} {V : Nat → Int64} {t : Int32} {v : Int64} {n : Nat} (h : ∀ i, i < n → ¬ V i = v) : lk T V t v n = none := by
  have key : ∀ f i, i + f = n → lkF T V t v f i = none := by
    intro f
    induction f with
    | zero => intro i _; rfl
    | succ f ih =>
      intro i hi
      unfold lkF
      rw [if_neg (fun q => h i (by omega) q.2)]
      exact ih (i + 1) (by omega)
  exact key n 0 (by omega)
theorem tk_inf {n : Nat} {K M : Nat → Nat} {TT : Nat → Int32} {VV : Nat → Int64} {j : Nat} {t : Int32} {v : Int64} (h : K j = 1 → ∀ i, i < M j → isVal 1 (VV (64 * j + i)) = true) (hk : K j = 1) (c : mFin v = false) : tkO n K M TT VV j t (wz v) = none := by
  unfold tkO
  rw [lk_none (fun i hi q => ?_)]
  · rfl
  · have h1 := h hk i hi
    rw [show VV (64 * j + i) = wz v from q, fin_eq, c] at h1
    cases h1
def cntR (T : Nat → Int32) (V : Nat → Int64) (t : Int32) (v : Int64) : Nat → Nat
  | 0 => 0
  | i + 1 => cntR T V t v i + (if T i = t ∧ V i = v then 1 else 0)
theorem cntR_le (T : Nat → Int32) (V : Nat → Int64) (t : Int32) (v : Int64) (i : Nat) : cntR T V t v i ≤ i := by
  induction i with
  | zero => exact Nat.le_refl _
  | succ i ih => unfold cntR; split <;> omega
def smM (TT : Nat → Int32) (VV : Nat → Int64) (M : Nat → Nat) (j g : Nat) : Nat → Bool
  | 0 => true
  | i + 1 => smM TT VV M j g i && decide (cntR (vw TT j) (vw VV j) (vw TT j i) (vw VV j i) (M j) = cntR (vw TT g) (vw VV g) (vw TT j i) (vw VV j i) (M g))
def mSame (n : Nat) (K M : Nat → Nat) (TT : Nat → Int32) (VV : Nat → Int64) (f g : Int32) : Bool := (fidx n f).elim false (fun i => (fidx n g).elim false (fun j => decide (K i = K j) && (decide (M i = M j) && smM TT VV M i j (M i))))
def lmA (n : Nat) (K M : Nat → Nat) (V : Nat → Nat → Int64) (f k : Int32) : Int32 := (fok n K f 0).elim 0 (fun j => if k < 0 ∨ nI 2 < k then 0 else limbF (V j) (M j) k)
def lmC (n : Nat) (K : Nat → Nat) (f k : Int32) : Int32 := (fok n K f 0).elim (nI 0) (fun _ => if k < 0 ∨ nI 2 < k then nI 1 else nI 0)
set_option maxHeartbeats 4000000 in
set_option maxRecDepth 100000 in
theorem kX4_take (l : Launch) (E : zE) (sz : Nat) (m0 k0 q0 t0 v0 c0 o0 s0 j0 r0 f0 g0 h0 : Nat) (cd : Int32) (n : Nat) (K M : Nat → Nat) (TT : Nat → Int32) (VV CC : Nat → Int64) (OO : Nat → Nat) (b : Nat) (S J : Nat → Nat) (RR : Nat → Bool) (w1 w2 w3 w4 : Int32) (SF SM FD : Nat → Nat) (hn : n ≤ 12) (hM : ∀ j, j < n → M j ≤ 64) (j : Nat) (hjj : j < n) (t : Int32) (v : Int64) : Met l yX4_take wsX4_take (rmL 0) (va_Pc [.ref m0, .int (nI j), .int t, .long v] (zS E (mW E m0 k0 q0 t0 v0 c0 o0 s0 j0 r0 f0 g0 h0 cd n K M TT VV CC OO b S J RR w1 w2 w3 w4 SF SM FD) sz)) (va_Qi (fun (r9 : Int32) (_ : Unit) => r9 = tkA M (tkO n K M TT VV j t v)) (fun _ t9 => zW E (mW E m0 k0 q0 t0 v0 c0 o0 s0 j0 r0 f0 g0 h0 cd n K (tkM M (tkO n K M TT VV j t v)) (tkT M TT (tkO n K M TT VV j t v)) (tkV M VV (tkO n K M TT VV j t v)) CC OO b S J RR w1 w2 w3 w4 SF SM FD) t9) (va_A (mW E m0 k0 q0 t0 v0 c0 o0 s0 j0 r0 f0 g0 h0 cd n K M TT VV CC OO b S J RR w1 w2 w3 w4 SF SM FD) sz)) 0 0 (va_A (mW E m0 k0 q0 t0 v0 c0 o0 s0 j0 r0 f0 g0 h0 cd n K M TT VV CC OO b S J RR w1 w2 w3 w4 SF SM FD) sz) := by
  refine z_ofWi (cc := cX4_take) (maxL := 6) (own := RX4) (by decide) rfl rfl (Nat.le_of_ble_eq_true rfl) ?_
  intro p e s m args below meth c R Q A B hP hD hA ret ls hl
  obtain ⟨hx, hb, hml, hown, hts, hK, hRf, hRl⟩ := B
  have hiX4 : ∀ w ∈ wsX40, w ∈ wsX4_take := by decide +kernel
  have hf13 := hts (.fieldLink RX4 13 "ExactFoldsModel" "many" "[I") (by decide +kernel)
  have hf16 := hts (.fieldLink RX4 16 "ExactFoldsModel" "times" "[I") (by decide +kernel)
  have hf19 := hts (.fieldLink RX4 19 "ExactFoldsModel" "values" "[J") (by decide +kernel)
  have hS : va_S A s.heap s.heap [] := va_S.rf
  have hl : lv_has ls 6 [(0, .ref m0), (1, .int (nI j)), (2, .int t), (3, .long v)] := hl
  have hMj := hM j hjj
  refine lv_bipush (v := nI 64) hx hb dX4_take_0 (by decide) ?_
  refine lv_iload_n hx hb dX4_take_2 rfl (lv_at hl 1 rfl) ?_
  refine zn_imul hx hb dX4_take_3 ?_
  refine lv_istore (lv' := [(5, .int (nI (64 * j))), (0, .ref m0), (1, .int (nI j)), (2, .int t), (3, .long v)]) hx hb dX4_take_4 hl (by decide) rfl (fun ls hl => ?_)
  have lp : ∀ (fu : Nat) (i : Nat) (ls : Array Slot) (H : Heap) (locs : List Loc), M j - i < fu → (i ≤ M j) → (lkF (vw TT j) (vw VV j) t v (M j - i) i = lk (vw TT j) (vw VV j) t v (M j)) → lv_has ls 6 [(0, .ref m0), (1, .int (nI j)), (2, .int t), (3, .long v), (5, .int (nI (64 * j + i)))] → va_P E.1 vwCl (mW E m0 k0 q0 t0 v0 c0 o0 s0 j0 r0 f0 g0 h0 cd n K M TT VV CC OO b S J RR w1 w2 w3 w4 SF SM FD) H → va_D A (mW E m0 k0 q0 t0 v0 c0 o0 s0 j0 r0 f0 g0 h0 cd n K M TT VV CC OO b S J RR w1 w2 w3 w4 SF SM FD) → va_S A s.heap H locs → W p l e R s m args below meth c H locs 0 0 Q (F0 m 6 ls []) := by
    intro fu
    induction fu with
    | zero => intros; exact absurd (by assumption) (Nat.not_lt_zero _)
    | succ fu ihlp =>
      intro i ls H locs hfu hi hq hl hP hD hS
      refine lv_iload hx hb dX4_take_6 (lv_at hl 4 rfl) ?_
      refine lv_bipush (v := nI 64) hx hb dX4_take_8 (by decide) ?_
      refine lv_iload_n hx hb dX4_take_10 rfl (lv_at hl 1 rfl) ?_
      refine zn_imul hx hb dX4_take_11 ?_
      refine lv_aload_n hx hb dX4_take_12 rfl (lv_at hl 0 rfl) ?_
      refine va_get (D := E.1) (ci := 5) (C := RX4) (T := TX4) (N := 19) hx hb hts hiX4 hown hK.1 hP 0 rfl rfl 3 (by decide) hf13 (fun _ h9 => h9) rfl dX4_take_13 ?_
      refine lv_iload_n hx hb dX4_take_16 rfl (lv_at hl 1 rfl) ?_
      refine zn_iald hx hb hK.1 hP 2 0 rfl rfl (by omega) (by decide) dX4_take_17 ?_
      refine zn_iadd hx hb dX4_take_18 ?_
      refine zn_icmp_ge (tgt := 114) hx hb dX4_take_19 (by decide) (by omega) (by omega) (fun c_1 => ?_) (fun c_1 => ?_)
      · obtain rfl : i = M j := by omega
        have ho : tkO n K M TT VV j t v = none := by unfold tkO; rw [← hq, lk_end]; rfl
        refine lv_bipush (v := (-3)) hx hb dX4_take_114 (by decide) ?_
        exact z_reti (by rw [ho]; rfl) (ret _ _ _ _ (by rw [ho]; exact hP) hS dX4_take_116)
      · refine lv_aload_n hx hb dX4_take_22 rfl (lv_at hl 0 rfl) ?_
        refine va_get (D := E.1) (ci := 5) (C := RX4) (T := TX4) (N := 19) hx hb hts hiX4 hown hK.1 hP 0 rfl rfl 4 (by decide) hf16 (fun _ h9 => h9) rfl dX4_take_23 ?_
        refine lv_iload hx hb dX4_take_26 (lv_at hl 4 rfl) ?_
        refine zn_iald hx hb hK.1 hP 3 0 rfl rfl (by omega) (by decide) dX4_take_28 ?_
        refine lv_iload_n hx hb dX4_take_29 rfl (lv_at hl 2 rfl) ?_
        refine lv_icmp_ne (tgt := 108) hx hb dX4_take_30 (by decide) (fun c_2 => ?_) (fun c_2 => ?_)
        · have hq2 : lkF (vw TT j) (vw VV j) t v (M j - (i + 1)) (i + 1) = lk (vw TT j) (vw VV j) t v (M j) := by rw [← lk_step (T := vw TT j) (V := vw VV j) (i := i) (by omega) (fun q => c_2 q.1)]; exact hq
          refine lv_iinc (v := nI (64 * j + i + 1)) (lv' := [(5, .int (nI (64 * j + i + 1))), (0, .ref m0), (1, .int (nI j)), (2, .int t), (3, .long v)]) hx hb dX4_take_108 hl (k := 4) rfl (z_inc _ 1) (by decide) rfl (fun ls hl => ?_)
          refine lv_goto (tgt := 6) hx hb dX4_take_111 (by decide) ?_
          exact ihlp (i + 1) ls _ _ (by omega) (by omega) (hq2) (lv_sub hl [1, 2, 3, 4, 0] rfl) hP hD hS
        · refine lv_aload_n hx hb dX4_take_33 rfl (lv_at hl 0 rfl) ?_
          refine va_get (D := E.1) (ci := 5) (C := RX4) (T := TX4) (N := 19) hx hb hts hiX4 hown hK.1 hP 0 rfl rfl 5 (by decide) hf19 (fun _ h9 => h9) rfl dX4_take_34 ?_
          refine lv_iload hx hb dX4_take_37 (lv_at hl 4 rfl) ?_
          refine zn_lald hx hb hK.1 hP 4 1 rfl rfl (by omega) (by decide) dX4_take_39 ?_
          refine lv_lload_n hx hb dX4_take_40 rfl (lv_at hl 3 rfl) ?_
          refine zl_ne (tgt := 108) hx hb dX4_take_41 dX4_take_42 (by decide) (fun c_3 => ?_) (fun c_3 => ?_)
          · have hq2 : lkF (vw TT j) (vw VV j) t v (M j - (i + 1)) (i + 1) = lk (vw TT j) (vw VV j) t v (M j) := by rw [← lk_step (T := vw TT j) (V := vw VV j) (i := i) (by omega) (fun q => c_3 q.2)]; exact hq
            refine lv_iinc (v := nI (64 * j + i + 1)) (lv' := [(5, .int (nI (64 * j + i + 1))), (0, .ref m0), (1, .int (nI j)), (2, .int t), (3, .long v)]) hx hb dX4_take_108 hl (k := 4) rfl (z_inc _ 1) (by decide) rfl (fun ls hl => ?_)
            refine lv_goto (tgt := 6) hx hb dX4_take_111 (by decide) ?_
            exact ihlp (i + 1) ls _ _ (by omega) (by omega) (hq2) (lv_sub hl [1, 2, 3, 4, 0] rfl) hP hD hS
          · have ho : tkO n K M TT VV j t v = some (j, i) := by unfold tkO; rw [← hq, lk_hit (T := vw TT j) (V := vw VV j) (i := i) (by omega) ⟨c_2, c_3⟩]; rfl
            have hup : updN M j (M j - 1) j = M j - 1 := updN_self _ _ _
            refine lv_aload_n hx hb dX4_take_45 rfl (lv_at hl 0 rfl) ?_
            refine va_get (D := E.1) (ci := 5) (C := RX4) (T := TX4) (N := 19) hx hb hts hiX4 hown hK.1 hP 0 rfl rfl 3 (by decide) hf13 (fun _ h9 => h9) rfl dX4_take_46 ?_
            refine lv_iload_n hx hb dX4_take_49 rfl (lv_at hl 1 rfl) ?_
            refine lv_dup2_11 hx hb dX4_take_50 rfl rfl ?_
            refine zn_iald hx hb hK.1 hP 2 0 rfl rfl (by omega) (by decide) dX4_take_51 ?_
            refine lv_iconst (v := nI 1) hx hb dX4_take_52 (by decide) ?_
            refine zn_isub hx hb (by omega) dX4_take_53 ?_
            refine zn_iast hx hb hK.1 hP hD hS 2 0 rfl rfl (by omega) (by decide) dX4_take_54 (fun H locs hP hD hS => ?_)
            have hP : va_P E.1 vwCl (mW E m0 k0 q0 t0 v0 c0 o0 s0 j0 r0 f0 g0 h0 cd n K (updN M j ((M j) - 1)) TT VV CC OO b S J RR w1 w2 w3 w4 SF SM FD) H := by rw [upd_nI] at hP; exact hP
            have hD : va_D A (mW E m0 k0 q0 t0 v0 c0 o0 s0 j0 r0 f0 g0 h0 cd n K (updN M j ((M j) - 1)) TT VV CC OO b S J RR w1 w2 w3 w4 SF SM FD) := by rw [upd_nI] at hD; exact hD
            refine lv_aload_n hx hb dX4_take_55 rfl (lv_at hl 0 rfl) ?_
            refine va_get (D := E.1) (ci := 5) (C := RX4) (T := TX4) (N := 19) hx hb hts hiX4 hown hK.1 hP 0 rfl rfl 4 (by decide) hf16 (fun _ h9 => h9) rfl dX4_take_56 ?_
            refine lv_iload hx hb dX4_take_59 (lv_at hl 4 rfl) ?_
            refine lv_aload_n hx hb dX4_take_61 rfl (lv_at hl 0 rfl) ?_
            refine va_get (D := E.1) (ci := 5) (C := RX4) (T := TX4) (N := 19) hx hb hts hiX4 hown hK.1 hP 0 rfl rfl 4 (by decide) hf16 (fun _ h9 => h9) rfl dX4_take_62 ?_
            refine lv_bipush (v := nI 64) hx hb dX4_take_65 (by decide) ?_
            refine lv_iload_n hx hb dX4_take_67 rfl (lv_at hl 1 rfl) ?_
            refine zn_imul hx hb dX4_take_68 ?_
            refine lv_aload_n hx hb dX4_take_69 rfl (lv_at hl 0 rfl) ?_
            refine va_get (D := E.1) (ci := 5) (C := RX4) (T := TX4) (N := 19) hx hb hts hiX4 hown hK.1 hP 0 rfl rfl 3 (by decide) hf13 (fun _ h9 => h9) rfl dX4_take_70 ?_
            refine lv_iload_n hx hb dX4_take_73 rfl (lv_at hl 1 rfl) ?_
            refine zn_iald hx hb hK.1 hP 2 0 rfl rfl (by omega) (by decide) dX4_take_74 ?_
            refine zn_iadd hx hb dX4_take_75 ?_
            refine zn_iald hx hb hK.1 hP 3 0 rfl rfl (by rw [hup]; omega) (by decide) dX4_take_76 ?_
            refine zn_iast hx hb hK.1 hP hD hS 3 0 rfl rfl (by omega) (by decide) dX4_take_77 (fun H locs hP hD hS => ?_)
            have hP : va_P E.1 vwCl (mW E m0 k0 q0 t0 v0 c0 o0 s0 j0 r0 f0 g0 h0 cd n K (updN M j ((M j) - 1)) (upd TT (64 * j + i) (TT ((64 * j) + ((updN M j ((M j) - 1)) j)))) VV CC OO b S J RR w1 w2 w3 w4 SF SM FD) H := hP
            have hD : va_D A (mW E m0 k0 q0 t0 v0 c0 o0 s0 j0 r0 f0 g0 h0 cd n K (updN M j ((M j) - 1)) (upd TT (64 * j + i) (TT ((64 * j) + ((updN M j ((M j) - 1)) j)))) VV CC OO b S J RR w1 w2 w3 w4 SF SM FD) := hD
            refine lv_aload_n hx hb dX4_take_78 rfl (lv_at hl 0 rfl) ?_
            refine va_get (D := E.1) (ci := 5) (C := RX4) (T := TX4) (N := 19) hx hb hts hiX4 hown hK.1 hP 0 rfl rfl 5 (by decide) hf19 (fun _ h9 => h9) rfl dX4_take_79 ?_
            refine lv_iload hx hb dX4_take_82 (lv_at hl 4 rfl) ?_
            refine lv_aload_n hx hb dX4_take_84 rfl (lv_at hl 0 rfl) ?_
            refine va_get (D := E.1) (ci := 5) (C := RX4) (T := TX4) (N := 19) hx hb hts hiX4 hown hK.1 hP 0 rfl rfl 5 (by decide) hf19 (fun _ h9 => h9) rfl dX4_take_85 ?_
            refine lv_bipush (v := nI 64) hx hb dX4_take_88 (by decide) ?_
            refine lv_iload_n hx hb dX4_take_90 rfl (lv_at hl 1 rfl) ?_
            refine zn_imul hx hb dX4_take_91 ?_
            refine lv_aload_n hx hb dX4_take_92 rfl (lv_at hl 0 rfl) ?_
            refine va_get (D := E.1) (ci := 5) (C := RX4) (T := TX4) (N := 19) hx hb hts hiX4 hown hK.1 hP 0 rfl rfl 3 (by decide) hf13 (fun _ h9 => h9) rfl dX4_take_93 ?_
            refine lv_iload_n hx hb dX4_take_96 rfl (lv_at hl 1 rfl) ?_
            refine zn_iald hx hb hK.1 hP 2 0 rfl rfl (by omega) (by decide) dX4_take_97 ?_
            refine zn_iadd hx hb dX4_take_98 ?_
            refine zn_lald hx hb hK.1 hP 4 1 rfl rfl (by rw [hup]; omega) (by decide) dX4_take_99 ?_
            refine zn_last hx hb hK.1 hP hD hS 4 1 rfl rfl (by omega) (by decide) dX4_take_100 (fun H locs hP hD hS => ?_)
            have hP : va_P E.1 vwCl (mW E m0 k0 q0 t0 v0 c0 o0 s0 j0 r0 f0 g0 h0 cd n K (updN M j ((M j) - 1)) (upd TT (64 * j + i) (TT ((64 * j) + ((updN M j ((M j) - 1)) j)))) (vp_updL VV (64 * j + i) (VV ((64 * j) + ((updN M j ((M j) - 1)) j)))) CC OO b S J RR w1 w2 w3 w4 SF SM FD) H := hP
            have hD : va_D A (mW E m0 k0 q0 t0 v0 c0 o0 s0 j0 r0 f0 g0 h0 cd n K (updN M j ((M j) - 1)) (upd TT (64 * j + i) (TT ((64 * j) + ((updN M j ((M j) - 1)) j)))) (vp_updL VV (64 * j + i) (VV ((64 * j) + ((updN M j ((M j) - 1)) j)))) CC OO b S J RR w1 w2 w3 w4 SF SM FD) := hD
            refine lv_aload_n hx hb dX4_take_101 rfl (lv_at hl 0 rfl) ?_
            refine va_get (D := E.1) (ci := 5) (C := RX4) (T := TX4) (N := 19) hx hb hts hiX4 hown hK.1 hP 0 rfl rfl 3 (by decide) hf13 (fun _ h9 => h9) rfl dX4_take_102 ?_
            refine lv_iload_n hx hb dX4_take_105 rfl (lv_at hl 1 rfl) ?_
            refine zn_iald hx hb hK.1 hP 2 0 rfl rfl (by omega) (by decide) dX4_take_106 ?_
            exact z_reti (by rw [ho, hup]; rfl) (ret _ _ _ _ (by rw [ho]; rw [hup] at hP; exact hP) hS dX4_take_107)
  exact lp _ 0 ls _ _ (Nat.lt_succ_self _) (Nat.zero_le _) (rfl) (lv_sub hl [1, 2, 3, 4, 0] rfl) hP hD hS
set_option maxHeartbeats 4000000 in
set_option maxRecDepth 100000 in
theorem kX4_remove (l : Launch) (E : zE) (sz : Nat) (m0 k0 q0 t0 v0 c0 o0 s0 j0 r0 f0 g0 h0 : Nat) (cd : Int32) (n : Nat) (K M : Nat → Nat) (TT : Nat → Int32) (VV CC : Nat → Int64) (OO : Nat → Nat) (b : Nat) (S J : Nat → Nat) (RR : Nat → Bool) (w1 w2 w3 w4 : Int32) (SF SM FD : Nat → Nat) (hn : n ≤ 12) (hM : ∀ j, j < n → M j ≤ 64) (hK5 : ∀ j, j < n → K j < 5) (f t : Int32) (v : Int64) : Met l yX4_remove wsX4_remove (rmL 2) (va_Pc [.ref m0, .int f, .int t, .long v] (zS E (mW E m0 k0 q0 t0 v0 c0 o0 s0 j0 r0 f0 g0 h0 cd n K M TT VV CC OO b S J RR w1 w2 w3 w4 SF SM FD) sz)) (va_Qi (fun (r9 : Int32) (_ : Unit) => r9 = rvA n K M TT VV 0 f t v) (fun _ t9 => zW E (mW E m0 k0 q0 t0 v0 c0 o0 s0 j0 r0 f0 g0 h0 (nI 0) n K (tkM M (rvO n K M TT VV 0 f t v)) (tkT M TT (rvO n K M TT VV 0 f t v)) (tkV M VV (rvO n K M TT VV 0 f t v)) CC OO b S J RR w1 w2 w3 w4 SF SM FD) t9) (va_A (mW E m0 k0 q0 t0 v0 c0 o0 s0 j0 r0 f0 g0 h0 cd n K M TT VV CC OO b S J RR w1 w2 w3 w4 SF SM FD) sz)) 0 0 (va_A (mW E m0 k0 q0 t0 v0 c0 o0 s0 j0 r0 f0 g0 h0 cd n K M TT VV CC OO b S J RR w1 w2 w3 w4 SF SM FD) sz) := by
  refine z_ofWi (cc := cX4_remove) (maxL := 5) (own := RX4) (by decide) rfl rfl (Nat.le_of_ble_eq_true rfl) ?_
  intro p e s m args below meth c R Q A B hP hD hA ret ls hl
  obtain ⟨hx, hb, hml, hown, hts, hK, hRf, hRl⟩ := B
  have hiX4 : ∀ w ∈ wsX40, w ∈ wsX4_remove := by decide +kernel
  have hf7 := hts (.fieldLink RX4 7 "ExactFoldsModel" "kind" "[I") (by decide +kernel)
  have hf52 := hts (.fieldLink RX4 52 "ExactFoldsModel" "code" "I") (by decide +kernel)
  have hS : va_S A s.heap s.heap [] := va_S.rf
  have hl : lv_has ls 5 [(0, .ref m0), (1, .int f), (2, .int t), (3, .long v)] := hl
  refine lv_aload_n hx hb dX4_remove_0 rfl (lv_at hl 0 rfl) ?_
  refine lv_iconst (v := nI 0) hx hb dX4_remove_1 (by decide) ?_
  refine va_put (D := E.1) (ci := 5) (v := .int (nI 0)) (ty := .int) (C := RX4) (T := TX4) (N := 19) hx hb hts hiX4 tyX4 tyX4_ok nmX4 hown hK.1 hP hD hS 0 rfl rfl 0 (by decide) hf52 (fun _ h9 => h9) rfl (by decide +kernel) rfl rfl (Nat.le_of_ble_eq_true rfl) dX4_remove_2 (fun H locs hP hD hS => ?_)
  have hP : va_P E.1 vwCl (mW E m0 k0 q0 t0 v0 c0 o0 s0 j0 r0 f0 g0 h0 (nI 0) n K M TT VV CC OO b S J RR w1 w2 w3 w4 SF SM FD) H := hP
  have hD : va_D A (mW E m0 k0 q0 t0 v0 c0 o0 s0 j0 r0 f0 g0 h0 (nI 0) n K M TT VV CC OO b S J RR w1 w2 w3 w4 SF SM FD) := hD
  refine lv_aload_n hx hb dX4_remove_5 rfl (lv_at hl 0 rfl) ?_
  refine lv_iload_n hx hb dX4_remove_6 rfl (lv_at hl 1 rfl) ?_
  refine zc_i (W.runV ⟨hx, hb, hml, hown, hts⟩ (kX4_isFold l E m0 k0 q0 t0 v0 c0 o0 s0 j0 r0 f0 g0 h0 (nI 0) n K M TT VV CC OO b S J RR w1 w2 w3 w4 SF SM FD hn f) (cwV 1 hts gX4_remove_X4_isFold rfl rfl rfl (by decide +kernel) ⟨Nat.le_trans (Nat.le_of_ble_eq_true rfl) hRf, Nat.le_trans (Nat.le_of_ble_eq_true rfl) hRl⟩) (z_preV (As := [.int f]) hP hK 0 rfl rfl) rfl rfl hl.1 rfl (lv_room (Nat.le_of_ble_eq_true rfl)) dX4_remove_7 ⟨Nat.zero_le _, Nat.zero_le _⟩) ?_
  refine zb_if_ne (tgt := 15) hx hb dX4_remove_10 (by decide) (fun c_1 => ?_) (fun c_1 => ?_)
  · obtain ⟨j, hjj, rfl, hfij⟩ := fd_some (by omega) c_1
    have hMj := hM j hjj
    have hKj := hK5 j hjj
    refine lv_aload_n hx hb dX4_remove_15 rfl (lv_at hl 0 rfl) ?_
    refine va_get (D := E.1) (ci := 5) (C := RX4) (T := TX4) (N := 19) hx hb hts hiX4 hown hK.1 hP 0 rfl rfl 2 (by decide) hf7 (fun _ h9 => h9) rfl dX4_remove_16 ?_
    refine lv_iload_n hx hb dX4_remove_19 rfl (lv_at hl 1 rfl) ?_
    refine zn_iald hx hb hK.1 hP 1 0 rfl rfl (by omega) (by decide) dX4_remove_20 ?_
    refine lv_iconst (v := nI 1) hx hb dX4_remove_21 (by decide) ?_
    refine zn_icmp_ne (tgt := 30) hx hb dX4_remove_22 (by decide) (by omega) (by omega) (fun c_2 => ?_) (fun c_2 => ?_)
    · have hrr : (if K j = 1 then 1 else 0) = 0 := by rw [if_neg c_2]
      refine lv_aload_n hx hb dX4_remove_30 rfl (lv_at hl 0 rfl) ?_
      refine lv_iload_n hx hb dX4_remove_31 rfl (lv_at hl 1 rfl) ?_
      refine lv_iload_n hx hb dX4_remove_32 rfl (lv_at hl 2 rfl) ?_
      refine lv_lload_n hx hb dX4_remove_33 rfl (lv_at hl 3 rfl) ?_
      refine zall_i (wc' := (mW E m0 k0 q0 t0 v0 c0 o0 s0 j0 r0 f0 g0 h0 (nI 0) n K (tkM M (tkO n K M TT VV j t v)) (tkT M TT (tkO n K M TT VV j t v)) (tkV M VV (tkO n K M TT VV j t v)) CC OO b S J RR w1 w2 w3 w4 SF SM FD)) (va_runV ⟨hx, hb, hml, hown, hts⟩ (kX4_take l E _ m0 k0 q0 t0 v0 c0 o0 s0 j0 r0 f0 g0 h0 (nI 0) n K M TT VV CC OO b S J RR w1 w2 w3 w4 SF SM FD hn hM j hjj t v) (cwV 3 hts gX4_remove_X4_take rfl rfl rfl (by decide +kernel) ⟨Nat.le_trans (Nat.le_of_ble_eq_true rfl) hRf, Nat.le_trans (Nat.le_of_ble_eq_true rfl) hRl⟩) (z_preWV (As := [.int (nI j), .int t, .long v]) hP hD hK 0 rfl rfl) rfl rfl hl.1 rfl (lv_room (Nat.le_of_ble_eq_true rfl)) dX4_remove_34 ⟨Nat.zero_le _, Nat.zero_le _⟩) hD hS hA rfl (fun H locs hP hD hS => ?_)
      exact z_reti (by unfold rvA; rw [hfij]; show _ = (if (if K j = 1 then 1 else 0) = 0 then tkA M (tkO n K M TT VV j t v) else (-3)); rw [if_pos hrr]) (ret _ _ _ _ (by (have ho : rvO n K M TT VV 0 (nI j) t v = tkO n K M TT VV j t v := by unfold rvO; rw [hfij]; show (if (if K j = 1 then 1 else 0) = 0 then tkO n K M TT VV j t v else none) = _; rw [if_pos hrr]); rw [ho]; exact hP) hS dX4_remove_37)
    · have hrr : ¬ (if K j = 1 then 1 else 0) = 0 := by rw [if_pos c_2]; decide
      refine lv_bipush (v := (-3)) hx hb dX4_remove_25 (by decide) ?_
      refine lv_goto (tgt := 37) hx hb dX4_remove_27 (by decide) ?_
      exact z_reti (by unfold rvA; rw [hfij]; show _ = (if (if K j = 1 then 1 else 0) = 0 then tkA M (tkO n K M TT VV j t v) else (-3)); rw [if_neg hrr]) (ret _ _ _ _ (by (have ho : rvO n K M TT VV 0 (nI j) t v = none := by unfold rvO; rw [hfij]; show (if (if K j = 1 then 1 else 0) = 0 then tkO n K M TT VV j t v else none) = _; rw [if_neg hrr]); rw [ho]; exact hP) hS dX4_remove_37)
  · have hfij := fd_none c_1
    refine lv_iconst (v := (-1)) hx hb dX4_remove_13 (by decide) ?_
    exact z_reti (by unfold rvA; rw [hfij]; rfl) (ret _ _ _ _ (by (have ho : rvO n K M TT VV 0 f t v = none := by unfold rvO; rw [hfij]; rfl); rw [ho]; exact hP) hS dX4_remove_14)
set_option maxHeartbeats 4000000 in
set_option maxRecDepth 100000 in
theorem kX4_removeReal (l : Launch) (E : zE) (sz : Nat) (m0 k0 q0 t0 v0 c0 o0 s0 j0 r0 f0 g0 h0 : Nat) (cd : Int32) (n : Nat) (K M : Nat → Nat) (TT : Nat → Int32) (VV CC : Nat → Int64) (OO : Nat → Nat) (b : Nat) (S J : Nat → Nat) (RR : Nat → Bool) (w1 w2 w3 w4 : Int32) (SF SM FD : Nat → Nat) (hn : n ≤ 12) (hM : ∀ j, j < n → M j ≤ 64) (hK5 : ∀ j, j < n → K j < 5) (hfi1 : ∀ j, j < n → K j = 1 → ∀ i, i < M j → isVal 1 (VV (64 * j + i)) = true) (f t : Int32) (v : Int64) : Met l yX4_removeReal wsX4_removeReal (rmL 2) (va_Pc [.ref m0, .int f, .int t, .long v] (zS E (mW E m0 k0 q0 t0 v0 c0 o0 s0 j0 r0 f0 g0 h0 cd n K M TT VV CC OO b S J RR w1 w2 w3 w4 SF SM FD) sz)) (va_Qi (fun (r9 : Int32) (_ : Unit) => r9 = rvA n K M TT VV 1 f t (wz v)) (fun _ t9 => zW E (mW E m0 k0 q0 t0 v0 c0 o0 s0 j0 r0 f0 g0 h0 (nI 0) n K (tkM M (rvO n K M TT VV 1 f t (wz v))) (tkT M TT (rvO n K M TT VV 1 f t (wz v))) (tkV M VV (rvO n K M TT VV 1 f t (wz v))) CC OO b S J RR w1 w2 w3 w4 SF SM FD) t9) (va_A (mW E m0 k0 q0 t0 v0 c0 o0 s0 j0 r0 f0 g0 h0 cd n K M TT VV CC OO b S J RR w1 w2 w3 w4 SF SM FD) sz)) 0 0 (va_A (mW E m0 k0 q0 t0 v0 c0 o0 s0 j0 r0 f0 g0 h0 cd n K M TT VV CC OO b S J RR w1 w2 w3 w4 SF SM FD) sz) := by
  refine z_ofWi (cc := cX4_removeReal) (maxL := 5) (own := RX4) (by decide) rfl rfl (Nat.le_of_ble_eq_true rfl) ?_
  intro p e s m args below meth c R Q A B hP hD hA ret ls hl
  obtain ⟨hx, hb, hml, hown, hts, hK, hRf, hRl⟩ := B
  have hiX4 : ∀ w ∈ wsX40, w ∈ wsX4_removeReal := by decide +kernel
  have hf7 := hts (.fieldLink RX4 7 "ExactFoldsModel" "kind" "[I") (by decide +kernel)
  have hf52 := hts (.fieldLink RX4 52 "ExactFoldsModel" "code" "I") (by decide +kernel)
  have hS : va_S A s.heap s.heap [] := va_S.rf
  have hl : lv_has ls 5 [(0, .ref m0), (1, .int f), (2, .int t), (3, .long v)] := hl
  refine lv_aload_n hx hb dX4_removeReal_0 rfl (lv_at hl 0 rfl) ?_
  refine lv_iconst (v := nI 0) hx hb dX4_removeReal_1 (by decide) ?_
  refine va_put (D := E.1) (ci := 5) (v := .int (nI 0)) (ty := .int) (C := RX4) (T := TX4) (N := 19) hx hb hts hiX4 tyX4 tyX4_ok nmX4 hown hK.1 hP hD hS 0 rfl rfl 0 (by decide) hf52 (fun _ h9 => h9) rfl (by decide +kernel) rfl rfl (Nat.le_of_ble_eq_true rfl) dX4_removeReal_2 (fun H locs hP hD hS => ?_)
  have hP : va_P E.1 vwCl (mW E m0 k0 q0 t0 v0 c0 o0 s0 j0 r0 f0 g0 h0 (nI 0) n K M TT VV CC OO b S J RR w1 w2 w3 w4 SF SM FD) H := hP
  have hD : va_D A (mW E m0 k0 q0 t0 v0 c0 o0 s0 j0 r0 f0 g0 h0 (nI 0) n K M TT VV CC OO b S J RR w1 w2 w3 w4 SF SM FD) := hD
  refine lv_aload_n hx hb dX4_removeReal_5 rfl (lv_at hl 0 rfl) ?_
  refine lv_iload_n hx hb dX4_removeReal_6 rfl (lv_at hl 1 rfl) ?_
  refine zc_i (W.runV ⟨hx, hb, hml, hown, hts⟩ (kX4_isFold l E m0 k0 q0 t0 v0 c0 o0 s0 j0 r0 f0 g0 h0 (nI 0) n K M TT VV CC OO b S J RR w1 w2 w3 w4 SF SM FD hn f) (cwV 1 hts gX4_removeReal_X4_isFold rfl rfl rfl (by decide +kernel) ⟨Nat.le_trans (Nat.le_of_ble_eq_true rfl) hRf, Nat.le_trans (Nat.le_of_ble_eq_true rfl) hRl⟩) (z_preV (As := [.int f]) hP hK 0 rfl rfl) rfl rfl hl.1 rfl (lv_room (Nat.le_of_ble_eq_true rfl)) dX4_removeReal_7 ⟨Nat.zero_le _, Nat.zero_le _⟩) ?_
  refine zb_if_ne (tgt := 15) hx hb dX4_removeReal_10 (by decide) (fun c_1 => ?_) (fun c_1 => ?_)
  · obtain ⟨j, hjj, rfl, hfij⟩ := fd_some (by omega) c_1
    have hMj := hM j hjj
    have hKj := hK5 j hjj
    refine lv_aload_n hx hb dX4_removeReal_15 rfl (lv_at hl 0 rfl) ?_
    refine va_get (D := E.1) (ci := 5) (C := RX4) (T := TX4) (N := 19) hx hb hts hiX4 hown hK.1 hP 0 rfl rfl 2 (by decide) hf7 (fun _ h9 => h9) rfl dX4_removeReal_16 ?_
    refine lv_iload_n hx hb dX4_removeReal_19 rfl (lv_at hl 1 rfl) ?_
    refine zn_iald hx hb hK.1 hP 1 0 rfl rfl (by omega) (by decide) dX4_removeReal_20 ?_
    refine lv_iconst (v := nI 1) hx hb dX4_removeReal_21 (by decide) ?_
    refine zn_icmp_ne (tgt := 32) hx hb dX4_removeReal_22 (by decide) (by omega) (by omega) (fun c_2 => ?_) (fun c_2 => ?_)
    · have hrr : ¬ (if K j = 1 then 1 else 0) = 1 := by rw [if_neg c_2]; decide
      refine lv_bipush (v := (-3)) hx hb dX4_removeReal_32 (by decide) ?_
      refine lv_goto (tgt := 47) hx hb dX4_removeReal_34 (by decide) ?_
      exact z_reti (by unfold rvA; rw [hfij]; show _ = (if (if K j = 1 then 1 else 0) = 1 then tkA M (tkO n K M TT VV j t (wz v)) else (-3)); rw [if_neg hrr]) (ret _ _ _ _ (by (have ho : rvO n K M TT VV 1 (nI j) t (wz v) = none := by unfold rvO; rw [hfij]; show (if (if K j = 1 then 1 else 0) = 1 then tkO n K M TT VV j t (wz v) else none) = _; rw [if_neg hrr]); rw [ho]; exact hP) hS dX4_removeReal_47)
    · have hrr : (if K j = 1 then 1 else 0) = 1 := by rw [if_pos c_2]
      have hk1 : K j = 1 := c_2
      refine lv_lload_n hx hb dX4_removeReal_25 rfl (lv_at hl 3 rfl) ?_
      refine zc_i (W.runS ⟨hx, hb, hml, hown, hts⟩ (kX4_isFinite l E v) (cwS 1 hts gX4_removeReal_X4_isFinite rfl rfl rfl (by decide +kernel) ⟨Nat.le_trans (Nat.le_of_ble_eq_true rfl) hRf, Nat.le_trans (Nat.le_of_ble_eq_true rfl) hRl⟩) (z_preR (av := [.long v]) (hP.sub (ws' := []) [] rfl) hK) rfl rfl hl.1 rfl (lv_room (Nat.le_of_ble_eq_true rfl)) dX4_removeReal_26 ⟨Nat.zero_le _, Nat.zero_le _⟩) ?_
      refine zb_if_ne (tgt := 37) hx hb dX4_removeReal_29 (by decide) (fun c_3 => ?_) (fun c_3 => ?_)
      · refine lv_aload_n hx hb dX4_removeReal_37 rfl (lv_at hl 0 rfl) ?_
        refine lv_iload_n hx hb dX4_removeReal_38 rfl (lv_at hl 1 rfl) ?_
        refine lv_iload_n hx hb dX4_removeReal_39 rfl (lv_at hl 2 rfl) ?_
        refine lv_lload_n hx hb dX4_removeReal_40 rfl (lv_at hl 3 rfl) ?_
        refine zc_l (W.runS ⟨hx, hb, hml, hown, hts⟩ (kX4_bitsOf l E v) (cwS 1 hts gX4_removeReal_X4_bitsOf rfl rfl rfl (by decide +kernel) ⟨Nat.le_trans (Nat.le_of_ble_eq_true rfl) hRf, Nat.le_trans (Nat.le_of_ble_eq_true rfl) hRl⟩) (z_preR (av := [.long v]) (hP.sub (ws' := []) [] rfl) hK) rfl rfl hl.1 rfl (lv_room (Nat.le_of_ble_eq_true rfl)) dX4_removeReal_41 ⟨Nat.zero_le _, Nat.zero_le _⟩) ?_
        rw [bits_eq]
        refine zall_i (wc' := (mW E m0 k0 q0 t0 v0 c0 o0 s0 j0 r0 f0 g0 h0 (nI 0) n K (tkM M (tkO n K M TT VV j t (wz v))) (tkT M TT (tkO n K M TT VV j t (wz v))) (tkV M VV (tkO n K M TT VV j t (wz v))) CC OO b S J RR w1 w2 w3 w4 SF SM FD)) (va_runV ⟨hx, hb, hml, hown, hts⟩ (kX4_take l E _ m0 k0 q0 t0 v0 c0 o0 s0 j0 r0 f0 g0 h0 (nI 0) n K M TT VV CC OO b S J RR w1 w2 w3 w4 SF SM FD hn hM j hjj t (wz v)) (cwV 3 hts gX4_removeReal_X4_take rfl rfl rfl (by decide +kernel) ⟨Nat.le_trans (Nat.le_of_ble_eq_true rfl) hRf, Nat.le_trans (Nat.le_of_ble_eq_true rfl) hRl⟩) (z_preWV (As := [.int (nI j), .int t, .long (wz v)]) hP hD hK 0 rfl rfl) rfl rfl hl.1 rfl (lv_room (Nat.le_of_ble_eq_true rfl)) dX4_removeReal_44 ⟨Nat.zero_le _, Nat.zero_le _⟩) hD hS hA rfl (fun H locs hP hD hS => ?_)
        exact z_reti (by unfold rvA; rw [hfij]; show _ = (if (if K j = 1 then 1 else 0) = 1 then tkA M (tkO n K M TT VV j t (wz v)) else (-3)); rw [if_pos hrr]) (ret _ _ _ _ (by (have ho : rvO n K M TT VV 1 (nI j) t (wz v) = tkO n K M TT VV j t (wz v) := by unfold rvO; rw [hfij]; show (if (if K j = 1 then 1 else 0) = 1 then tkO n K M TT VV j t (wz v) else none) = _; rw [if_pos hrr]); rw [ho]; exact hP) hS dX4_removeReal_47)
      · refine lv_bipush (v := (-3)) hx hb dX4_removeReal_32 (by decide) ?_
        refine lv_goto (tgt := 47) hx hb dX4_removeReal_34 (by decide) ?_
        exact z_reti (by unfold rvA; rw [hfij]; show _ = (if (if K j = 1 then 1 else 0) = 1 then tkA M (tkO n K M TT VV j t (wz v)) else (-3)); rw [if_pos hrr, tk_inf (hfi1 j hjj) hk1 c_3]; rfl) (ret _ _ _ _ (by (have ho : rvO n K M TT VV 1 (nI j) t (wz v) = none := by unfold rvO; rw [hfij]; show (if (if K j = 1 then 1 else 0) = 1 then tkO n K M TT VV j t (wz v) else none) = _; rw [if_pos hrr, tk_inf (hfi1 j hjj) hk1 c_3]); rw [ho]; exact hP) hS dX4_removeReal_47)
  · have hfij := fd_none c_1
    refine lv_iconst (v := (-1)) hx hb dX4_removeReal_13 (by decide) ?_
    exact z_reti (by unfold rvA; rw [hfij]; rfl) (ret _ _ _ _ (by (have ho : rvO n K M TT VV 1 f t (wz v) = none := by unfold rvO; rw [hfij]; rfl); rw [ho]; exact hP) hS dX4_removeReal_14)
set_option maxHeartbeats 4000000 in
set_option maxRecDepth 100000 in
theorem kX4_like (l : Launch) (E : zE) (m0 k0 q0 t0 v0 c0 o0 s0 j0 r0 f0 g0 h0 : Nat) (cd : Int32) (n : Nat) (K M : Nat → Nat) (TT : Nat → Int32) (VV CC : Nat → Int64) (OO : Nat → Nat) (b : Nat) (S J : Nat → Nat) (RR : Nat → Bool) (w1 w2 w3 w4 : Int32) (SF SM FD : Nat → Nat) (hn : n ≤ 12) (hM : ∀ j, j < n → M j ≤ 64) (j : Nat) (hjj : j < n) (t : Int32) (v : Int64) : Met l yX4_like wsX4_like (rmL 0) (va_Pc [.ref m0, .int (nI j), .int t, .long v] (zW E (mW E m0 k0 q0 t0 v0 c0 o0 s0 j0 r0 f0 g0 h0 cd n K M TT VV CC OO b S J RR w1 w2 w3 w4 SF SM FD))) (vp_Si (fun r9 => r9 = nI (cntR (vw TT j) (vw VV j) t v (M j)))) 0 0 (fun _ => False) := by
  refine z_ofRi (cc := cX4_like) (maxL := 7) (own := RX4) (by decide) rfl rfl (Nat.le_of_ble_eq_true rfl) ?_
  intro p e s m args below meth c R Q B hP ret ls hl
  obtain ⟨hx, hb, hml, hown, hts, hK, hRf, hRl⟩ := B
  have hiX4 : ∀ w ∈ wsX40, w ∈ wsX4_like := by decide +kernel
  have hf13 := hts (.fieldLink RX4 13 "ExactFoldsModel" "many" "[I") (by decide +kernel)
  have hf16 := hts (.fieldLink RX4 16 "ExactFoldsModel" "times" "[I") (by decide +kernel)
  have hf19 := hts (.fieldLink RX4 19 "ExactFoldsModel" "values" "[J") (by decide +kernel)
  have hl : lv_has ls 7 [(0, .ref m0), (1, .int (nI j)), (2, .int t), (3, .long v)] := hl
  have hMj := hM j hjj
  refine lv_iconst (v := nI 0) hx hb dX4_like_0 (by decide) ?_
  refine lv_istore (lv' := [(5, .int (nI 0)), (0, .ref m0), (1, .int (nI j)), (2, .int t), (3, .long v)]) hx hb dX4_like_1 hl (by decide) rfl (fun ls hl => ?_)
  refine lv_bipush (v := nI 64) hx hb dX4_like_3 (by decide) ?_
  refine lv_iload_n hx hb dX4_like_5 rfl (lv_at hl 2 rfl) ?_
  refine zn_imul hx hb dX4_like_6 ?_
  refine lv_istore (lv' := [(6, .int (nI (64 * j))), (5, .int (nI 0)), (0, .ref m0), (1, .int (nI j)), (2, .int t), (3, .long v)]) hx hb dX4_like_7 hl (by decide) rfl (fun ls hl => ?_)
  have lp : ∀ (fu : Nat) (i : Nat) (x : Nat) (ls : Array Slot), M j - i < fu → (i ≤ M j) → (x = cntR (vw TT j) (vw VV j) t v i) → lv_has ls 7 [(0, .ref m0), (1, .int (nI j)), (2, .int t), (3, .long v), (5, .int (nI x)), (6, .int (nI (64 * j + i)))] → W p l e R s m args below meth c s.heap [] 0 0 Q (F0 m 9 ls []) := by
    intro fu
    induction fu with
    | zero => intros; exact absurd (by assumption) (Nat.not_lt_zero _)
    | succ fu ihlp =>
      intro i x ls hfu hi hx2 hl
      refine lv_iload hx hb dX4_like_9 (lv_at hl 5 rfl) ?_
      refine lv_bipush (v := nI 64) hx hb dX4_like_11 (by decide) ?_
      refine lv_iload_n hx hb dX4_like_13 rfl (lv_at hl 1 rfl) ?_
      refine zn_imul hx hb dX4_like_14 ?_
      refine lv_aload_n hx hb dX4_like_15 rfl (lv_at hl 0 rfl) ?_
      refine va_get (D := E.1) (ci := 5) (C := RX4) (T := TX4) (N := 19) hx hb hts hiX4 hown hK.1 hP 0 rfl rfl 3 (by decide) hf13 (fun _ h9 => h9) rfl dX4_like_16 ?_
      refine lv_iload_n hx hb dX4_like_19 rfl (lv_at hl 1 rfl) ?_
      refine zn_iald hx hb hK.1 hP 2 0 rfl rfl (by omega) (by decide) dX4_like_20 ?_
      refine zn_iadd hx hb dX4_like_21 ?_
      refine zn_icmp_ge (tgt := 64) hx hb dX4_like_22 (by decide) (by omega) (by omega) (fun c_1 => ?_) (fun c_1 => ?_)
      · obtain rfl : i = M j := by omega
        refine lv_iload hx hb dX4_like_64 (lv_at hl 4 rfl) ?_
        exact z_reti (by rw [hx2]) (ret _ _ dX4_like_66)
      · refine lv_iload hx hb dX4_like_25 (lv_at hl 4 rfl) ?_
        refine lv_aload_n hx hb dX4_like_27 rfl (lv_at hl 0 rfl) ?_
        refine va_get (D := E.1) (ci := 5) (C := RX4) (T := TX4) (N := 19) hx hb hts hiX4 hown hK.1 hP 0 rfl rfl 4 (by decide) hf16 (fun _ h9 => h9) rfl dX4_like_28 ?_
        refine lv_iload hx hb dX4_like_31 (lv_at hl 5 rfl) ?_
        refine zn_iald hx hb hK.1 hP 3 0 rfl rfl (by omega) (by decide) dX4_like_33 ?_
        refine lv_iload_n hx hb dX4_like_34 rfl (lv_at hl 2 rfl) ?_
        refine lv_icmp_ne (tgt := 54) hx hb dX4_like_35 (by decide) (fun c_2 => ?_) (fun c_2 => ?_)
        · have hq2 : x + 0 = cntR (vw TT j) (vw VV j) t v (i + 1) := by unfold cntR; rw [if_neg (fun q : vw TT j i = t ∧ vw VV j i = v => c_2 q.1), hx2]
          refine lv_iconst (v := nI 0) hx hb dX4_like_54 (by decide) ?_
          refine zn_iadd hx hb dX4_like_55 ?_
          refine lv_istore (lv' := [(5, .int (nI (x + 0))), (0, .ref m0), (1, .int (nI j)), (2, .int t), (3, .long v), (6, .int (nI (64 * j + i)))]) hx hb dX4_like_56 hl (by decide) rfl (fun ls hl => ?_)
          refine lv_iinc (v := nI (64 * j + i + 1)) (lv' := [(6, .int (nI (64 * j + i + 1))), (5, .int (nI (x + 0))), (0, .ref m0), (1, .int (nI j)), (2, .int t), (3, .long v)]) hx hb dX4_like_58 hl (k := 5) rfl (z_inc _ 1) (by decide) rfl (fun ls hl => ?_)
          refine lv_goto (tgt := 9) hx hb dX4_like_61 (by decide) ?_
          exact ihlp (i + 1) (x + 0) ls (by omega) (by omega) (hq2) (lv_sub hl [2, 3, 4, 5, 1, 0] rfl)
        · refine lv_aload_n hx hb dX4_like_38 rfl (lv_at hl 0 rfl) ?_
          refine va_get (D := E.1) (ci := 5) (C := RX4) (T := TX4) (N := 19) hx hb hts hiX4 hown hK.1 hP 0 rfl rfl 5 (by decide) hf19 (fun _ h9 => h9) rfl dX4_like_39 ?_
          refine lv_iload hx hb dX4_like_42 (lv_at hl 5 rfl) ?_
          refine zn_lald hx hb hK.1 hP 4 1 rfl rfl (by omega) (by decide) dX4_like_44 ?_
          refine lv_lload_n hx hb dX4_like_45 rfl (lv_at hl 3 rfl) ?_
          refine zl_ne (tgt := 54) hx hb dX4_like_46 dX4_like_47 (by decide) (fun c_3 => ?_) (fun c_3 => ?_)
          · have hq2 : x + 0 = cntR (vw TT j) (vw VV j) t v (i + 1) := by unfold cntR; rw [if_neg (fun q : vw TT j i = t ∧ vw VV j i = v => c_3 q.2), hx2]
            refine lv_iconst (v := nI 0) hx hb dX4_like_54 (by decide) ?_
            refine zn_iadd hx hb dX4_like_55 ?_
            refine lv_istore (lv' := [(5, .int (nI (x + 0))), (0, .ref m0), (1, .int (nI j)), (2, .int t), (3, .long v), (6, .int (nI (64 * j + i)))]) hx hb dX4_like_56 hl (by decide) rfl (fun ls hl => ?_)
            refine lv_iinc (v := nI (64 * j + i + 1)) (lv' := [(6, .int (nI (64 * j + i + 1))), (5, .int (nI (x + 0))), (0, .ref m0), (1, .int (nI j)), (2, .int t), (3, .long v)]) hx hb dX4_like_58 hl (k := 5) rfl (z_inc _ 1) (by decide) rfl (fun ls hl => ?_)
            refine lv_goto (tgt := 9) hx hb dX4_like_61 (by decide) ?_
            exact ihlp (i + 1) (x + 0) ls (by omega) (by omega) (hq2) (lv_sub hl [2, 3, 4, 5, 1, 0] rfl)
          · have hq2 : x + 1 = cntR (vw TT j) (vw VV j) t v (i + 1) := by unfold cntR; rw [if_pos (show vw TT j i = t ∧ vw VV j i = v from ⟨c_2, c_3⟩), hx2]
            refine lv_iconst (v := nI 1) hx hb dX4_like_50 (by decide) ?_
            refine lv_goto (tgt := 55) hx hb dX4_like_51 (by decide) ?_
            refine zn_iadd hx hb dX4_like_55 ?_
            refine lv_istore (lv' := [(5, .int (nI (x + 1))), (0, .ref m0), (1, .int (nI j)), (2, .int t), (3, .long v), (6, .int (nI (64 * j + i)))]) hx hb dX4_like_56 hl (by decide) rfl (fun ls hl => ?_)
            refine lv_iinc (v := nI (64 * j + i + 1)) (lv' := [(6, .int (nI (64 * j + i + 1))), (5, .int (nI (x + 1))), (0, .ref m0), (1, .int (nI j)), (2, .int t), (3, .long v)]) hx hb dX4_like_58 hl (k := 5) rfl (z_inc _ 1) (by decide) rfl (fun ls hl => ?_)
            refine lv_goto (tgt := 9) hx hb dX4_like_61 (by decide) ?_
            exact ihlp (i + 1) (x + 1) ls (by omega) (by omega) (hq2) (lv_sub hl [2, 3, 4, 5, 1, 0] rfl)
  exact lp _ 0 0 ls (Nat.lt_succ_self _) (Nat.zero_le _) (rfl) (lv_sub hl [2, 3, 4, 5, 1, 0] rfl)
set_option maxHeartbeats 4000000 in
set_option maxRecDepth 100000 in
theorem kX4_same (l : Launch) (E : zE) (sz : Nat) (m0 k0 q0 t0 v0 c0 o0 s0 j0 r0 f0 g0 h0 : Nat) (cd : Int32) (n : Nat) (K M : Nat → Nat) (TT : Nat → Int32) (VV CC : Nat → Int64) (OO : Nat → Nat) (b : Nat) (S J : Nat → Nat) (RR : Nat → Bool) (w1 w2 w3 w4 : Int32) (SF SM FD : Nat → Nat) (hn : n ≤ 12) (hM : ∀ j, j < n → M j ≤ 64) (hK5 : ∀ j, j < n → K j < 5) (f g : Int32) : Met l yX4_same wsX4_same (rmL 2) (va_Pc [.ref m0, .int f, .int g] (zS E (mW E m0 k0 q0 t0 v0 c0 o0 s0 j0 r0 f0 g0 h0 cd n K M TT VV CC OO b S J RR w1 w2 w3 w4 SF SM FD) sz)) (va_Qi (fun (r9 : Int32) (_ : Unit) => r9 = bI (mSame n K M TT VV f g)) (fun _ t9 => zW E (mW E m0 k0 q0 t0 v0 c0 o0 s0 j0 r0 f0 g0 h0 (nI 0) n K M TT VV CC OO b S J RR w1 w2 w3 w4 SF SM FD) t9) (va_A (mW E m0 k0 q0 t0 v0 c0 o0 s0 j0 r0 f0 g0 h0 cd n K M TT VV CC OO b S J RR w1 w2 w3 w4 SF SM FD) sz)) 0 0 (va_A (mW E m0 k0 q0 t0 v0 c0 o0 s0 j0 r0 f0 g0 h0 cd n K M TT VV CC OO b S J RR w1 w2 w3 w4 SF SM FD) sz) := by
  refine z_ofWz (cc := cX4_same) (maxL := 5) (own := RX4) (by decide) rfl rfl (Nat.le_of_ble_eq_true rfl) ?_
  intro p e s m args below meth c R Q A B hP hD hA ret ls hl
  obtain ⟨hx, hb, hml, hown, hts, hK, hRf, hRl⟩ := B
  have hiX4 : ∀ w ∈ wsX40, w ∈ wsX4_same := by decide +kernel
  have hf7 := hts (.fieldLink RX4 7 "ExactFoldsModel" "kind" "[I") (by decide +kernel)
  have hf13 := hts (.fieldLink RX4 13 "ExactFoldsModel" "many" "[I") (by decide +kernel)
  have hf16 := hts (.fieldLink RX4 16 "ExactFoldsModel" "times" "[I") (by decide +kernel)
  have hf19 := hts (.fieldLink RX4 19 "ExactFoldsModel" "values" "[J") (by decide +kernel)
  have hf52 := hts (.fieldLink RX4 52 "ExactFoldsModel" "code" "I") (by decide +kernel)
  have hS : va_S A s.heap s.heap [] := va_S.rf
  have hl : lv_has ls 5 [(0, .ref m0), (1, .int f), (2, .int g)] := hl
  refine lv_aload_n hx hb dX4_same_0 rfl (lv_at hl 0 rfl) ?_
  refine lv_iconst (v := nI 0) hx hb dX4_same_1 (by decide) ?_
  refine va_put (D := E.1) (ci := 5) (v := .int (nI 0)) (ty := .int) (C := RX4) (T := TX4) (N := 19) hx hb hts hiX4 tyX4 tyX4_ok nmX4 hown hK.1 hP hD hS 0 rfl rfl 0 (by decide) hf52 (fun _ h9 => h9) rfl (by decide +kernel) rfl rfl (Nat.le_of_ble_eq_true rfl) dX4_same_2 (fun H locs hP hD hS => ?_)
  have hP : va_P E.1 vwCl (mW E m0 k0 q0 t0 v0 c0 o0 s0 j0 r0 f0 g0 h0 (nI 0) n K M TT VV CC OO b S J RR w1 w2 w3 w4 SF SM FD) H := hP
  have hD : va_D A (mW E m0 k0 q0 t0 v0 c0 o0 s0 j0 r0 f0 g0 h0 (nI 0) n K M TT VV CC OO b S J RR w1 w2 w3 w4 SF SM FD) := hD
  refine lv_aload_n hx hb dX4_same_5 rfl (lv_at hl 0 rfl) ?_
  refine lv_iload_n hx hb dX4_same_6 rfl (lv_at hl 1 rfl) ?_
  refine zc_i (W.runV ⟨hx, hb, hml, hown, hts⟩ (kX4_isFold l E m0 k0 q0 t0 v0 c0 o0 s0 j0 r0 f0 g0 h0 (nI 0) n K M TT VV CC OO b S J RR w1 w2 w3 w4 SF SM FD hn f) (cwV 1 hts gX4_same_X4_isFold rfl rfl rfl (by decide +kernel) ⟨Nat.le_trans (Nat.le_of_ble_eq_true rfl) hRf, Nat.le_trans (Nat.le_of_ble_eq_true rfl) hRl⟩) (z_preV (As := [.int f]) hP hK 0 rfl rfl) rfl rfl hl.1 rfl (lv_room (Nat.le_of_ble_eq_true rfl)) dX4_same_7 ⟨Nat.zero_le _, Nat.zero_le _⟩) ?_
  refine zb_if_eq (tgt := 51) hx hb dX4_same_10 (by decide) (fun c_1 => ?_) (fun c_1 => ?_)
  · have hfij := fd_none c_1
    refine lv_iconst (v := nI 0) hx hb dX4_same_51 (by decide) ?_
    exact z_reti (by rw [show mSame n K M TT VV f g = false from by unfold mSame; rw [hfij]; rfl]; rfl) (ret _ _ _ _ (hP) hS dX4_same_52)
  · obtain ⟨j, hjj, rfl, hfij⟩ := fd_some (by omega) c_1
    have hMj := hM j hjj
    have hKj := hK5 j hjj
    refine lv_aload_n hx hb dX4_same_13 rfl (lv_at hl 0 rfl) ?_
    refine lv_iload_n hx hb dX4_same_14 rfl (lv_at hl 2 rfl) ?_
    refine zc_i (W.runV ⟨hx, hb, hml, hown, hts⟩ (kX4_isFold l E m0 k0 q0 t0 v0 c0 o0 s0 j0 r0 f0 g0 h0 (nI 0) n K M TT VV CC OO b S J RR w1 w2 w3 w4 SF SM FD hn g) (cwV 1 hts gX4_same_X4_isFold rfl rfl rfl (by decide +kernel) ⟨Nat.le_trans (Nat.le_of_ble_eq_true rfl) hRf, Nat.le_trans (Nat.le_of_ble_eq_true rfl) hRl⟩) (z_preV (As := [.int g]) hP hK 0 rfl rfl) rfl rfl hl.1 rfl (lv_room (Nat.le_of_ble_eq_true rfl)) dX4_same_15 ⟨Nat.zero_le _, Nat.zero_le _⟩) ?_
    refine zb_if_eq (tgt := 51) hx hb dX4_same_18 (by decide) (fun c_2 => ?_) (fun c_2 => ?_)
    · have hfio := fd_none c_2
      refine lv_iconst (v := nI 0) hx hb dX4_same_51 (by decide) ?_
      exact z_reti (by rw [show mSame n K M TT VV (nI j) g = false from by unfold mSame; rw [hfij]; show (fidx n g).elim false (fun o => decide (K j = K o) && (decide (M j = M o) && smM TT VV M j o (M j))) = _; rw [hfio]; rfl]; rfl) (ret _ _ _ _ (hP) hS dX4_same_52)
    · obtain ⟨o, hjo, rfl, hfio⟩ := fd_some (by omega) c_2
      have hMo := hM o hjo
      have hKo := hK5 o hjo
      refine lv_aload_n hx hb dX4_same_21 rfl (lv_at hl 0 rfl) ?_
      refine va_get (D := E.1) (ci := 5) (C := RX4) (T := TX4) (N := 19) hx hb hts hiX4 hown hK.1 hP 0 rfl rfl 2 (by decide) hf7 (fun _ h9 => h9) rfl dX4_same_22 ?_
      refine lv_iload_n hx hb dX4_same_25 rfl (lv_at hl 1 rfl) ?_
      refine zn_iald hx hb hK.1 hP 1 0 rfl rfl (by omega) (by decide) dX4_same_26 ?_
      refine lv_aload_n hx hb dX4_same_27 rfl (lv_at hl 0 rfl) ?_
      refine va_get (D := E.1) (ci := 5) (C := RX4) (T := TX4) (N := 19) hx hb hts hiX4 hown hK.1 hP 0 rfl rfl 2 (by decide) hf7 (fun _ h9 => h9) rfl dX4_same_28 ?_
      refine lv_iload_n hx hb dX4_same_31 rfl (lv_at hl 2 rfl) ?_
      refine zn_iald hx hb hK.1 hP 1 0 rfl rfl (by omega) (by decide) dX4_same_32 ?_
      refine zn_icmp_ne (tgt := 51) hx hb dX4_same_33 (by decide) (by omega) (by omega) (fun c_3 => ?_) (fun c_3 => ?_)
      · refine lv_iconst (v := nI 0) hx hb dX4_same_51 (by decide) ?_
        exact z_reti (by rw [show mSame n K M TT VV (nI j) (nI o) = false from by unfold mSame; rw [hfij]; show (fidx n (nI o)).elim false (fun o => decide (K j = K o) && (decide (M j = M o) && smM TT VV M j o (M j))) = _; rw [hfio]; show (decide (K j = K o) && (decide (M j = M o) && smM TT VV M j o (M j))) = _; rw [decide_eq_false c_3]; rfl]; rfl) (ret _ _ _ _ (hP) hS dX4_same_52)
      · refine lv_aload_n hx hb dX4_same_36 rfl (lv_at hl 0 rfl) ?_
        refine va_get (D := E.1) (ci := 5) (C := RX4) (T := TX4) (N := 19) hx hb hts hiX4 hown hK.1 hP 0 rfl rfl 3 (by decide) hf13 (fun _ h9 => h9) rfl dX4_same_37 ?_
        refine lv_iload_n hx hb dX4_same_40 rfl (lv_at hl 1 rfl) ?_
        refine zn_iald hx hb hK.1 hP 2 0 rfl rfl (by omega) (by decide) dX4_same_41 ?_
        refine lv_aload_n hx hb dX4_same_42 rfl (lv_at hl 0 rfl) ?_
        refine va_get (D := E.1) (ci := 5) (C := RX4) (T := TX4) (N := 19) hx hb hts hiX4 hown hK.1 hP 0 rfl rfl 3 (by decide) hf13 (fun _ h9 => h9) rfl dX4_same_43 ?_
        refine lv_iload_n hx hb dX4_same_46 rfl (lv_at hl 2 rfl) ?_
        refine zn_iald hx hb hK.1 hP 2 0 rfl rfl (by omega) (by decide) dX4_same_47 ?_
        refine zn_icmp_eq (tgt := 53) hx hb dX4_same_48 (by decide) (by omega) (by omega) (fun c_4 => ?_) (fun c_4 => ?_)
        · have hkk : K j = K o := c_3
          have hmm : M j = M o := c_4
          refine lv_iconst (v := nI 1) hx hb dX4_same_53 (by decide) ?_
          refine lv_istore_n (lv' := [(3, .int (nI 1)), (0, .ref m0), (1, .int (nI j)), (2, .int (nI o))]) hx hb dX4_same_54 rfl hl (by decide) rfl (fun ls hl => ?_)
          refine lv_bipush (v := nI 64) hx hb dX4_same_55 (by decide) ?_
          refine lv_iload_n hx hb dX4_same_57 rfl (lv_at hl 2 rfl) ?_
          refine zn_imul hx hb dX4_same_58 ?_
          refine lv_istore (lv' := [(4, .int (nI (64 * j))), (3, .int (nI 1)), (0, .ref m0), (1, .int (nI j)), (2, .int (nI o))]) hx hb dX4_same_59 hl (by decide) rfl (fun ls hl => ?_)
          have lp : ∀ (fu : Nat) (i : Nat) (x : Bool) (ls : Array Slot) (H : Heap) (locs : List Loc), M j - i < fu → (i ≤ M j) → (x = smM TT VV M j o i) → lv_has ls 5 [(0, .ref m0), (1, .int (nI j)), (2, .int (nI o)), (3, .int (bI x)), (4, .int (nI (64 * j + i)))] → va_P E.1 vwCl (mW E m0 k0 q0 t0 v0 c0 o0 s0 j0 r0 f0 g0 h0 (nI 0) n K M TT VV CC OO b S J RR w1 w2 w3 w4 SF SM FD) H → va_D A (mW E m0 k0 q0 t0 v0 c0 o0 s0 j0 r0 f0 g0 h0 (nI 0) n K M TT VV CC OO b S J RR w1 w2 w3 w4 SF SM FD) → va_S A s.heap H locs → W p l e R s m args below meth c H locs 0 0 Q (F0 m 61 ls []) := by
            intro fu
            induction fu with
            | zero => intros; exact absurd (by assumption) (Nat.not_lt_zero _)
            | succ fu ihlp =>
              intro i x ls H locs hfu hi hx2 hl hP hD hS
              refine lv_iload hx hb dX4_same_61 (lv_at hl 4 rfl) ?_
              refine lv_bipush (v := nI 64) hx hb dX4_same_63 (by decide) ?_
              refine lv_iload_n hx hb dX4_same_65 rfl (lv_at hl 1 rfl) ?_
              refine zn_imul hx hb dX4_same_66 ?_
              refine lv_aload_n hx hb dX4_same_67 rfl (lv_at hl 0 rfl) ?_
              refine va_get (D := E.1) (ci := 5) (C := RX4) (T := TX4) (N := 19) hx hb hts hiX4 hown hK.1 hP 0 rfl rfl 3 (by decide) hf13 (fun _ h9 => h9) rfl dX4_same_68 ?_
              refine lv_iload_n hx hb dX4_same_71 rfl (lv_at hl 1 rfl) ?_
              refine zn_iald hx hb hK.1 hP 2 0 rfl rfl (by omega) (by decide) dX4_same_72 ?_
              refine zn_iadd hx hb dX4_same_73 ?_
              refine zn_icmp_ge (tgt := 134) hx hb dX4_same_74 (by decide) (by omega) (by omega) (fun c_5 => ?_) (fun c_5 => ?_)
              · obtain rfl : i = M j := by omega
                refine lv_iload_n hx hb dX4_same_134 rfl (lv_at hl 3 rfl) ?_
                exact z_reti (by rw [show mSame n K M TT VV (nI j) (nI o) = x from by unfold mSame; rw [hfij]; show (fidx n (nI o)).elim false (fun o => decide (K j = K o) && (decide (M j = M o) && smM TT VV M j o (M j))) = _; rw [hfio]; show (decide (K j = K o) && (decide (M j = M o) && smM TT VV M j o (M j))) = _; rw [decide_eq_true hkk, decide_eq_true hmm, hx2]; rfl]) (ret _ _ _ _ (hP) hS dX4_same_135)
              · refine lv_iload_n hx hb dX4_same_77 rfl (lv_at hl 3 rfl) ?_
                refine zb_if_eq (tgt := 126) hx hb dX4_same_78 (by decide) (fun c_6 => ?_) (fun c_6 => ?_)
                · have hq2 : false = smM TT VV M j o (i + 1) := by unfold smM; rw [← hx2, c_6]; rfl
                  refine lv_iconst (v := nI 0) hx hb dX4_same_126 (by decide) ?_
                  refine lv_istore_n (lv' := [(3, .int (nI 0)), (0, .ref m0), (1, .int (nI j)), (2, .int (nI o)), (4, .int (nI (64 * j + i)))]) hx hb dX4_same_127 rfl hl (by decide) rfl (fun ls hl => ?_)
                  refine lv_iinc (v := nI (64 * j + i + 1)) (lv' := [(4, .int (nI (64 * j + i + 1))), (3, .int (nI 0)), (0, .ref m0), (1, .int (nI j)), (2, .int (nI o))]) hx hb dX4_same_128 hl (k := 4) rfl (z_inc _ 1) (by decide) rfl (fun ls hl => ?_)
                  refine lv_goto (tgt := 61) hx hb dX4_same_131 (by decide) ?_
                  exact ihlp (i + 1) false ls _ _ (by omega) (by omega) (hq2) (lv_sub hl [2, 3, 4, 1, 0] rfl) hP hD hS
                · refine lv_aload_n hx hb dX4_same_81 rfl (lv_at hl 0 rfl) ?_
                  refine lv_iload_n hx hb dX4_same_82 rfl (lv_at hl 1 rfl) ?_
                  refine lv_aload_n hx hb dX4_same_83 rfl (lv_at hl 0 rfl) ?_
                  refine va_get (D := E.1) (ci := 5) (C := RX4) (T := TX4) (N := 19) hx hb hts hiX4 hown hK.1 hP 0 rfl rfl 4 (by decide) hf16 (fun _ h9 => h9) rfl dX4_same_84 ?_
                  refine lv_iload hx hb dX4_same_87 (lv_at hl 4 rfl) ?_
                  refine zn_iald hx hb hK.1 hP 3 0 rfl rfl (by omega) (by decide) dX4_same_89 ?_
                  refine lv_aload_n hx hb dX4_same_90 rfl (lv_at hl 0 rfl) ?_
                  refine va_get (D := E.1) (ci := 5) (C := RX4) (T := TX4) (N := 19) hx hb hts hiX4 hown hK.1 hP 0 rfl rfl 5 (by decide) hf19 (fun _ h9 => h9) rfl dX4_same_91 ?_
                  refine lv_iload hx hb dX4_same_94 (lv_at hl 4 rfl) ?_
                  refine zn_lald hx hb hK.1 hP 4 1 rfl rfl (by omega) (by decide) dX4_same_96 ?_
                  refine zc_i (W.runV ⟨hx, hb, hml, hown, hts⟩ (kX4_like l E m0 k0 q0 t0 v0 c0 o0 s0 j0 r0 f0 g0 h0 (nI 0) n K M TT VV CC OO b S J RR w1 w2 w3 w4 SF SM FD hn hM j (by assumption) (TT (64 * j + i)) (VV (64 * j + i))) (cwV 3 hts gX4_same_X4_like rfl rfl rfl (by decide +kernel) ⟨Nat.le_trans (Nat.le_of_ble_eq_true rfl) hRf, Nat.le_trans (Nat.le_of_ble_eq_true rfl) hRl⟩) (z_preV (As := [.int (nI j), .int (TT (64 * j + i)), .long (VV (64 * j + i))]) hP hK 0 rfl rfl) rfl rfl hl.1 rfl (lv_room (Nat.le_of_ble_eq_true rfl)) dX4_same_97 ⟨Nat.zero_le _, Nat.zero_le _⟩) ?_
                  refine lv_aload_n hx hb dX4_same_100 rfl (lv_at hl 0 rfl) ?_
                  refine lv_iload_n hx hb dX4_same_101 rfl (lv_at hl 2 rfl) ?_
                  refine lv_aload_n hx hb dX4_same_102 rfl (lv_at hl 0 rfl) ?_
                  refine va_get (D := E.1) (ci := 5) (C := RX4) (T := TX4) (N := 19) hx hb hts hiX4 hown hK.1 hP 0 rfl rfl 4 (by decide) hf16 (fun _ h9 => h9) rfl dX4_same_103 ?_
                  refine lv_iload hx hb dX4_same_106 (lv_at hl 4 rfl) ?_
                  refine zn_iald hx hb hK.1 hP 3 0 rfl rfl (by omega) (by decide) dX4_same_108 ?_
                  refine lv_aload_n hx hb dX4_same_109 rfl (lv_at hl 0 rfl) ?_
                  refine va_get (D := E.1) (ci := 5) (C := RX4) (T := TX4) (N := 19) hx hb hts hiX4 hown hK.1 hP 0 rfl rfl 5 (by decide) hf19 (fun _ h9 => h9) rfl dX4_same_110 ?_
                  refine lv_iload hx hb dX4_same_113 (lv_at hl 4 rfl) ?_
                  refine zn_lald hx hb hK.1 hP 4 1 rfl rfl (by omega) (by decide) dX4_same_115 ?_
                  refine zc_i (W.runV ⟨hx, hb, hml, hown, hts⟩ (kX4_like l E m0 k0 q0 t0 v0 c0 o0 s0 j0 r0 f0 g0 h0 (nI 0) n K M TT VV CC OO b S J RR w1 w2 w3 w4 SF SM FD hn hM o (by assumption) (TT (64 * j + i)) (VV (64 * j + i))) (cwV 3 hts gX4_same_X4_like rfl rfl rfl (by decide +kernel) ⟨Nat.le_trans (Nat.le_of_ble_eq_true rfl) hRf, Nat.le_trans (Nat.le_of_ble_eq_true rfl) hRl⟩) (z_preV (As := [.int (nI o), .int (TT (64 * j + i)), .long (VV (64 * j + i))]) hP hK 0 rfl rfl) rfl rfl hl.1 rfl (lv_room (Nat.le_of_ble_eq_true rfl)) dX4_same_116 ⟨Nat.zero_le _, Nat.zero_le _⟩) ?_
                  refine zn_icmp_ne (tgt := 126) hx hb dX4_same_119 (by decide) (Nat.lt_of_le_of_lt (cntR_le _ _ _ _ _) (by omega)) (Nat.lt_of_le_of_lt (cntR_le _ _ _ _ _) (by omega)) (fun c_7 => ?_) (fun c_7 => ?_)
                  · have hq2 : false = smM TT VV M j o (i + 1) := by unfold smM; rw [← hx2, c_6, decide_eq_false (show ¬ cntR (vw TT j) (vw VV j) (vw TT j i) (vw VV j i) (M j) = cntR (vw TT o) (vw VV o) (vw TT j i) (vw VV j i) (M o) from c_7)]; rfl
                    refine lv_iconst (v := nI 0) hx hb dX4_same_126 (by decide) ?_
                    refine lv_istore_n (lv' := [(3, .int (nI 0)), (0, .ref m0), (1, .int (nI j)), (2, .int (nI o)), (4, .int (nI (64 * j + i)))]) hx hb dX4_same_127 rfl hl (by decide) rfl (fun ls hl => ?_)
                    refine lv_iinc (v := nI (64 * j + i + 1)) (lv' := [(4, .int (nI (64 * j + i + 1))), (3, .int (nI 0)), (0, .ref m0), (1, .int (nI j)), (2, .int (nI o))]) hx hb dX4_same_128 hl (k := 4) rfl (z_inc _ 1) (by decide) rfl (fun ls hl => ?_)
                    refine lv_goto (tgt := 61) hx hb dX4_same_131 (by decide) ?_
                    exact ihlp (i + 1) false ls _ _ (by omega) (by omega) (hq2) (lv_sub hl [2, 3, 4, 1, 0] rfl) hP hD hS
                  · have hq2 : true = smM TT VV M j o (i + 1) := by unfold smM; rw [← hx2, c_6, decide_eq_true (show cntR (vw TT j) (vw VV j) (vw TT j i) (vw VV j i) (M j) = cntR (vw TT o) (vw VV o) (vw TT j i) (vw VV j i) (M o) from c_7)]; rfl
                    refine lv_iconst (v := nI 1) hx hb dX4_same_122 (by decide) ?_
                    refine lv_goto (tgt := 127) hx hb dX4_same_123 (by decide) ?_
                    refine lv_istore_n (lv' := [(3, .int (nI 1)), (0, .ref m0), (1, .int (nI j)), (2, .int (nI o)), (4, .int (nI (64 * j + i)))]) hx hb dX4_same_127 rfl hl (by decide) rfl (fun ls hl => ?_)
                    refine lv_iinc (v := nI (64 * j + i + 1)) (lv' := [(4, .int (nI (64 * j + i + 1))), (3, .int (nI 1)), (0, .ref m0), (1, .int (nI j)), (2, .int (nI o))]) hx hb dX4_same_128 hl (k := 4) rfl (z_inc _ 1) (by decide) rfl (fun ls hl => ?_)
                    refine lv_goto (tgt := 61) hx hb dX4_same_131 (by decide) ?_
                    exact ihlp (i + 1) true ls _ _ (by omega) (by omega) (hq2) (lv_sub hl [2, 3, 4, 1, 0] rfl) hP hD hS
          exact lp _ 0 true ls _ _ (Nat.lt_succ_self _) (Nat.zero_le _) (rfl) (lv_sub hl [2, 3, 4, 1, 0] rfl) hP hD hS
        · refine lv_iconst (v := nI 0) hx hb dX4_same_51 (by decide) ?_
          exact z_reti (by rw [show mSame n K M TT VV (nI j) (nI o) = false from by unfold mSame; rw [hfij]; show (fidx n (nI o)).elim false (fun o => decide (K j = K o) && (decide (M j = M o) && smM TT VV M j o (M j))) = _; rw [hfio]; show (decide (K j = K o) && (decide (M j = M o) && smM TT VV M j o (M j))) = _; rw [decide_eq_true c_3, decide_eq_false c_4]; rfl]; rfl) (ret _ _ _ _ (hP) hS dX4_same_52)
set_option maxHeartbeats 4000000 in
set_option maxRecDepth 100000 in
theorem kX4_limb (l : Launch) (E : zE) (sz : Nat) (m0 k0 q0 t0 v0 c0 o0 s0 j0 r0 f0 g0 h0 : Nat) (cd : Int32) (n : Nat) (K M : Nat → Nat) (TT : Nat → Int32) (VV CC : Nat → Int64) (OO : Nat → Nat) (b : Nat) (S J : Nat → Nat) (RR : Nat → Bool) (w1 w2 w3 w4 : Int32) (SF SM FD : Nat → Nat) (hn : n ≤ 12) (hM : ∀ j, j < n → M j ≤ 64) (hK5 : ∀ j, j < n → K j < 5) (f k : Int32) : Met l yX4_limb wsX4_limb (rmL 2) (va_Pc [.ref m0, .int f, .int k] (zS E (mW E m0 k0 q0 t0 v0 c0 o0 s0 j0 r0 f0 g0 h0 cd n K M TT VV CC OO b S J RR w1 w2 w3 w4 SF SM FD) sz)) (va_Qi (fun (r9 : Int32) (_ : Unit) => r9 = lmA n K M (vw VV) f k) (fun _ t9 => zW E (mW E m0 k0 q0 t0 v0 c0 o0 s0 j0 r0 f0 g0 h0 (lmC n K f k) n K M TT VV CC OO b S J RR w1 w2 w3 w4 SF SM FD) t9) (va_A (mW E m0 k0 q0 t0 v0 c0 o0 s0 j0 r0 f0 g0 h0 cd n K M TT VV CC OO b S J RR w1 w2 w3 w4 SF SM FD) sz)) 0 0 (va_A (mW E m0 k0 q0 t0 v0 c0 o0 s0 j0 r0 f0 g0 h0 cd n K M TT VV CC OO b S J RR w1 w2 w3 w4 SF SM FD) sz) := by
  refine z_ofWi (cc := cX4_limb) (maxL := 8) (own := RX4) (by decide) rfl rfl (Nat.le_of_ble_eq_true rfl) ?_
  intro p e s m args below meth c R Q A B hP hD hA ret ls hl
  obtain ⟨hx, hb, hml, hown, hts, hK, hRf, hRl⟩ := B
  have hiX4 : ∀ w ∈ wsX40, w ∈ wsX4_limb := by decide +kernel
  have hf13 := hts (.fieldLink RX4 13 "ExactFoldsModel" "many" "[I") (by decide +kernel)
  have hf19 := hts (.fieldLink RX4 19 "ExactFoldsModel" "values" "[J") (by decide +kernel)
  have hf52 := hts (.fieldLink RX4 52 "ExactFoldsModel" "code" "I") (by decide +kernel)
  have hS : va_S A s.heap s.heap [] := va_S.rf
  have hl : lv_has ls 8 [(0, .ref m0), (1, .int f), (2, .int k)] := hl
  refine lv_aload_n hx hb dX4_limb_0 rfl (lv_at hl 0 rfl) ?_
  refine lv_iconst (v := nI 0) hx hb dX4_limb_1 (by decide) ?_
  refine va_put (D := E.1) (ci := 5) (v := .int (nI 0)) (ty := .int) (C := RX4) (T := TX4) (N := 19) hx hb hts hiX4 tyX4 tyX4_ok nmX4 hown hK.1 hP hD hS 0 rfl rfl 0 (by decide) hf52 (fun _ h9 => h9) rfl (by decide +kernel) rfl rfl (Nat.le_of_ble_eq_true rfl) dX4_limb_2 (fun H locs hP hD hS => ?_)
  have hP : va_P E.1 vwCl (mW E m0 k0 q0 t0 v0 c0 o0 s0 j0 r0 f0 g0 h0 (nI 0) n K M TT VV CC OO b S J RR w1 w2 w3 w4 SF SM FD) H := hP
  have hD : va_D A (mW E m0 k0 q0 t0 v0 c0 o0 s0 j0 r0 f0 g0 h0 (nI 0) n K M TT VV CC OO b S J RR w1 w2 w3 w4 SF SM FD) := hD
  refine lv_aload_n hx hb dX4_limb_5 rfl (lv_at hl 0 rfl) ?_
  refine lv_iload_n hx hb dX4_limb_6 rfl (lv_at hl 1 rfl) ?_
  refine lv_iconst (v := nI 0) hx hb dX4_limb_7 (by decide) ?_
  refine zc_i (W.runV ⟨hx, hb, hml, hown, hts⟩ (kX4_isOf l E m0 k0 q0 t0 v0 c0 o0 s0 j0 r0 f0 g0 h0 (nI 0) n K M TT VV CC OO b S J RR w1 w2 w3 w4 SF SM FD hn hK5 f 0 (by decide)) (cwV 2 hts gX4_limb_X4_isOf rfl rfl rfl (by decide +kernel) ⟨Nat.le_trans (Nat.le_of_ble_eq_true rfl) hRf, Nat.le_trans (Nat.le_of_ble_eq_true rfl) hRl⟩) (z_preV (As := [.int f, .int (nI 0)]) hP hK 0 rfl rfl) rfl rfl hl.1 rfl (lv_room (Nat.le_of_ble_eq_true rfl)) dX4_limb_8 ⟨Nat.zero_le _, Nat.zero_le _⟩) ?_
  refine zb_if_ne (tgt := 16) hx hb dX4_limb_11 (by decide) (fun c_1 => ?_) (fun c_1 => ?_)
  · obtain ⟨j, hjj, rfl, hkdj, hfij⟩ := fk_some (by omega) c_1
    have hMj := hM j hjj
    have hKj := hK5 j hjj
    refine lv_iload_n hx hb dX4_limb_16 rfl (lv_at hl 2 rfl) ?_
    refine lv_if_lt (tgt := 25) hx hb dX4_limb_17 (by decide) (fun c_2 => ?_) (fun c_2 => ?_)
    · refine lv_aload_n hx hb dX4_limb_25 rfl (lv_at hl 0 rfl) ?_
      refine lv_iconst (v := nI 1) hx hb dX4_limb_26 (by decide) ?_
      refine va_put (D := E.1) (ci := 5) (v := .int (nI 1)) (ty := .int) (C := RX4) (T := TX4) (N := 19) hx hb hts hiX4 tyX4 tyX4_ok nmX4 hown hK.1 hP hD hS 0 rfl rfl 0 (by decide) hf52 (fun _ h9 => h9) rfl (by decide +kernel) rfl rfl (Nat.le_of_ble_eq_true rfl) dX4_limb_27 (fun H locs hP hD hS => ?_)
      have hP : va_P E.1 vwCl (mW E m0 k0 q0 t0 v0 c0 o0 s0 j0 r0 f0 g0 h0 (nI 1) n K M TT VV CC OO b S J RR w1 w2 w3 w4 SF SM FD) H := hP
      have hD : va_D A (mW E m0 k0 q0 t0 v0 c0 o0 s0 j0 r0 f0 g0 h0 (nI 1) n K M TT VV CC OO b S J RR w1 w2 w3 w4 SF SM FD) := hD
      refine lv_iconst (v := nI 0) hx hb dX4_limb_30 (by decide) ?_
      exact z_reti (by unfold lmA; rw [hfij]; show _ = (if k < 0 ∨ nI 2 < k then 0 else limbF (vw VV j) (M j) k); rw [if_pos (Or.inl c_2)]; rfl) (ret _ _ _ _ (by rw [show lmC n K (nI j) k = nI 1 from by unfold lmC; rw [hfij]; show (if k < 0 ∨ nI 2 < k then nI 1 else nI 0) = _; rw [if_pos (Or.inl c_2)]]; exact hP) hS dX4_limb_31)
    · refine lv_iload_n hx hb dX4_limb_20 rfl (lv_at hl 2 rfl) ?_
      refine lv_iconst (v := nI 2) hx hb dX4_limb_21 (by decide) ?_
      refine lv_icmp_le (tgt := 32) hx hb dX4_limb_22 (by decide) (fun c_3 => ?_) (fun c_3 => ?_)
      · have hkno : ¬ (k < 0 ∨ nI 2 < k) := fun q => q.elim c_2 (nlt_of_le c_3)
        refine lv_lconst (v := 0) hx hb dX4_limb_32 rfl ?_
        refine lv_lstore_n (lv' := [(3, .long 0), (0, .ref m0), (1, .int (nI j)), (2, .int k)]) hx hb dX4_limb_33 rfl hl (by decide) rfl (fun ls hl => ?_)
        refine lv_lconst (v := 0) hx hb dX4_limb_34 rfl ?_
        refine lv_lstore (lv' := [(5, .long 0), (3, .long 0), (0, .ref m0), (1, .int (nI j)), (2, .int k)]) hx hb dX4_limb_35 hl (by decide) rfl (fun ls hl => ?_)
        refine lv_bipush (v := nI 64) hx hb dX4_limb_37 (by decide) ?_
        refine lv_iload_n hx hb dX4_limb_39 rfl (lv_at hl 3 rfl) ?_
        refine zn_imul hx hb dX4_limb_40 ?_
        refine lv_istore (lv' := [(7, .int (nI (64 * j))), (5, .long 0), (3, .long 0), (0, .ref m0), (1, .int (nI j)), (2, .int k)]) hx hb dX4_limb_41 hl (by decide) rfl (fun ls hl => ?_)
        have lp : ∀ (fu : Nat) (i : Nat) (ls : Array Slot) (H : Heap) (locs : List Loc), M j - i < fu → (i ≤ M j) → lv_has ls 8 [(0, .ref m0), (1, .int (nI j)), (2, .int k), (3, .long (lowV (vw VV j) i)), (5, .long (highV (vw VV j) i)), (7, .int (nI (64 * j + i)))] → va_P E.1 vwCl (mW E m0 k0 q0 t0 v0 c0 o0 s0 j0 r0 f0 g0 h0 (nI 0) n K M TT VV CC OO b S J RR w1 w2 w3 w4 SF SM FD) H → va_D A (mW E m0 k0 q0 t0 v0 c0 o0 s0 j0 r0 f0 g0 h0 (nI 0) n K M TT VV CC OO b S J RR w1 w2 w3 w4 SF SM FD) → va_S A s.heap H locs → W p l e R s m args below meth c H locs 0 0 Q (F0 m 43 ls []) := by
          intro fu
          induction fu with
          | zero => intros; exact absurd (by assumption) (Nat.not_lt_zero _)
          | succ fu ihlp =>
            intro i ls H locs hfu hi hl hP hD hS
            refine lv_iload hx hb dX4_limb_43 (lv_at hl 5 rfl) ?_
            refine lv_bipush (v := nI 64) hx hb dX4_limb_45 (by decide) ?_
            refine lv_iload_n hx hb dX4_limb_47 rfl (lv_at hl 1 rfl) ?_
            refine zn_imul hx hb dX4_limb_48 ?_
            refine lv_aload_n hx hb dX4_limb_49 rfl (lv_at hl 0 rfl) ?_
            refine va_get (D := E.1) (ci := 5) (C := RX4) (T := TX4) (N := 19) hx hb hts hiX4 hown hK.1 hP 0 rfl rfl 3 (by decide) hf13 (fun _ h9 => h9) rfl dX4_limb_50 ?_
            refine lv_iload_n hx hb dX4_limb_53 rfl (lv_at hl 1 rfl) ?_
            refine zn_iald hx hb hK.1 hP 2 0 rfl rfl (by omega) (by decide) dX4_limb_54 ?_
            refine zn_iadd hx hb dX4_limb_55 ?_
            refine zn_icmp_ge (tgt := 94) hx hb dX4_limb_56 (by decide) (by omega) (by omega) (fun c_4 => ?_) (fun c_4 => ?_)
            · obtain rfl : i = M j := by omega
              refine lv_lload hx hb dX4_limb_94 (lv_at hl 4 rfl) ?_
              refine lv_lload_n hx hb dX4_limb_96 rfl (lv_at hl 3 rfl) ?_
              refine lv_bipush (v := nI 32) hx hb dX4_limb_97 (by decide) ?_
              refine lv_lshr (v := jshr (lowV (vw VV j) (M j)) (nI 32)) hx hb dX4_limb_99 rfl ?_
              refine lv_ladd hx hb dX4_limb_100 ?_
              refine lv_lstore (lv' := [(5, .long ((highV (vw VV j) (M j)) + (jshr (lowV (vw VV j) (M j)) (nI 32)))), (0, .ref m0), (1, .int (nI j)), (2, .int k), (3, .long (lowV (vw VV j) (M j))), (7, .int (nI (64 * j + (M j))))]) hx hb dX4_limb_101 hl (by decide) rfl (fun ls hl => ?_)
              refine lv_iload_n hx hb dX4_limb_103 rfl (lv_at hl 3 rfl) ?_
              refine lv_if_ne (tgt := 112) hx hb dX4_limb_104 (by decide) (fun c_5 => ?_) (fun c_5 => ?_)
              · refine lv_iload_n hx hb dX4_limb_112 rfl (lv_at hl 3 rfl) ?_
                refine lv_iconst (v := nI 1) hx hb dX4_limb_113 (by decide) ?_
                refine lv_icmp_ne (tgt := 123) hx hb dX4_limb_114 (by decide) (fun c_6 => ?_) (fun c_6 => ?_)
                · refine lv_lload hx hb dX4_limb_123 (lv_at hl 0 rfl) ?_
                  refine lv_bipush (v := nI 32) hx hb dX4_limb_125 (by decide) ?_
                  refine lv_lshr (v := jshr ((highV (vw VV j) (M j)) + (jshr (lowV (vw VV j) (M j)) (nI 32))) (nI 32)) hx hb dX4_limb_127 rfl ?_
                  refine lv_l2i hx hb dX4_limb_128 rfl ?_
                  exact z_reti (by unfold lmA; rw [hfij]; show _ = (if k < 0 ∨ nI 2 < k then 0 else limbF (vw VV j) (M j) k); rw [if_neg hkno]; unfold limbF; rw [if_neg c_5, if_neg c_6]) (ret _ _ _ _ (by rw [show lmC n K (nI j) k = nI 0 from by unfold lmC; rw [hfij]; show (if k < 0 ∨ nI 2 < k then nI 1 else nI 0) = _; rw [if_neg hkno]]; exact hP) hS dX4_limb_129)
                · refine lv_lload hx hb dX4_limb_117 (lv_at hl 0 rfl) ?_
                  refine lv_l2i hx hb dX4_limb_119 rfl ?_
                  refine lv_goto (tgt := 129) hx hb dX4_limb_120 (by decide) ?_
                  exact z_reti (by unfold lmA; rw [hfij]; show _ = (if k < 0 ∨ nI 2 < k then 0 else limbF (vw VV j) (M j) k); rw [if_neg hkno]; unfold limbF; rw [if_neg c_5, if_pos c_6]) (ret _ _ _ _ (by rw [show lmC n K (nI j) k = nI 0 from by unfold lmC; rw [hfij]; show (if k < 0 ∨ nI 2 < k then nI 1 else nI 0) = _; rw [if_neg hkno]]; exact hP) hS dX4_limb_129)
              · refine lv_lload_n hx hb dX4_limb_107 rfl (lv_at hl 4 rfl) ?_
                refine lv_l2i hx hb dX4_limb_108 rfl ?_
                refine lv_goto (tgt := 129) hx hb dX4_limb_109 (by decide) ?_
                exact z_reti (by unfold lmA; rw [hfij]; show _ = (if k < 0 ∨ nI 2 < k then 0 else limbF (vw VV j) (M j) k); rw [if_neg hkno]; unfold limbF; rw [if_pos c_5]) (ret _ _ _ _ (by rw [show lmC n K (nI j) k = nI 0 from by unfold lmC; rw [hfij]; show (if k < 0 ∨ nI 2 < k then nI 1 else nI 0) = _; rw [if_neg hkno]]; exact hP) hS dX4_limb_129)
            · refine lv_lload_n hx hb dX4_limb_59 rfl (lv_at hl 3 rfl) ?_
              refine lv_aload_n hx hb dX4_limb_60 rfl (lv_at hl 0 rfl) ?_
              refine va_get (D := E.1) (ci := 5) (C := RX4) (T := TX4) (N := 19) hx hb hts hiX4 hown hK.1 hP 0 rfl rfl 5 (by decide) hf19 (fun _ h9 => h9) rfl dX4_limb_61 ?_
              refine lv_iload hx hb dX4_limb_64 (lv_at hl 5 rfl) ?_
              refine zn_lald hx hb hK.1 hP 4 1 rfl rfl (by omega) (by decide) dX4_limb_66 ?_
              refine lv_ldc2 (v := 4294967295) hx hb hown (hts (.constantLong RX4 101 (4294967295)) (by decide +kernel)) dX4_limb_67 ?_
              refine lv_land hx hb dX4_limb_70 ?_
              refine lv_ladd hx hb dX4_limb_71 ?_
              refine lv_lstore_n (lv' := [(3, .long ((lowV (vw VV j) i) + ((VV (64 * j + i)) &&& 4294967295))), (0, .ref m0), (1, .int (nI j)), (2, .int k), (5, .long (highV (vw VV j) i)), (7, .int (nI (64 * j + i)))]) hx hb dX4_limb_72 rfl hl (by decide) rfl (fun ls hl => ?_)
              refine lv_lload hx hb dX4_limb_73 (lv_at hl 4 rfl) ?_
              refine lv_aload_n hx hb dX4_limb_75 rfl (lv_at hl 1 rfl) ?_
              refine va_get (D := E.1) (ci := 5) (C := RX4) (T := TX4) (N := 19) hx hb hts hiX4 hown hK.1 hP 0 rfl rfl 5 (by decide) hf19 (fun _ h9 => h9) rfl dX4_limb_76 ?_
              refine lv_iload hx hb dX4_limb_79 (lv_at hl 5 rfl) ?_
              refine zn_lald hx hb hK.1 hP 4 1 rfl rfl (by omega) (by decide) dX4_limb_81 ?_
              refine lv_bipush (v := nI 32) hx hb dX4_limb_82 (by decide) ?_
              refine lv_lshr (v := jshr (VV (64 * j + i)) (nI 32)) hx hb dX4_limb_84 rfl ?_
              refine lv_ladd hx hb dX4_limb_85 ?_
              refine lv_lstore (lv' := [(5, .long ((highV (vw VV j) i) + (jshr (VV (64 * j + i)) (nI 32)))), (3, .long ((lowV (vw VV j) i) + ((VV (64 * j + i)) &&& 4294967295))), (0, .ref m0), (1, .int (nI j)), (2, .int k), (7, .int (nI (64 * j + i)))]) hx hb dX4_limb_86 hl (by decide) rfl (fun ls hl => ?_)
              refine lv_iinc (v := nI (64 * j + i + 1)) (lv' := [(7, .int (nI (64 * j + i + 1))), (5, .long ((highV (vw VV j) i) + (jshr (VV (64 * j + i)) (nI 32)))), (3, .long ((lowV (vw VV j) i) + ((VV (64 * j + i)) &&& 4294967295))), (0, .ref m0), (1, .int (nI j)), (2, .int k)]) hx hb dX4_limb_88 hl (k := 5) rfl (z_inc _ 1) (by decide) rfl (fun ls hl => ?_)
              refine lv_goto (tgt := 43) hx hb dX4_limb_91 (by decide) ?_
              exact ihlp (i + 1) ls _ _ (by omega) (by omega) (lv_sub hl [3, 4, 5, 2, 1, 0] rfl) hP hD hS
        exact lp _ 0 ls _ _ (Nat.lt_succ_self _) (Nat.zero_le _) (lv_sub hl [3, 4, 5, 2, 1, 0] rfl) hP hD hS
      · refine lv_aload_n hx hb dX4_limb_25 rfl (lv_at hl 0 rfl) ?_
        refine lv_iconst (v := nI 1) hx hb dX4_limb_26 (by decide) ?_
        refine va_put (D := E.1) (ci := 5) (v := .int (nI 1)) (ty := .int) (C := RX4) (T := TX4) (N := 19) hx hb hts hiX4 tyX4 tyX4_ok nmX4 hown hK.1 hP hD hS 0 rfl rfl 0 (by decide) hf52 (fun _ h9 => h9) rfl (by decide +kernel) rfl rfl (Nat.le_of_ble_eq_true rfl) dX4_limb_27 (fun H locs hP hD hS => ?_)
        have hP : va_P E.1 vwCl (mW E m0 k0 q0 t0 v0 c0 o0 s0 j0 r0 f0 g0 h0 (nI 1) n K M TT VV CC OO b S J RR w1 w2 w3 w4 SF SM FD) H := hP
        have hD : va_D A (mW E m0 k0 q0 t0 v0 c0 o0 s0 j0 r0 f0 g0 h0 (nI 1) n K M TT VV CC OO b S J RR w1 w2 w3 w4 SF SM FD) := hD
        refine lv_iconst (v := nI 0) hx hb dX4_limb_30 (by decide) ?_
        exact z_reti (by unfold lmA; rw [hfij]; show _ = (if k < 0 ∨ nI 2 < k then 0 else limbF (vw VV j) (M j) k); rw [if_pos (Or.inr (gt_of_nle c_3))]; rfl) (ret _ _ _ _ (by rw [show lmC n K (nI j) k = nI 1 from by unfold lmC; rw [hfij]; show (if k < 0 ∨ nI 2 < k then nI 1 else nI 0) = _; rw [if_pos (Or.inr (gt_of_nle c_3))]]; exact hP) hS dX4_limb_31)
  · have hfij := fk_none c_1
    refine lv_iconst (v := nI 0) hx hb dX4_limb_14 (by decide) ?_
    exact z_reti (by unfold lmA; rw [hfij]; rfl) (ret _ _ _ _ (by rw [show lmC n K f k = nI 0 from by unfold lmC; rw [hfij]; rfl]; exact hP) hS dX4_limb_15)
