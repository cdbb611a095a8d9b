/-! the model: taking rows out, counting them, sums -/
def lkF (T : Nat → Int32) (V : Nat → Int64) (t : Int32) (v : Int64) : Nat → Nat → Option Nat
  | 0, _ => none
  | f + 1, i => if T i = t ∧ V i = v then some i else lkF T V t v f (i + 1)
def lk (T : Nat → Int32) (V : Nat → Int64) (t : Int32) (v : Int64) (n : Nat) : Option Nat := lkF T V t v n 0
theorem lk_end (T : Nat → Int32) (V : Nat → Int64) (t : Int32) (v : Int64) (n : Nat) : lkF T V t v (n - n) n = none := by rw [Nat.sub_self]; rfl
theorem lk_hit {T : Nat → Int32} {V : Nat → Int64} {t : Int32} {v : Int64} {n i : Nat} (h : i < n) (c : T i = t ∧ V i = v) : lkF T V t v (n - i) i = some i := by
  obtain ⟨f, hf⟩ : ∃ f, n - i = f + 1 := ⟨n - i - 1, by omega⟩
  rw [hf]; unfold lkF; rw [if_pos c]
theorem lk_step {T : Nat → Int32} {V : Nat → Int64} {t : Int32} {v : Int64} {n i : Nat} (h : i < n) (c : ¬ (T i = t ∧ V i = v)) : lkF T V t v (n - i) i = lkF T V t v (n - (i + 1)) (i + 1) := by
  obtain ⟨f, hf⟩ : ∃ f, n - i = f + 1 := ⟨n - i - 1, by omega⟩
  rw [hf, show n - (i + 1) = f by omega]; conv => lhs; unfold lkF
  rw [if_neg c]
/-- which row goes: (fold, place) -/
def tkO (n : Nat) (K M : Nat → Nat) (TT : Nat → Int32) (VV : Nat → Int64) (j : Nat) (t : Int32) (v : Int64) : Option (Nat × Nat) := (lk (vw TT j) (vw VV j) t v (M j)).map (fun i => (j, i))
def tkA (M : Nat → Nat) (o : Option (Nat × Nat)) : Int32 := o.elim (-3) (fun q => nI (M q.1 - 1))
def tkM (M : Nat → Nat) (o : Option (Nat × Nat)) : Nat → Nat := o.elim M (fun q => updN M q.1 (M q.1 - 1))
def tkT (M : Nat → Nat) (TT : Nat → Int32) (o : Option (Nat × Nat)) : Nat → Int32 := o.elim TT (fun q => upd TT (64 * q.1 + q.2) (TT (64 * q.1 + (M q.1 - 1))))
def tkV (M : Nat → Nat) (VV : Nat → Int64) (o : Option (Nat × Nat)) : Nat → Int64 := o.elim VV (fun q => vp_updL VV (64 * q.1 + q.2) (VV (64 * q.1 + (M q.1 - 1))))
/-- remove: which row, if the kind is right (r = 1: REAL) -/
def rvO (n : Nat) (K M : Nat → Nat) (TT : Nat → Int32) (VV : Nat → Int64) (r : Nat) (f t : Int32) (v : Int64) : Option (Nat × Nat) := (fidx n f).elim none (fun j => if (if K j = 1 then 1 else 0) = r then tkO n K M TT VV j t v else none)
def rvA (n : Nat) (K M : Nat → Nat) (TT : Nat → Int32) (VV : Nat → Int64) (r : Nat) (f t : Int32) (v : Int64) : Int32 := (fidx n f).elim (-1) (fun j => if (if K j = 1 then 1 else 0) = r then tkA M (tkO n K M TT VV j t v) else (-3))
def cntR (T : Nat → Int32) (V : Nat → Int64) (t : Int32) (v : Int64) : Nat → Nat
  | 0 => 0
  | i + 1 => cntR T V t v i + (if T i = t ∧ V i = v then 1 else 0)
theorem cntR_le (T : Nat → Int32) (V : Nat → Int64) (t : Int32) (v : Int64) (i : Nat) : cntR T V t v i ≤ i := by
  induction i with
  | zero => exact Nat.le_refl _
  | succ i ih => unfold cntR; split <;> omega
def smM (TT : Nat → Int32) (VV : Nat → Int64) (M : Nat → Nat) (j g : Nat) : Nat → Bool
  | 0 => true
  | i + 1 => smM TT VV M j g i && decide (cntR (vw TT j) (vw VV j) (vw TT j i) (vw VV j i) (M j) = cntR (vw TT g) (vw VV g) (vw TT j i) (vw VV j i) (M g))
def mSame (n : Nat) (K M : Nat → Nat) (TT : Nat → Int32) (VV : Nat → Int64) (f g : Int32) : Bool := (fidx n f).elim false (fun i => (fidx n g).elim false (fun j => decide (K i = K j) && (decide (M i = M j) && smM TT VV M i j (M i))))
def lmA (n : Nat) (K M : Nat → Nat) (V : Nat → Nat → Int64) (f k : Int32) : Int32 := (fok n K f 0).elim 0 (fun j => if k < 0 ∨ nI 2 < k then 0 else limbF (V j) (M j) k)
def lmC (n : Nat) (K : Nat → Nat) (f k : Int32) : Int32 := (fok n K f 0).elim (nI 0) (fun _ => if k < 0 ∨ nI 2 < k then nI 1 else nI 0)
set_option maxHeartbeats 4000000 in
set_option maxRecDepth 100000 in
theorem kX4_take (l : Launch) (E : zE) (sz : Nat) (m0 k0 q0 t0 v0 c0 o0 s0 j0 r0 f0 g0 h0 : Nat) (cd : Int32) (n : Nat) (K M : Nat → Nat) (TT : Nat → Int32) (VV CC : Nat → Int64) (OO : Nat → Nat) (b : Nat) (S J : Nat → Nat) (RR : Nat → Bool) (w1 w2 w3 w4 : Int32) (SF SM FD : Nat → Nat) (hn : n ≤ 12) (hM : ∀ j, j < n → M j ≤ 64) (j : Nat) (hjj : j < n) (t : Int32) (v : Int64) : Met l yX4_take wsX4_take (rmL 0) (va_Pc [.ref m0, .int (nI j), .int t, .long v] (zS E (mW E m0 k0 q0 t0 v0 c0 o0 s0 j0 r0 f0 g0 h0 cd n K M TT VV CC OO b S J RR w1 w2 w3 w4 SF SM FD) sz)) (va_Qi (fun (r9 : Int32) (_ : Unit) => r9 = tkA M (tkO n K M TT VV j t v)) (fun _ t9 => zW E (mW E m0 k0 q0 t0 v0 c0 o0 s0 j0 r0 f0 g0 h0 cd n K (tkM M (tkO n K M TT VV j t v)) (tkT M TT (tkO n K M TT VV j t v)) (tkV M VV (tkO n K M TT VV j t v)) CC OO b S J RR w1 w2 w3 w4 SF SM FD) t9) (va_A (mW E m0 k0 q0 t0 v0 c0 o0 s0 j0 r0 f0 g0 h0 cd n K M TT VV CC OO b S J RR w1 w2 w3 w4 SF SM FD) sz)) 0 0 (va_A (mW E m0 k0 q0 t0 v0 c0 o0 s0 j0 r0 f0 g0 h0 cd n K M TT VV CC OO b S J RR w1 w2 w3 w4 SF SM FD) sz) := by
  refine z_ofWi (cc := cX4_take) (maxL := 6) (own := RX4) (by decide) rfl rfl (Nat.le_of_ble_eq_true rfl) ?_
  intro p e s m args below meth c R Q A B hP hD hA ret ls hl
  obtain ⟨hx, hb, hml, hown, hts, hK, hRf, hRl⟩ := B
  have hiX4 : ∀ w ∈ wsX40, w ∈ wsX4_take := by decide +kernel
  have hf13 := hts (.fieldLink RX4 13 "ExactFoldsModel" "many" "[I") (by decide +kernel)
  have hf16 := hts (.fieldLink RX4 16 "ExactFoldsModel" "times" "[I") (by decide +kernel)
  have hf19 := hts (.fieldLink RX4 19 "ExactFoldsModel" "values" "[J") (by decide +kernel)
  have hS : va_S A s.heap s.heap [] := va_S.rf
  have hl : lv_has ls 6 [(0, .ref m0), (1, .int (nI j)), (2, .int t), (3, .long v)] := hl
  have hMj := hM j hjj
  refine lv_bipush (v := nI 64) hx hb dX4_take_0 (by decide) ?_
  refine lv_iload_n hx hb dX4_take_2 rfl (lv_at hl 1 rfl) ?_
  refine zn_imul hx hb dX4_take_3 ?_
  refine lv_istore (lv' := [(5, .int (nI (64 * j))), (0, .ref m0), (1, .int (nI j)), (2, .int t), (3, .long v)]) hx hb dX4_take_4 hl (by decide) rfl (fun ls hl => ?_)
  have lp : ∀ (fu : Nat) (i : Nat) (ls : Array Slot) (H : Heap) (locs : List Loc), M j - i < fu → (i ≤ M j) → (lkF (vw TT j) (vw VV j) t v (M j - i) i = lk (vw TT j) (vw VV j) t v (M j)) → lv_has ls 6 [(0, .ref m0), (1, .int (nI j)), (2, .int t), (3, .long v), (5, .int (nI (64 * j + i)))] → va_P E.1 vwCl (mW E m0 k0 q0 t0 v0 c0 o0 s0 j0 r0 f0 g0 h0 cd n K M TT VV CC OO b S J RR w1 w2 w3 w4 SF SM FD) H → va_D A (mW E m0 k0 q0 t0 v0 c0 o0 s0 j0 r0 f0 g0 h0 cd n K M TT VV CC OO b S J RR w1 w2 w3 w4 SF SM FD) → va_S A s.heap H locs → W p l e R s m args below meth c H locs 0 0 Q (F0 m 6 ls []) := by
    intro fu
    induction fu with
    | zero => intros; exact absurd (by assumption) (Nat.not_lt_zero _)
    | succ fu ihlp =>
      intro i ls H locs hfu hi hq hl hP hD hS
      refine lv_iload hx hb dX4_take_6 (lv_at hl 4 rfl) ?_
      refine lv_bipush (v := nI 64) hx hb dX4_take_8 (by decide) ?_
      refine lv_iload_n hx hb dX4_take_10 rfl (lv_at hl 1 rfl) ?_
      refine zn_imul hx hb dX4_take_11 ?_
      refine lv_aload_n hx hb dX4_take_12 rfl (lv_at hl 0 rfl) ?_
      refine va_get (D := E.1) (ci := 5) (C := RX4) (T := TX4) (N := 19) hx hb hts hiX4 hown hK.1 hP 0 rfl rfl 3 (by decide) hf13 (fun _ h9 => h9) rfl dX4_take_13 ?_
      refine lv_iload_n hx hb dX4_take_16 rfl (lv_at hl 1 rfl) ?_
      refine zn_iald hx hb hK.1 hP 2 0 rfl rfl (by omega) (by decide) dX4_take_17 ?_
      refine zn_iadd hx hb dX4_take_18 ?_
      refine zn_icmp_ge (tgt := 114) hx hb dX4_take_19 (by decide) (by omega) (by omega) (fun c_1 => ?_) (fun c_1 => ?_)
      · obtain rfl : i = M j := by omega
        have ho : tkO n K M TT VV j t v = none := by unfold tkO; rw [← hq, lk_end]; rfl
        refine lv_bipush (v := (-3)) hx hb dX4_take_114 (by decide) ?_
        exact z_reti (by rw [ho]; rfl) (ret _ _ _ _ (by rw [ho]; exact hP) hS dX4_take_116)
      · refine lv_aload_n hx hb dX4_take_22 rfl (lv_at hl 0 rfl) ?_
        refine va_get (D := E.1) (ci := 5) (C := RX4) (T := TX4) (N := 19) hx hb hts hiX4 hown hK.1 hP 0 rfl rfl 4 (by decide) hf16 (fun _ h9 => h9) rfl dX4_take_23 ?_
        refine lv_iload hx hb dX4_take_26 (lv_at hl 4 rfl) ?_
        refine zn_iald hx hb hK.1 hP 3 0 rfl rfl (by omega) (by decide) dX4_take_28 ?_
        refine lv_iload_n hx hb dX4_take_29 rfl (lv_at hl 2 rfl) ?_
        refine lv_icmp_ne (tgt := 108) hx hb dX4_take_30 (by decide) (fun c_2 => ?_) (fun c_2 => ?_)
        · have hq2 : lkF (vw TT j) (vw VV j) t v (M j - (i + 1)) (i + 1) = lk (vw TT j) (vw VV j) t v (M j) := by rw [← lk_step (by omega) (fun q => c_2 q.1)]; exact hq
          refine lv_iinc (v := nI (64 * j + i + 1)) (lv' := [(5, .int (nI (64 * j + i + 1))), (0, .ref m0), (1, .int (nI j)), (2, .int t), (3, .long v)]) hx hb dX4_take_108 hl (k := 4) rfl (z_inc _ 1) (by decide) rfl (fun ls hl => ?_)
          refine lv_goto (tgt := 6) hx hb dX4_take_111 (by decide) ?_
          exact ihlp (i + 1) ls _ _ (by omega) (by omega) (hq2) (lv_sub hl [1, 2, 3, 4, 0] rfl) hP hD hS
        · refine lv_aload_n hx hb dX4_take_33 rfl (lv_at hl 0 rfl) ?_
          refine va_get (D := E.1) (ci := 5) (C := RX4) (T := TX4) (N := 19) hx hb hts hiX4 hown hK.1 hP 0 rfl rfl 5 (by decide) hf19 (fun _ h9 => h9) rfl dX4_take_34 ?_
          refine lv_iload hx hb dX4_take_37 (lv_at hl 4 rfl) ?_
          refine zn_lald hx hb hK.1 hP 4 1 rfl rfl (by omega) (by decide) dX4_take_39 ?_
          refine lv_lload_n hx hb dX4_take_40 rfl (lv_at hl 3 rfl) ?_
          refine zl_ne (tgt := 108) hx hb dX4_take_41 dX4_take_42 (by decide) (fun c_3 => ?_) (fun c_3 => ?_)
          · have hq2 : lkF (vw TT j) (vw VV j) t v (M j - (i + 1)) (i + 1) = lk (vw TT j) (vw VV j) t v (M j) := by rw [← lk_step (by omega) (fun q => c_3 q.2)]; exact hq
            refine lv_iinc (v := nI (64 * j + i + 1)) (lv' := [(5, .int (nI (64 * j + i + 1))), (0, .ref m0), (1, .int (nI j)), (2, .int t), (3, .long v)]) hx hb dX4_take_108 hl (k := 4) rfl (z_inc _ 1) (by decide) rfl (fun ls hl => ?_)
            refine lv_goto (tgt := 6) hx hb dX4_take_111 (by decide) ?_
            exact ihlp (i + 1) ls _ _ (by omega) (by omega) (hq2) (lv_sub hl [1, 2, 3, 4, 0] rfl) hP hD hS
          · have ho : tkO n K M TT VV j t v = some (j, i) := by unfold tkO; rw [← hq, lk_hit (by omega) ⟨c_2, c_3⟩]; rfl
            have hup : updN M j (M j - 1) j = M j - 1 := updN_self _ _ _
            refine lv_aload_n hx hb dX4_take_45 rfl (lv_at hl 0 rfl) ?_
            refine va_get (D := E.1) (ci := 5) (C := RX4) (T := TX4) (N := 19) hx hb hts hiX4 hown hK.1 hP 0 rfl rfl 3 (by decide) hf13 (fun _ h9 => h9) rfl dX4_take_46 ?_
            refine lv_iload_n hx hb dX4_take_49 rfl (lv_at hl 1 rfl) ?_
            refine lv_dup2_11 hx hb dX4_take_50 rfl rfl ?_
            refine zn_iald hx hb hK.1 hP 2 0 rfl rfl (by omega) (by decide) dX4_take_51 ?_
            refine lv_iconst (v := nI 1) hx hb dX4_take_52 (by decide) ?_
            refine zn_isub hx hb (by omega) dX4_take_53 ?_
            refine zn_iast hx hb hK.1 hP hD hS 2 0 rfl rfl (by omega) (by decide) dX4_take_54 (fun H locs hP hD hS => ?_)
            have hP : va_P E.1 vwCl [(m0, .inr (5, [.int cd, .int (nI n), .ref k0, .ref q0, .ref t0, .ref v0, .ref c0, .ref o0, .int (nI b), .ref s0, .ref j0, .ref r0, .int w1, .int w2, .int w3, .int w4, .ref f0, .ref g0, .ref h0])), (k0, .inl (E.2.1, 12, .inl (fun i9 => nI (K i9)))), (q0, .inl (E.2.1, 12, .inl (fun i9 => nI ((updN M j ((M j) - 1)) i9)))), (t0, .inl (E.2.1, 768, .inl TT)), (v0, .inl (E.2.2.1, 768, .inr (.inl VV))), (c0, .inl (E.2.2.1, 70, .inr (.inl CC))), (o0, .inl (E.2.1, 64, .inl (fun i9 => nI (OO i9)))), (s0, .inl (E.2.1, 32, .inl (fun i9 => nI (S i9)))), (j0, .inl (E.2.1, 64, .inl (fun i9 => nI (J i9)))), (r0, .inl (E.2.2.2.1, 8, .inl (fun i9 => bI (RR i9)))), (f0, .inl (E.2.1, 140, .inl (fun i9 => nI (SF i9)))), (g0, .inl (E.2.1, 140, .inl (fun i9 => nI (SM i9)))), (h0, .inl (E.2.1, 140, .inl (fun i9 => nI (FD i9))))] H := by rw [upd_nI] at hP; exact hP
            have hD : va_D A [(m0, .inr (5, [.int cd, .int (nI n), .ref k0, .ref q0, .ref t0, .ref v0, .ref c0, .ref o0, .int (nI b), .ref s0, .ref j0, .ref r0, .int w1, .int w2, .int w3, .int w4, .ref f0, .ref g0, .ref h0])), (k0, .inl (E.2.1, 12, .inl (fun i9 => nI (K i9)))), (q0, .inl (E.2.1, 12, .inl (fun i9 => nI ((updN M j ((M j) - 1)) i9)))), (t0, .inl (E.2.1, 768, .inl TT)), (v0, .inl (E.2.2.1, 768, .inr (.inl VV))), (c0, .inl (E.2.2.1, 70, .inr (.inl CC))), (o0, .inl (E.2.1, 64, .inl (fun i9 => nI (OO i9)))), (s0, .inl (E.2.1, 32, .inl (fun i9 => nI (S i9)))), (j0, .inl (E.2.1, 64, .inl (fun i9 => nI (J i9)))), (r0, .inl (E.2.2.2.1, 8, .inl (fun i9 => bI (RR i9)))), (f0, .inl (E.2.1, 140, .inl (fun i9 => nI (SF i9)))), (g0, .inl (E.2.1, 140, .inl (fun i9 => nI (SM i9)))), (h0, .inl (E.2.1, 140, .inl (fun i9 => nI (FD i9))))] := by rw [upd_nI] at hD; exact hD
            refine lv_aload_n hx hb dX4_take_55 rfl (lv_at hl 0 rfl) ?_
            refine va_get (D := E.1) (ci := 5) (C := RX4) (T := TX4) (N := 19) hx hb hts hiX4 hown hK.1 hP 0 rfl rfl 4 (by decide) hf16 (fun _ h9 => h9) rfl dX4_take_56 ?_
            refine lv_iload hx hb dX4_take_59 (lv_at hl 4 rfl) ?_
            refine lv_aload_n hx hb dX4_take_61 rfl (lv_at hl 0 rfl) ?_
            refine va_get (D := E.1) (ci := 5) (C := RX4) (T := TX4) (N := 19) hx hb hts hiX4 hown hK.1 hP 0 rfl rfl 4 (by decide) hf16 (fun _ h9 => h9) rfl dX4_take_62 ?_
            refine lv_bipush (v := nI 64) hx hb dX4_take_65 (by decide) ?_
            refine lv_iload_n hx hb dX4_take_67 rfl (lv_at hl 1 rfl) ?_
            refine zn_imul hx hb dX4_take_68 ?_
            refine lv_aload_n hx hb dX4_take_69 rfl (lv_at hl 0 rfl) ?_
            refine va_get (D := E.1) (ci := 5) (C := RX4) (T := TX4) (N := 19) hx hb hts hiX4 hown hK.1 hP 0 rfl rfl 3 (by decide) hf13 (fun _ h9 => h9) rfl dX4_take_70 ?_
            refine lv_iload_n hx hb dX4_take_73 rfl (lv_at hl 1 rfl) ?_
            refine zn_iald hx hb hK.1 hP 2 0 rfl rfl (by omega) (by decide) dX4_take_74 ?_
            refine zn_iadd hx hb dX4_take_75 ?_
            refine zn_iald hx hb hK.1 hP 3 0 rfl rfl (by rw [hup]; omega) (by decide) dX4_take_76 ?_
            refine zn_iast hx hb hK.1 hP hD hS 3 0 rfl rfl (by omega) (by decide) dX4_take_77 (fun H locs hP hD hS => ?_)
            have hP : va_P E.1 vwCl [(m0, .inr (5, [.int cd, .int (nI n), .ref k0, .ref q0, .ref t0, .ref v0, .ref c0, .ref o0, .int (nI b), .ref s0, .ref j0, .ref r0, .int w1, .int w2, .int w3, .int w4, .ref f0, .ref g0, .ref h0])), (k0, .inl (E.2.1, 12, .inl (fun i9 => nI (K i9)))), (q0, .inl (E.2.1, 12, .inl (fun i9 => nI ((updN M j ((M j) - 1)) i9)))), (t0, .inl (E.2.1, 768, .inl (upd TT (64 * j + i) (TT ((64 * j) + ((updN M j ((M j) - 1)) j)))))), (v0, .inl (E.2.2.1, 768, .inr (.inl VV))), (c0, .inl (E.2.2.1, 70, .inr (.inl CC))), (o0, .inl (E.2.1, 64, .inl (fun i9 => nI (OO i9)))), (s0, .inl (E.2.1, 32, .inl (fun i9 => nI (S i9)))), (j0, .inl (E.2.1, 64, .inl (fun i9 => nI (J i9)))), (r0, .inl (E.2.2.2.1, 8, .inl (fun i9 => bI (RR i9)))), (f0, .inl (E.2.1, 140, .inl (fun i9 => nI (SF i9)))), (g0, .inl (E.2.1, 140, .inl (fun i9 => nI (SM i9)))), (h0, .inl (E.2.1, 140, .inl (fun i9 => nI (FD i9))))] H := hP
            have hD : va_D A [(m0, .inr (5, [.int cd, .int (nI n), .ref k0, .ref q0, .ref t0, .ref v0, .ref c0, .ref o0, .int (nI b), .ref s0, .ref j0, .ref r0, .int w1, .int w2, .int w3, .int w4, .ref f0, .ref g0, .ref h0])), (k0, .inl (E.2.1, 12, .inl (fun i9 => nI (K i9)))), (q0, .inl (E.2.1, 12, .inl (fun i9 => nI ((updN M j ((M j) - 1)) i9)))), (t0, .inl (E.2.1, 768, .inl (upd TT (64 * j + i) (TT ((64 * j) + ((updN M j ((M j) - 1)) j)))))), (v0, .inl (E.2.2.1, 768, .inr (.inl VV))), (c0, .inl (E.2.2.1, 70, .inr (.inl CC))), (o0, .inl (E.2.1, 64, .inl (fun i9 => nI (OO i9)))), (s0, .inl (E.2.1, 32, .inl (fun i9 => nI (S i9)))), (j0, .inl (E.2.1, 64, .inl (fun i9 => nI (J i9)))), (r0, .inl (E.2.2.2.1, 8, .inl (fun i9 => bI (RR i9)))), (f0, .inl (E.2.1, 140, .inl (fun i9 => nI (SF i9)))), (g0, .inl (E.2.1, 140, .inl (fun i9 => nI (SM i9)))), (h0, .inl (E.2.1, 140, .inl (fun i9 => nI (FD i9))))] := hD
            refine lv_aload_n hx hb dX4_take_78 rfl (lv_at hl 0 rfl) ?_
            refine va_get (D := E.1) (ci := 5) (C := RX4) (T := TX4) (N := 19) hx hb hts hiX4 hown hK.1 hP 0 rfl rfl 5 (by decide) hf19 (fun _ h9 => h9) rfl dX4_take_79 ?_
            refine lv_iload hx hb dX4_take_82 (lv_at hl 4 rfl) ?_
            refine lv_aload_n hx hb dX4_take_84 rfl (lv_at hl 0 rfl) ?_
            refine va_get (D := E.1) (ci := 5) (C := RX4) (T := TX4) (N := 19) hx hb hts hiX4 hown hK.1 hP 0 rfl rfl 5 (by decide) hf19 (fun _ h9 => h9) rfl dX4_take_85 ?_
            refine lv_bipush (v := nI 64) hx hb dX4_take_88 (by decide) ?_
            refine lv_iload_n hx hb dX4_take_90 rfl (lv_at hl 1 rfl) ?_
            refine zn_imul hx hb dX4_take_91 ?_
            refine lv_aload_n hx hb dX4_take_92 rfl (lv_at hl 0 rfl) ?_
            refine va_get (D := E.1) (ci := 5) (C := RX4) (T := TX4) (N := 19) hx hb hts hiX4 hown hK.1 hP 0 rfl rfl 3 (by decide) hf13 (fun _ h9 => h9) rfl dX4_take_93 ?_
            refine lv_iload_n hx hb dX4_take_96 rfl (lv_at hl 1 rfl) ?_
            refine zn_iald hx hb hK.1 hP 2 0 rfl rfl (by omega) (by decide) dX4_take_97 ?_
            refine zn_iadd hx hb dX4_take_98 ?_
            refine zn_lald hx hb hK.1 hP 4 1 rfl rfl (by rw [hup]; omega) (by decide) dX4_take_99 ?_
            refine zn_last hx hb hK.1 hP hD hS 4 1 rfl rfl (by omega) (by decide) dX4_take_100 (fun H locs hP hD hS => ?_)
            have hP : va_P E.1 vwCl [(m0, .inr (5, [.int cd, .int (nI n), .ref k0, .ref q0, .ref t0, .ref v0, .ref c0, .ref o0, .int (nI b), .ref s0, .ref j0, .ref r0, .int w1, .int w2, .int w3, .int w4, .ref f0, .ref g0, .ref h0])), (k0, .inl (E.2.1, 12, .inl (fun i9 => nI (K i9)))), (q0, .inl (E.2.1, 12, .inl (fun i9 => nI ((updN M j ((M j) - 1)) i9)))), (t0, .inl (E.2.1, 768, .inl (upd TT (64 * j + i) (TT ((64 * j) + ((updN M j ((M j) - 1)) j)))))), (v0, .inl (E.2.2.1, 768, .inr (.inl (vp_updL VV (64 * j + i) (VV ((64 * j) + ((updN M j ((M j) - 1)) j))))))), (c0, .inl (E.2.2.1, 70, .inr (.inl CC))), (o0, .inl (E.2.1, 64, .inl (fun i9 => nI (OO i9)))), (s0, .inl (E.2.1, 32, .inl (fun i9 => nI (S i9)))), (j0, .inl (E.2.1, 64, .inl (fun i9 => nI (J i9)))), (r0, .inl (E.2.2.2.1, 8, .inl (fun i9 => bI (RR i9)))), (f0, .inl (E.2.1, 140, .inl (fun i9 => nI (SF i9)))), (g0, .inl (E.2.1, 140, .inl (fun i9 => nI (SM i9)))), (h0, .inl (E.2.1, 140, .inl (fun i9 => nI (FD i9))))] H := hP
            have hD : va_D A [(m0, .inr (5, [.int cd, .int (nI n), .ref k0, .ref q0, .ref t0, .ref v0, .ref c0, .ref o0, .int (nI b), .ref s0, .ref j0, .ref r0, .int w1, .int w2, .int w3, .int w4, .ref f0, .ref g0, .ref h0])), (k0, .inl (E.2.1, 12, .inl (fun i9 => nI (K i9)))), (q0, .inl (E.2.1, 12, .inl (fun i9 => nI ((updN M j ((M j) - 1)) i9)))), (t0, .inl (E.2.1, 768, .inl (upd TT (64 * j + i) (TT ((64 * j) + ((updN M j ((M j) - 1)) j)))))), (v0, .inl (E.2.2.1, 768, .inr (.inl (vp_updL VV (64 * j + i) (VV ((64 * j) + ((updN M j ((M j) - 1)) j))))))), (c0, .inl (E.2.2.1, 70, .inr (.inl CC))), (o0, .inl (E.2.1, 64, .inl (fun i9 => nI (OO i9)))), (s0, .inl (E.2.1, 32, .inl (fun i9 => nI (S i9)))), (j0, .inl (E.2.1, 64, .inl (fun i9 => nI (J i9)))), (r0, .inl (E.2.2.2.1, 8, .inl (fun i9 => bI (RR i9)))), (f0, .inl (E.2.1, 140, .inl (fun i9 => nI (SF i9)))), (g0, .inl (E.2.1, 140, .inl (fun i9 => nI (SM i9)))), (h0, .inl (E.2.1, 140, .inl (fun i9 => nI (FD i9))))] := hD
            refine lv_aload_n hx hb dX4_take_101 rfl (lv_at hl 0 rfl) ?_
            refine va_get (D := E.1) (ci := 5) (C := RX4) (T := TX4) (N := 19) hx hb hts hiX4 hown hK.1 hP 0 rfl rfl 3 (by decide) hf13 (fun _ h9 => h9) rfl dX4_take_102 ?_
            refine lv_iload_n hx hb dX4_take_105 rfl (lv_at hl 1 rfl) ?_
            refine zn_iald hx hb hK.1 hP 2 0 rfl rfl (by omega) (by decide) dX4_take_106 ?_
            exact z_reti (by rw [ho, hup]; rfl) (ret _ _ _ _ (by rw [ho]; rw [hup] at hP; exact hP) hS dX4_take_107)
  exact lp _ 0 ls _ _ (Nat.lt_succ_self _) (Nat.zero_le _) (rfl) (lv_sub hl [1, 2, 3, 4, 0] rfl) hP hD hS
