/-! the model: the least and greatest, unlike values, the order of rows, the tables -/
def bsM (e : Int32) (V : Nat → Int64) : Nat → Int64
  | 0 => V 0
  | i + 1 => if e = 0 then (if V i < bsM e V i then V i else bsM e V i) else (if bsM e V i < V i then V i else bsM e V i)
def lsA (n : Nat) (K M : Nat → Nat) (V : Nat → Nat → Int64) (f w : Int32) : Int64 := (fok n K f 3).elim (-9223372036854775808) (fun j => if w < 0 ∨ nI 1 < w ∨ M j = 0 then (-9223372036854775808) else bsM w (V j) (M j))
def frM (V : Nat → Int64) (p : Nat) : Nat → Bool
  | 0 => true
  | k + 1 => frM V p k && decide (¬ V k = V p)
theorem frM_iff (V : Nat → Int64) (p k : Nat) : frM V p k = true ↔ ∀ a, a < k → ¬ V a = V p := by
  induction k with
  | zero => exact ⟨fun _ a h => absurd h (by omega), fun _ => rfl⟩
  | succ k ih =>
    unfold frM
    rw [Bool.and_eq_true, ih, decide_eq_true_eq]
    exact ⟨fun h a ha => by
      by_cases e : a = k
      · subst e; exact h.2
      · exact h.1 a (by omega), fun h => ⟨fun a ha => h a (by omega), h k (by omega)⟩⟩
theorem fstF_iff (V : Nat → Int64) (p f i : Nat) : fstF V p f i = true ↔ ∀ a, i ≤ a → a < i + f → ¬ V a = V p := by
  induction f generalizing i with
  | zero => exact ⟨fun _ a h1 h2 => absurd h2 (by omega), fun _ => rfl⟩
  | succ f ih =>
    unfold fstF
    by_cases c : V i = V p
    · rw [if_pos c]
      exact ⟨fun h => (by cases h), fun h => absurd c (h i (by omega) (by omega))⟩
    · rw [if_neg c, ih]
      exact ⟨fun h a h1 h2 => by
        by_cases e : a = i
        · subst e; exact c
        · exact h a (by omega) (by omega), fun h a h1 h2 => h a (by omega) (by omega)⟩
theorem frM_fst (V : Nat → Int64) (p : Nat) : frM V p p = isFst V p := by
  have h1 := frM_iff V p p
  have h2 := fstF_iff V p p 0
  unfold isFst
  cases a : frM V p p <;> cases b : fstF V p p 0
  · rfl
  · rw [a] at h1; rw [b] at h2
    exact absurd (h1.mpr (fun x hx => h2.mp rfl x (by omega) (by omega))) (by decide)
  · rw [a] at h1; rw [b] at h2
    exact absurd (h2.mpr (fun x _ hx => h1.mp rfl x (by omega))) (by decide)
  · rfl
def ahd (TT : Nat → Int32) (VV : Nat → Int64) (a b : Nat) : Bool := decide (TT a < TT b ∨ (TT a = TT b ∧ VV a < VV b))
/-- where a row comes to stand among k that are laid: behind all that are not behind it -/
def laP (ah : Nat → Bool) : Nat → Nat
  | 0 => 0
  | k + 1 => if ah k = true then laP ah k else k + 1
theorem laP_hit {ah : Nat → Bool} {k : Nat} (h0 : 0 < k) (h : ah (k - 1) = true) : laP ah k = laP ah (k - 1) := by
  obtain ⟨k2, rfl⟩ : ∃ k2, k = k2 + 1 := ⟨k - 1, by omega⟩
  show (if ah k2 = true then laP ah k2 else k2 + 1) = laP ah k2
  rw [if_pos (show ah k2 = true from h)]
theorem laP_no {ah : Nat → Bool} {k : Nat} (h0 : 0 < k) (h : ¬ ah (k - 1) = true) : laP ah k = k := by
  obtain ⟨k2, rfl⟩ : ∃ k2, k = k2 + 1 := ⟨k - 1, by omega⟩
  show (if ah k2 = true then laP ah k2 else k2 + 1) = k2 + 1
  rw [if_neg (show ¬ ah k2 = true from h)]
theorem laP_le (ah : Nat → Bool) (k : Nat) : laP ah k ≤ k := by
  induction k with
  | zero => exact Nat.le_refl _
  | succ k ih => unfold laP; split <;> omega
def layO (TT : Nat → Int32) (VV : Nat → Int64) (OO : Nat → Nat) (j : Nat) : Nat → (Nat → Nat)
  | 0 => OO
  | i + 1 => insT (layO TT VV OO j i) (laP (fun k => ahd TT VV (64 * j + i) (layO TT VV OO j i k)) i) i (64 * j + i)
theorem layO_in (TT : Nat → Int32) (VV : Nat → Int64) (OO : Nat → Nat) (j i : Nat) : ∀ k, k < i → 64 * j ≤ layO TT VV OO j i k ∧ layO TT VV OO j i k < 64 * j + i := by
  induction i with
  | zero => intro k h; omega
  | succ i ih =>
    intro k hk
    unfold layO insT
    have hp := laP_le (fun k => ahd TT VV (64 * j + i) (layO TT VV OO j i k)) i
    split
    · have := ih k (by omega); omega
    · split
      · omega
      · rw [if_pos (by omega)]
        have := ih (k - 1) (by omega); omega
/-- the rows of fold j in order: the value of the k-th -/
def ordV (TT : Nat → Int32) (VV : Nat → Int64) (OO : Nat → Nat) (j m : Nat) : Nat → Int64 := fun k => VV (layO TT VV OO j m k)
def itA (n : Nat) (K M : Nat → Nat) (TT : Nat → Int32) (VV : Nat → Int64) (OO : Nat → Nat) (f k : Int32) : Int64 := (fidx n f).elim (-9223372036854775808) (fun j => if K j = 1 then (-9223372036854775808) else (fidx (M j) k).elim (-9223372036854775808) (fun i => ordV TT VV OO j (M j) i))
def itO (n : Nat) (K M : Nat → Nat) (TT : Nat → Int32) (VV : Nat → Int64) (OO : Nat → Nat) (f k : Int32) : Nat → Nat := (fidx n f).elim OO (fun j => if K j = 1 then OO else (fidx (M j) k).elim OO (fun _ => layO TT VV OO j (M j)))
def smA (n : Nat) (K M : Nat → Nat) (TT : Nat → Int32) (VV : Nat → Int64) (OO : Nat → Nat) (b : Nat) (S : Nat → Nat) (f : Int32) : Int32 := (fidx n f).elim (-1) (fun j => if K j = 4 then nI (stF S b (ordV TT VV OO j (M j)) (M j)) else (-3))
def smO (n : Nat) (K M : Nat → Nat) (TT : Nat → Int32) (VV : Nat → Int64) (OO : Nat → Nat) (f : Int32) : Nat → Nat := (fidx n f).elim OO (fun j => if K j = 4 then layO TT VV OO j (M j) else OO)
set_option maxHeartbeats 4000000 in
set_option maxRecDepth 100000 in
theorem kX4_least (l : Launch) (E : zE) (sz : Nat) (m0 k0 q0 t0 v0 c0 o0 s0 j0 r0 f0 g0 h0 : Nat) (cd : Int32) (n : Nat) (K M : Nat → Nat) (TT : Nat → Int32) (VV CC : Nat → Int64) (OO : Nat → Nat) (b : Nat) (S J : Nat → Nat) (RR : Nat → Bool) (w1 w2 w3 w4 : Int32) (SF SM FD : Nat → Nat) (hn : n ≤ 12) (hM : ∀ j, j < n → M j ≤ 64) (hK5 : ∀ j, j < n → K j < 5) (f w : Int32) : Met l yX4_least wsX4_least (rmL 2) (va_Pc [.ref m0, .int f, .int w] (zS E (mW E m0 k0 q0 t0 v0 c0 o0 s0 j0 r0 f0 g0 h0 cd n K M TT VV CC OO b S J RR w1 w2 w3 w4 SF SM FD) sz)) (va_Ql (fun (r9 : Int64) (_ : Unit) => r9 = lsA n K M (vw VV) f w) (fun _ t9 => zW E (mW E m0 k0 q0 t0 v0 c0 o0 s0 j0 r0 f0 g0 h0 (nI 0) n K M TT VV CC OO b S J RR w1 w2 w3 w4 SF SM FD) t9) (va_A (mW E m0 k0 q0 t0 v0 c0 o0 s0 j0 r0 f0 g0 h0 cd n K M TT VV CC OO b S J RR w1 w2 w3 w4 SF SM FD) sz)) 0 0 (va_A (mW E m0 k0 q0 t0 v0 c0 o0 s0 j0 r0 f0 g0 h0 cd n K M TT VV CC OO b S J RR w1 w2 w3 w4 SF SM FD) sz) := by
  refine z_ofWl (cc := cX4_least) (maxL := 6) (own := RX4) (by decide) rfl rfl (Nat.le_of_ble_eq_true rfl) ?_
  intro p e s m args below meth c R Q A B hP hD hA ret ls hl
  obtain ⟨hx, hb, hml, hown, hts, hK, hRf, hRl⟩ := B
  have hiX4 : ∀ w ∈ wsX40, w ∈ wsX4_least := by decide +kernel
  have hf13 := hts (.fieldLink RX4 13 "ExactFoldsModel" "many" "[I") (by decide +kernel)
  have hf19 := hts (.fieldLink RX4 19 "ExactFoldsModel" "values" "[J") (by decide +kernel)
  have hf52 := hts (.fieldLink RX4 52 "ExactFoldsModel" "code" "I") (by decide +kernel)
  have hS : va_S A s.heap s.heap [] := va_S.rf
  have hl : lv_has ls 6 [(0, .ref m0), (1, .int f), (2, .int w)] := hl
  refine lv_aload_n hx hb dX4_least_0 rfl (lv_at hl 0 rfl) ?_
  refine lv_iconst (v := nI 0) hx hb dX4_least_1 (by decide) ?_
  refine va_put (D := E.1) (ci := 5) (v := .int (nI 0)) (ty := .int) (C := RX4) (T := TX4) (N := 19) hx hb hts hiX4 tyX4 tyX4_ok nmX4 hown hK.1 hP hD hS 0 rfl rfl 0 (by decide) hf52 (fun _ h9 => h9) rfl (by decide +kernel) rfl rfl (Nat.le_of_ble_eq_true rfl) dX4_least_2 (fun H locs hP hD hS => ?_)
  have hP : va_P E.1 vwCl (mW E m0 k0 q0 t0 v0 c0 o0 s0 j0 r0 f0 g0 h0 (nI 0) n K M TT VV CC OO b S J RR w1 w2 w3 w4 SF SM FD) H := hP
  have hD : va_D A (mW E m0 k0 q0 t0 v0 c0 o0 s0 j0 r0 f0 g0 h0 (nI 0) n K M TT VV CC OO b S J RR w1 w2 w3 w4 SF SM FD) := hD
  refine lv_aload_n hx hb dX4_least_5 rfl (lv_at hl 0 rfl) ?_
  refine lv_iload_n hx hb dX4_least_6 rfl (lv_at hl 1 rfl) ?_
  refine lv_iconst (v := nI 3) hx hb dX4_least_7 (by decide) ?_
  refine zc_i (W.runV ⟨hx, hb, hml, hown, hts⟩ (kX4_isOf l E m0 k0 q0 t0 v0 c0 o0 s0 j0 r0 f0 g0 h0 (nI 0) n K M TT VV CC OO b S J RR w1 w2 w3 w4 SF SM FD hn hK5 f 3 (by decide)) (cwV 2 hts gX4_least_X4_isOf rfl rfl rfl (by decide +kernel) ⟨Nat.le_trans (Nat.le_of_ble_eq_true rfl) hRf, Nat.le_trans (Nat.le_of_ble_eq_true rfl) hRl⟩) (z_preV (As := [.int f, .int (nI 3)]) hP hK 0 rfl rfl) rfl rfl hl.1 rfl (lv_room (Nat.le_of_ble_eq_true rfl)) dX4_least_8 ⟨Nat.zero_le _, Nat.zero_le _⟩) ?_
  refine zb_if_eq (tgt := 33) hx hb dX4_least_11 (by decide) (fun c_1 => ?_) (fun c_1 => ?_)
  · have hfij := fk_none c_1
    refine lv_ldc2 (v := (-9223372036854775808)) hx hb hown (hts (.constantLong RX4 131 (-9223372036854775808)) (by decide +kernel)) dX4_least_33 ?_
    exact z_retl (by unfold lsA; rw [hfij]; rfl) (ret _ _ _ _ (hP) hS dX4_least_36)
  · obtain ⟨j, hjj, rfl, hkdj, hfij⟩ := fk_some (by omega) c_1
    have hMj := hM j hjj
    have hKj := hK5 j hjj
    refine lv_iload_n hx hb dX4_least_14 rfl (lv_at hl 2 rfl) ?_
    refine lv_i2l hx hb dX4_least_15 rfl ?_
    refine lv_lconst (v := 0) hx hb dX4_least_16 rfl ?_
    refine lv_lconst (v := 1) hx hb dX4_least_17 rfl ?_
    refine zc_i (W.runS ⟨hx, hb, hml, hown, hts⟩ (kX4_in l E w.toInt64 0 1) (cwS 3 hts gX4_least_X4_in rfl rfl rfl (by decide +kernel) ⟨Nat.le_trans (Nat.le_of_ble_eq_true rfl) hRf, Nat.le_trans (Nat.le_of_ble_eq_true rfl) hRl⟩) (z_preR (av := [.long w.toInt64, .long 0, .long 1]) (hP.sub (ws' := []) [] rfl) hK) rfl rfl hl.1 rfl (lv_room (Nat.le_of_ble_eq_true rfl)) dX4_least_18 ⟨Nat.zero_le _, Nat.zero_le _⟩) ?_
    refine zb_if_eq (tgt := 33) hx hb dX4_least_21 (by decide) (fun c_2 => ?_) (fun c_2 => ?_)
    · refine lv_ldc2 (v := (-9223372036854775808)) hx hb hown (hts (.constantLong RX4 131 (-9223372036854775808)) (by decide +kernel)) dX4_least_33 ?_
      exact z_retl (by unfold lsA; rw [hfij]; show _ = (if w < 0 ∨ nI 1 < w ∨ M j = 0 then (-9223372036854775808) else bsM w (vw VV j) (M j)); rw [if_pos ((inw1_f c_2).elim Or.inl (fun q => Or.inr (Or.inl q)))]) (ret _ _ _ _ (hP) hS dX4_least_36)
    · refine lv_aload_n hx hb dX4_least_24 rfl (lv_at hl 0 rfl) ?_
      refine va_get (D := E.1) (ci := 5) (C := RX4) (T := TX4) (N := 19) hx hb hts hiX4 hown hK.1 hP 0 rfl rfl 3 (by decide) hf13 (fun _ h9 => h9) rfl dX4_least_25 ?_
      refine lv_iload_n hx hb dX4_least_28 rfl (lv_at hl 1 rfl) ?_
      refine zn_iald hx hb hK.1 hP 2 0 rfl rfl (by omega) (by decide) dX4_least_29 ?_
      refine zn_if_ne (tgt := 37) hx hb dX4_least_30 (by decide) (by omega) (fun c_3 => ?_) (fun c_3 => ?_)
      · have hno : ¬ (w < 0 ∨ nI 1 < w ∨ M j = 0) := fun q => q.elim (fun q => inw1_t c_2 (Or.inl q)) (fun q => q.elim (fun q => inw1_t c_2 (Or.inr q)) c_3)
        refine lv_aload_n hx hb dX4_least_37 rfl (lv_at hl 0 rfl) ?_
        refine va_get (D := E.1) (ci := 5) (C := RX4) (T := TX4) (N := 19) hx hb hts hiX4 hown hK.1 hP 0 rfl rfl 5 (by decide) hf19 (fun _ h9 => h9) rfl dX4_least_38 ?_
        refine lv_bipush (v := nI 64) hx hb dX4_least_41 (by decide) ?_
        refine lv_iload_n hx hb dX4_least_43 rfl (lv_at hl 1 rfl) ?_
        refine zn_imul hx hb dX4_least_44 ?_
        refine zn_lald hx hb hK.1 hP 4 1 rfl rfl (by omega) (by decide) dX4_least_45 ?_
        refine lv_lstore_n (lv' := [(3, .long (VV (64 * j))), (0, .ref m0), (1, .int (nI j)), (2, .int w)]) hx hb dX4_least_46 rfl hl (by decide) rfl (fun ls hl => ?_)
        refine lv_bipush (v := nI 64) hx hb dX4_least_47 (by decide) ?_
        refine lv_iload_n hx hb dX4_least_49 rfl (lv_at hl 2 rfl) ?_
        refine zn_imul hx hb dX4_least_50 ?_
        refine lv_istore (lv' := [(5, .int (nI (64 * j))), (3, .long (VV (64 * j))), (0, .ref m0), (1, .int (nI j)), (2, .int w)]) hx hb dX4_least_51 hl (by decide) rfl (fun ls hl => ?_)
        have lp : ∀ (fu : Nat) (i : Nat) (x : Int64) (ls : Array Slot) (H : Heap) (locs : List Loc), M j - i < fu → (i ≤ M j) → (x = bsM w (vw VV j) i) → lv_has ls 6 [(0, .ref m0), (1, .int (nI j)), (2, .int w), (3, .long x), (5, .int (nI (64 * j + i)))] → va_P E.1 vwCl (mW E m0 k0 q0 t0 v0 c0 o0 s0 j0 r0 f0 g0 h0 (nI 0) n K M TT VV CC OO b S J RR w1 w2 w3 w4 SF SM FD) H → va_D A (mW E m0 k0 q0 t0 v0 c0 o0 s0 j0 r0 f0 g0 h0 (nI 0) n K M TT VV CC OO b S J RR w1 w2 w3 w4 SF SM FD) → va_S A s.heap H locs → W p l e R s m args below meth c H locs 0 0 Q (F0 m 53 ls []) := by
          intro fu
          induction fu with
          | zero => intros; exact absurd (by assumption) (Nat.not_lt_zero _)
          | succ fu ihlp =>
            intro i x ls H locs hfu hi hx2 hl hP hD hS
            refine lv_iload hx hb dX4_least_53 (lv_at hl 4 rfl) ?_
            refine lv_bipush (v := nI 64) hx hb dX4_least_55 (by decide) ?_
            refine lv_iload_n hx hb dX4_least_57 rfl (lv_at hl 1 rfl) ?_
            refine zn_imul hx hb dX4_least_58 ?_
            refine lv_aload_n hx hb dX4_least_59 rfl (lv_at hl 0 rfl) ?_
            refine va_get (D := E.1) (ci := 5) (C := RX4) (T := TX4) (N := 19) hx hb hts hiX4 hown hK.1 hP 0 rfl rfl 3 (by decide) hf13 (fun _ h9 => h9) rfl dX4_least_60 ?_
            refine lv_iload_n hx hb dX4_least_63 rfl (lv_at hl 1 rfl) ?_
            refine zn_iald hx hb hK.1 hP 2 0 rfl rfl (by omega) (by decide) dX4_least_64 ?_
            refine zn_iadd hx hb dX4_least_65 ?_
            refine zn_icmp_ge (tgt := 129) hx hb dX4_least_66 (by decide) (by omega) (by omega) (fun c_4 => ?_) (fun c_4 => ?_)
            · obtain rfl : i = M j := by omega
              refine lv_lload_n hx hb dX4_least_129 rfl (lv_at hl 3 rfl) ?_
              exact z_retl (by unfold lsA; rw [hfij]; show _ = (if w < 0 ∨ nI 1 < w ∨ M j = 0 then (-9223372036854775808) else bsM w (vw VV j) (M j)); rw [if_neg hno]; exact hx2) (ret _ _ _ _ (hP) hS dX4_least_130)
            · refine lv_iload_n hx hb dX4_least_69 rfl (lv_at hl 2 rfl) ?_
              refine lv_if_ne (tgt := 99) hx hb dX4_least_70 (by decide) (fun c_5 => ?_) (fun c_5 => ?_)
              · refine lv_aload_n hx hb dX4_least_99 rfl (lv_at hl 0 rfl) ?_
                refine va_get (D := E.1) (ci := 5) (C := RX4) (T := TX4) (N := 19) hx hb hts hiX4 hown hK.1 hP 0 rfl rfl 5 (by decide) hf19 (fun _ h9 => h9) rfl dX4_least_100 ?_
                refine lv_iload hx hb dX4_least_103 (lv_at hl 4 rfl) ?_
                refine zn_lald hx hb hK.1 hP 4 1 rfl rfl (by omega) (by decide) dX4_least_105 ?_
                refine lv_lload_n hx hb dX4_least_106 rfl (lv_at hl 3 rfl) ?_
                refine zl_le (tgt := 121) hx hb dX4_least_107 dX4_least_108 (by decide) (fun c_6 => ?_) (fun c_6 => ?_)
                · have hq2 : x = bsM w (vw VV j) (i + 1) := by unfold bsM; rw [← hx2, if_neg c_5, if_neg (show ¬ x < vw VV j i from c_6)]
                  refine lv_lload_n hx hb dX4_least_121 rfl (lv_at hl 3 rfl) ?_
                  refine lv_lstore_n (lv' := [(3, .long x), (0, .ref m0), (1, .int (nI j)), (2, .int w), (5, .int (nI (64 * j + i)))]) hx hb dX4_least_122 rfl hl (by decide) rfl (fun ls hl => ?_)
                  refine lv_iinc (v := nI (64 * j + i + 1)) (lv' := [(5, .int (nI (64 * j + i + 1))), (3, .long x), (0, .ref m0), (1, .int (nI j)), (2, .int w)]) hx hb dX4_least_123 hl (k := 4) rfl (z_inc _ 1) (by decide) rfl (fun ls hl => ?_)
                  refine lv_goto (tgt := 53) hx hb dX4_least_126 (by decide) ?_
                  exact ihlp (i + 1) x ls _ _ (by omega) (by omega) (hq2) (lv_sub hl [2, 3, 4, 1, 0] rfl) hP hD hS
                · have hq2 : VV (64 * j + i) = bsM w (vw VV j) (i + 1) := by unfold bsM; rw [← hx2, if_neg c_5, if_pos (show x < vw VV j i from c_6)]; rfl
                  refine lv_aload_n hx hb dX4_least_111 rfl (lv_at hl 0 rfl) ?_
                  refine va_get (D := E.1) (ci := 5) (C := RX4) (T := TX4) (N := 19) hx hb hts hiX4 hown hK.1 hP 0 rfl rfl 5 (by decide) hf19 (fun _ h9 => h9) rfl dX4_least_112 ?_
                  refine lv_iload hx hb dX4_least_115 (lv_at hl 4 rfl) ?_
                  refine zn_lald hx hb hK.1 hP 4 1 rfl rfl (by omega) (by decide) dX4_least_117 ?_
                  refine lv_goto (tgt := 122) hx hb dX4_least_118 (by decide) ?_
                  refine lv_lstore_n (lv' := [(3, .long (VV (64 * j + i))), (0, .ref m0), (1, .int (nI j)), (2, .int w), (5, .int (nI (64 * j + i)))]) hx hb dX4_least_122 rfl hl (by decide) rfl (fun ls hl => ?_)
                  refine lv_iinc (v := nI (64 * j + i + 1)) (lv' := [(5, .int (nI (64 * j + i + 1))), (3, .long (VV (64 * j + i))), (0, .ref m0), (1, .int (nI j)), (2, .int w)]) hx hb dX4_least_123 hl (k := 4) rfl (z_inc _ 1) (by decide) rfl (fun ls hl => ?_)
                  refine lv_goto (tgt := 53) hx hb dX4_least_126 (by decide) ?_
                  exact ihlp (i + 1) (VV (64 * j + i)) ls _ _ (by omega) (by omega) (hq2) (lv_sub hl [2, 3, 4, 1, 0] rfl) hP hD hS
              · refine lv_aload_n hx hb dX4_least_73 rfl (lv_at hl 0 rfl) ?_
                refine va_get (D := E.1) (ci := 5) (C := RX4) (T := TX4) (N := 19) hx hb hts hiX4 hown hK.1 hP 0 rfl rfl 5 (by decide) hf19 (fun _ h9 => h9) rfl dX4_least_74 ?_
                refine lv_iload hx hb dX4_least_77 (lv_at hl 4 rfl) ?_
                refine zn_lald hx hb hK.1 hP 4 1 rfl rfl (by omega) (by decide) dX4_least_79 ?_
                refine lv_lload_n hx hb dX4_least_80 rfl (lv_at hl 3 rfl) ?_
                refine zl_ge (tgt := 95) hx hb dX4_least_81 dX4_least_82 (by decide) (fun c_7 => ?_) (fun c_7 => ?_)
                · have hq2 : x = bsM w (vw VV j) (i + 1) := by unfold bsM; rw [← hx2, if_pos c_5, if_neg (show ¬ vw VV j i < x from c_7)]
                  refine lv_lload_n hx hb dX4_least_95 rfl (lv_at hl 3 rfl) ?_
                  refine lv_goto (tgt := 122) hx hb dX4_least_96 (by decide) ?_
                  refine lv_lstore_n (lv' := [(3, .long x), (0, .ref m0), (1, .int (nI j)), (2, .int w), (5, .int (nI (64 * j + i)))]) hx hb dX4_least_122 rfl hl (by decide) rfl (fun ls hl => ?_)
                  refine lv_iinc (v := nI (64 * j + i + 1)) (lv' := [(5, .int (nI (64 * j + i + 1))), (3, .long x), (0, .ref m0), (1, .int (nI j)), (2, .int w)]) hx hb dX4_least_123 hl (k := 4) rfl (z_inc _ 1) (by decide) rfl (fun ls hl => ?_)
                  refine lv_goto (tgt := 53) hx hb dX4_least_126 (by decide) ?_
                  exact ihlp (i + 1) x ls _ _ (by omega) (by omega) (hq2) (lv_sub hl [2, 3, 4, 1, 0] rfl) hP hD hS
                · have hq2 : VV (64 * j + i) = bsM w (vw VV j) (i + 1) := by unfold bsM; rw [← hx2, if_pos c_5, if_pos (show vw VV j i < x from c_7)]; rfl
                  refine lv_aload_n hx hb dX4_least_85 rfl (lv_at hl 0 rfl) ?_
                  refine va_get (D := E.1) (ci := 5) (C := RX4) (T := TX4) (N := 19) hx hb hts hiX4 hown hK.1 hP 0 rfl rfl 5 (by decide) hf19 (fun _ h9 => h9) rfl dX4_least_86 ?_
                  refine lv_iload hx hb dX4_least_89 (lv_at hl 4 rfl) ?_
                  refine zn_lald hx hb hK.1 hP 4 1 rfl rfl (by omega) (by decide) dX4_least_91 ?_
                  refine lv_goto (tgt := 122) hx hb dX4_least_92 (by decide) ?_
                  refine lv_lstore_n (lv' := [(3, .long (VV (64 * j + i))), (0, .ref m0), (1, .int (nI j)), (2, .int w), (5, .int (nI (64 * j + i)))]) hx hb dX4_least_122 rfl hl (by decide) rfl (fun ls hl => ?_)
                  refine lv_iinc (v := nI (64 * j + i + 1)) (lv' := [(5, .int (nI (64 * j + i + 1))), (3, .long (VV (64 * j + i))), (0, .ref m0), (1, .int (nI j)), (2, .int w)]) hx hb dX4_least_123 hl (k := 4) rfl (z_inc _ 1) (by decide) rfl (fun ls hl => ?_)
                  refine lv_goto (tgt := 53) hx hb dX4_least_126 (by decide) ?_
                  exact ihlp (i + 1) (VV (64 * j + i)) ls _ _ (by omega) (by omega) (hq2) (lv_sub hl [2, 3, 4, 1, 0] rfl) hP hD hS
        exact lp _ 0 (VV (64 * j)) ls _ _ (Nat.lt_succ_self _) (Nat.zero_le _) (rfl) (lv_sub hl [2, 3, 4, 1, 0] rfl) hP hD hS
      · refine lv_ldc2 (v := (-9223372036854775808)) hx hb hown (hts (.constantLong RX4 131 (-9223372036854775808)) (by decide +kernel)) dX4_least_33 ?_
        exact z_retl (by unfold lsA; rw [hfij]; show _ = (if w < 0 ∨ nI 1 < w ∨ M j = 0 then (-9223372036854775808) else bsM w (vw VV j) (M j)); rw [if_pos (Or.inr (Or.inr c_3))]) (ret _ _ _ _ (hP) hS dX4_least_36)
set_option maxHeartbeats 4000000 in
set_option maxRecDepth 100000 in
theorem kX4_unlike (l : Launch) (E : zE) (sz : Nat) (m0 k0 q0 t0 v0 c0 o0 s0 j0 r0 f0 g0 h0 : Nat) (cd : Int32) (n : Nat) (K M : Nat → Nat) (TT : Nat → Int32) (VV CC : Nat → Int64) (OO : Nat → Nat) (b : Nat) (S J : Nat → Nat) (RR : Nat → Bool) (w1 w2 w3 w4 : Int32) (SF SM FD : Nat → Nat) (hn : n ≤ 12) (hM : ∀ j, j < n → M j ≤ 64) (hK5 : ∀ j, j < n → K j < 5) (f : Int32) : Met l yX4_unlike wsX4_unlike (rmL 1) (va_Pc [.ref m0, .int f] (zS E (mW E m0 k0 q0 t0 v0 c0 o0 s0 j0 r0 f0 g0 h0 cd n K M TT VV CC OO b S J RR w1 w2 w3 w4 SF SM FD) sz)) (va_Qi (fun (r9 : Int32) (_ : Unit) => r9 = aUnl n K M (vw VV) f) (fun _ t9 => zW E (mW E m0 k0 q0 t0 v0 c0 o0 s0 j0 r0 f0 g0 h0 (nI 0) n K M TT VV CC OO b S J RR w1 w2 w3 w4 SF SM FD) t9) (va_A (mW E m0 k0 q0 t0 v0 c0 o0 s0 j0 r0 f0 g0 h0 cd n K M TT VV CC OO b S J RR w1 w2 w3 w4 SF SM FD) sz)) 0 0 (va_A (mW E m0 k0 q0 t0 v0 c0 o0 s0 j0 r0 f0 g0 h0 cd n K M TT VV CC OO b S J RR w1 w2 w3 w4 SF SM FD) sz) := by
  refine z_ofWi (cc := cX4_unlike) (maxL := 6) (own := RX4) (by decide) rfl rfl (Nat.le_of_ble_eq_true rfl) ?_
  intro p e s m args below meth c R Q A B hP hD hA ret ls hl
  obtain ⟨hx, hb, hml, hown, hts, hK, hRf, hRl⟩ := B
  have hiX4 : ∀ w ∈ wsX40, w ∈ wsX4_unlike := by decide +kernel
  have hf7 := hts (.fieldLink RX4 7 "ExactFoldsModel" "kind" "[I") (by decide +kernel)
  have hf13 := hts (.fieldLink RX4 13 "ExactFoldsModel" "many" "[I") (by decide +kernel)
  have hf19 := hts (.fieldLink RX4 19 "ExactFoldsModel" "values" "[J") (by decide +kernel)
  have hf52 := hts (.fieldLink RX4 52 "ExactFoldsModel" "code" "I") (by decide +kernel)
  have hS : va_S A s.heap s.heap [] := va_S.rf
  have hl : lv_has ls 6 [(0, .ref m0), (1, .int f)] := hl
  refine lv_aload_n hx hb dX4_unlike_0 rfl (lv_at hl 0 rfl) ?_
  refine lv_iconst (v := nI 0) hx hb dX4_unlike_1 (by decide) ?_
  refine va_put (D := E.1) (ci := 5) (v := .int (nI 0)) (ty := .int) (C := RX4) (T := TX4) (N := 19) hx hb hts hiX4 tyX4 tyX4_ok nmX4 hown hK.1 hP hD hS 0 rfl rfl 0 (by decide) hf52 (fun _ h9 => h9) rfl (by decide +kernel) rfl rfl (Nat.le_of_ble_eq_true rfl) dX4_unlike_2 (fun H locs hP hD hS => ?_)
  have hP : va_P E.1 vwCl (mW E m0 k0 q0 t0 v0 c0 o0 s0 j0 r0 f0 g0 h0 (nI 0) n K M TT VV CC OO b S J RR w1 w2 w3 w4 SF SM FD) H := hP
  have hD : va_D A (mW E m0 k0 q0 t0 v0 c0 o0 s0 j0 r0 f0 g0 h0 (nI 0) n K M TT VV CC OO b S J RR w1 w2 w3 w4 SF SM FD) := hD
  refine lv_aload_n hx hb dX4_unlike_5 rfl (lv_at hl 0 rfl) ?_
  refine lv_iload_n hx hb dX4_unlike_6 rfl (lv_at hl 1 rfl) ?_
  refine zc_i (W.runV ⟨hx, hb, hml, hown, hts⟩ (kX4_isFold l E m0 k0 q0 t0 v0 c0 o0 s0 j0 r0 f0 g0 h0 (nI 0) n K M TT VV CC OO b S J RR w1 w2 w3 w4 SF SM FD hn f) (cwV 1 hts gX4_unlike_X4_isFold rfl rfl rfl (by decide +kernel) ⟨Nat.le_trans (Nat.le_of_ble_eq_true rfl) hRf, Nat.le_trans (Nat.le_of_ble_eq_true rfl) hRl⟩) (z_preV (As := [.int f]) hP hK 0 rfl rfl) rfl rfl hl.1 rfl (lv_room (Nat.le_of_ble_eq_true rfl)) dX4_unlike_7 ⟨Nat.zero_le _, Nat.zero_le _⟩) ?_
  refine zb_if_ne (tgt := 15) hx hb dX4_unlike_10 (by decide) (fun c_1 => ?_) (fun c_1 => ?_)
  · obtain ⟨j, hjj, rfl, hfij⟩ := fd_some (by omega) c_1
    have hMj := hM j hjj
    have hKj := hK5 j hjj
    refine lv_aload_n hx hb dX4_unlike_15 rfl (lv_at hl 0 rfl) ?_
    refine va_get (D := E.1) (ci := 5) (C := RX4) (T := TX4) (N := 19) hx hb hts hiX4 hown hK.1 hP 0 rfl rfl 2 (by decide) hf7 (fun _ h9 => h9) rfl dX4_unlike_16 ?_
    refine lv_iload_n hx hb dX4_unlike_19 rfl (lv_at hl 1 rfl) ?_
    refine zn_iald hx hb hK.1 hP 1 0 rfl rfl (by omega) (by decide) dX4_unlike_20 ?_
    refine lv_iconst (v := nI 3) hx hb dX4_unlike_21 (by decide) ?_
    refine zn_icmp_eq (tgt := 28) hx hb dX4_unlike_22 (by decide) (by omega) (by omega) (fun c_2 => ?_) (fun c_2 => ?_)
    · have hk3 : K j = 3 := c_2
      refine lv_iconst (v := nI 0) hx hb dX4_unlike_28 (by decide) ?_
      refine lv_istore_n (lv' := [(2, .int (nI 0)), (0, .ref m0), (1, .int (nI j))]) hx hb dX4_unlike_29 rfl hl (by decide) rfl (fun ls hl => ?_)
      refine lv_bipush (v := nI 64) hx hb dX4_unlike_30 (by decide) ?_
      refine lv_iload_n hx hb dX4_unlike_32 rfl (lv_at hl 2 rfl) ?_
      refine zn_imul hx hb dX4_unlike_33 ?_
      refine lv_istore_n (lv' := [(3, .int (nI (64 * j))), (2, .int (nI 0)), (0, .ref m0), (1, .int (nI j))]) hx hb dX4_unlike_34 rfl hl (by decide) rfl (fun ls hl => ?_)
      have lp : ∀ (fu : Nat) (i : Nat) (x : Nat) (ls : Array Slot) (H : Heap) (locs : List Loc), M j - i < fu → (i ≤ M j) → (x = cntU (vw VV j) i) → lv_has ls 6 [(0, .ref m0), (1, .int (nI j)), (2, .int (nI x)), (3, .int (nI (64 * j + i)))] → va_P E.1 vwCl (mW E m0 k0 q0 t0 v0 c0 o0 s0 j0 r0 f0 g0 h0 (nI 0) n K M TT VV CC OO b S J RR w1 w2 w3 w4 SF SM FD) H → va_D A (mW E m0 k0 q0 t0 v0 c0 o0 s0 j0 r0 f0 g0 h0 (nI 0) n K M TT VV CC OO b S J RR w1 w2 w3 w4 SF SM FD) → va_S A s.heap H locs → W p l e R s m args below meth c H locs 0 0 Q (F0 m 35 ls []) := by
        intro fu
        induction fu with
        | zero => intros; exact absurd (by assumption) (Nat.not_lt_zero _)
        | succ fu ihlp =>
          intro i x ls H locs hfu hi hx2 hl hP hD hS
          refine lv_iload_n hx hb dX4_unlike_35 rfl (lv_at hl 3 rfl) ?_
          refine lv_bipush (v := nI 64) hx hb dX4_unlike_36 (by decide) ?_
          refine lv_iload_n hx hb dX4_unlike_38 rfl (lv_at hl 1 rfl) ?_
          refine zn_imul hx hb dX4_unlike_39 ?_
          refine lv_aload_n hx hb dX4_unlike_40 rfl (lv_at hl 0 rfl) ?_
          refine va_get (D := E.1) (ci := 5) (C := RX4) (T := TX4) (N := 19) hx hb hts hiX4 hown hK.1 hP 0 rfl rfl 3 (by decide) hf13 (fun _ h9 => h9) rfl dX4_unlike_41 ?_
          refine lv_iload_n hx hb dX4_unlike_44 rfl (lv_at hl 1 rfl) ?_
          refine zn_iald hx hb hK.1 hP 2 0 rfl rfl (by omega) (by decide) dX4_unlike_45 ?_
          refine zn_iadd hx hb dX4_unlike_46 ?_
          refine zn_icmp_ge (tgt := 119) hx hb dX4_unlike_47 (by decide) (by omega) (by omega) (fun c_3 => ?_) (fun c_3 => ?_)
          · obtain rfl : i = M j := by omega
            refine lv_iload_n hx hb dX4_unlike_119 rfl (lv_at hl 2 rfl) ?_
            exact z_reti (by unfold aUnl; rw [hfij]; show _ = (if K j = 3 then nI (cntU (vw VV j) (M j)) else (-3)); rw [if_pos hk3, hx2]) (ret _ _ _ _ (hP) hS dX4_unlike_120)
          · have hiM : i < M j := by omega
            refine lv_iconst (v := nI 1) hx hb dX4_unlike_50 (by decide) ?_
            refine lv_istore (lv' := [(4, .int (nI 1)), (0, .ref m0), (1, .int (nI j)), (2, .int (nI x)), (3, .int (nI (64 * j + i)))]) hx hb dX4_unlike_51 hl (by decide) rfl (fun ls hl => ?_)
            refine lv_bipush (v := nI 64) hx hb dX4_unlike_53 (by decide) ?_
            refine lv_iload_n hx hb dX4_unlike_55 rfl (lv_at hl 2 rfl) ?_
            refine zn_imul hx hb dX4_unlike_56 ?_
            refine lv_istore (lv' := [(5, .int (nI (64 * j))), (4, .int (nI 1)), (0, .ref m0), (1, .int (nI j)), (2, .int (nI x)), (3, .int (nI (64 * j + i)))]) hx hb dX4_unlike_57 hl (by decide) rfl (fun ls hl => ?_)
            have lq : ∀ (fu : Nat) (k : Nat) (y : Bool) (ls : Array Slot) (H : Heap) (locs : List Loc), i - k < fu → (k ≤ i) → (y = frM (vw VV j) i k) → lv_has ls 6 [(0, .ref m0), (1, .int (nI j)), (2, .int (nI x)), (3, .int (nI (64 * j + i))), (4, .int (bI y)), (5, .int (nI (64 * j + k)))] → va_P E.1 vwCl (mW E m0 k0 q0 t0 v0 c0 o0 s0 j0 r0 f0 g0 h0 (nI 0) n K M TT VV CC OO b S J RR w1 w2 w3 w4 SF SM FD) H → va_D A (mW E m0 k0 q0 t0 v0 c0 o0 s0 j0 r0 f0 g0 h0 (nI 0) n K M TT VV CC OO b S J RR w1 w2 w3 w4 SF SM FD) → va_S A s.heap H locs → W p l e R s m args below meth c H locs 0 0 Q (F0 m 59 ls []) := by
              intro fu
              induction fu with
              | zero => intros; exact absurd (by assumption) (Nat.not_lt_zero _)
              | succ fu ihlq =>
                intro k y ls H locs hfu hk hy2 hl hP hD hS
                refine lv_iload hx hb dX4_unlike_59 (lv_at hl 5 rfl) ?_
                refine lv_iload_n hx hb dX4_unlike_61 rfl (lv_at hl 3 rfl) ?_
                refine zn_icmp_ge (tgt := 100) hx hb dX4_unlike_62 (by decide) (by omega) (by omega) (fun c_4 => ?_) (fun c_4 => ?_)
                · obtain rfl : i = k := by omega
                  rw [frM_fst] at hy2
                  refine lv_iload_n hx hb dX4_unlike_100 rfl (lv_at hl 2 rfl) ?_
                  refine lv_iload hx hb dX4_unlike_101 (lv_at hl 4 rfl) ?_
                  refine zb_if_eq (tgt := 110) hx hb dX4_unlike_103 (by decide) (fun c_5 => ?_) (fun c_5 => ?_)
                  · have hq2 : x + 0 = cntU (vw VV j) (i + 1) := by unfold cntU; rw [← hy2, c_5, if_neg Bool.false_ne_true, hx2]; rfl
                    refine lv_iconst (v := nI 0) hx hb dX4_unlike_110 (by decide) ?_
                    refine zn_iadd hx hb dX4_unlike_111 ?_
                    refine lv_istore_n (lv' := [(2, .int (nI (x + 0))), (0, .ref m0), (1, .int (nI j)), (3, .int (nI (64 * j + i))), (4, .int (bI y)), (5, .int (nI (64 * j + i)))]) hx hb dX4_unlike_112 rfl hl (by decide) rfl (fun ls hl => ?_)
                    refine lv_iinc (v := nI (64 * j + i + 1)) (lv' := [(3, .int (nI (64 * j + i + 1))), (2, .int (nI (x + 0))), (0, .ref m0), (1, .int (nI j)), (4, .int (bI y)), (5, .int (nI (64 * j + i)))]) hx hb dX4_unlike_113 hl (k := 3) rfl (z_inc _ 1) (by decide) rfl (fun ls hl => ?_)
                    refine lv_goto (tgt := 35) hx hb dX4_unlike_116 (by decide) ?_
                    exact ihlp (i + 1) (x + 0) ls _ _ (by omega) (by omega) (hq2) (lv_sub hl [2, 3, 1, 0] rfl) hP hD hS
                  · have hq2 : x + 1 = cntU (vw VV j) (i + 1) := by unfold cntU; rw [← hy2, c_5, if_pos rfl, hx2]
                    refine lv_iconst (v := nI 1) hx hb dX4_unlike_106 (by decide) ?_
                    refine lv_goto (tgt := 111) hx hb dX4_unlike_107 (by decide) ?_
                    refine zn_iadd hx hb dX4_unlike_111 ?_
                    refine lv_istore_n (lv' := [(2, .int (nI (x + 1))), (0, .ref m0), (1, .int (nI j)), (3, .int (nI (64 * j + i))), (4, .int (bI y)), (5, .int (nI (64 * j + i)))]) hx hb dX4_unlike_112 rfl hl (by decide) rfl (fun ls hl => ?_)
                    refine lv_iinc (v := nI (64 * j + i + 1)) (lv' := [(3, .int (nI (64 * j + i + 1))), (2, .int (nI (x + 1))), (0, .ref m0), (1, .int (nI j)), (4, .int (bI y)), (5, .int (nI (64 * j + i)))]) hx hb dX4_unlike_113 hl (k := 3) rfl (z_inc _ 1) (by decide) rfl (fun ls hl => ?_)
                    refine lv_goto (tgt := 35) hx hb dX4_unlike_116 (by decide) ?_
                    exact ihlp (i + 1) (x + 1) ls _ _ (by omega) (by omega) (hq2) (lv_sub hl [2, 3, 1, 0] rfl) hP hD hS
                · refine lv_iload hx hb dX4_unlike_65 (lv_at hl 4 rfl) ?_
                  refine zb_if_eq (tgt := 91) hx hb dX4_unlike_67 (by decide) (fun c_6 => ?_) (fun c_6 => ?_)
                  · have hq3 : false = frM (vw VV j) i (k + 1) := by unfold frM; rw [← hy2, c_6]; rfl
                    refine lv_iconst (v := nI 0) hx hb dX4_unlike_91 (by decide) ?_
                    refine lv_istore (lv' := [(4, .int (nI 0)), (0, .ref m0), (1, .int (nI j)), (2, .int (nI x)), (3, .int (nI (64 * j + i))), (5, .int (nI (64 * j + k)))]) hx hb dX4_unlike_92 hl (by decide) rfl (fun ls hl => ?_)
                    refine lv_iinc (v := nI (64 * j + k + 1)) (lv' := [(5, .int (nI (64 * j + k + 1))), (4, .int (nI 0)), (0, .ref m0), (1, .int (nI j)), (2, .int (nI x)), (3, .int (nI (64 * j + i)))]) hx hb dX4_unlike_94 hl (k := 5) rfl (z_inc _ 1) (by decide) rfl (fun ls hl => ?_)
                    refine lv_goto (tgt := 59) hx hb dX4_unlike_97 (by decide) ?_
                    exact ihlq (k + 1) false ls _ _ (by omega) (by omega) (hq3) (lv_sub hl [2, 3, 4, 5, 1, 0] rfl) hP hD hS
                  · refine lv_aload_n hx hb dX4_unlike_70 rfl (lv_at hl 0 rfl) ?_
                    refine va_get (D := E.1) (ci := 5) (C := RX4) (T := TX4) (N := 19) hx hb hts hiX4 hown hK.1 hP 0 rfl rfl 5 (by decide) hf19 (fun _ h9 => h9) rfl dX4_unlike_71 ?_
                    refine lv_iload hx hb dX4_unlike_74 (lv_at hl 5 rfl) ?_
                    refine zn_lald hx hb hK.1 hP 4 1 rfl rfl (by omega) (by decide) dX4_unlike_76 ?_
                    refine lv_aload_n hx hb dX4_unlike_77 rfl (lv_at hl 0 rfl) ?_
                    refine va_get (D := E.1) (ci := 5) (C := RX4) (T := TX4) (N := 19) hx hb hts hiX4 hown hK.1 hP 0 rfl rfl 5 (by decide) hf19 (fun _ h9 => h9) rfl dX4_unlike_78 ?_
                    refine lv_iload_n hx hb dX4_unlike_81 rfl (lv_at hl 3 rfl) ?_
                    refine zn_lald hx hb hK.1 hP 4 1 rfl rfl (by omega) (by decide) dX4_unlike_82 ?_
                    refine zl_eq (tgt := 91) hx hb dX4_unlike_83 dX4_unlike_84 (by decide) (fun c_7 => ?_) (fun c_7 => ?_)
                    · have hq3 : false = frM (vw VV j) i (k + 1) := by unfold frM; rw [← hy2, c_6, decide_eq_false (fun q => q c_7)]; rfl
                      refine lv_iconst (v := nI 0) hx hb dX4_unlike_91 (by decide) ?_
                      refine lv_istore (lv' := [(4, .int (nI 0)), (0, .ref m0), (1, .int (nI j)), (2, .int (nI x)), (3, .int (nI (64 * j + i))), (5, .int (nI (64 * j + k)))]) hx hb dX4_unlike_92 hl (by decide) rfl (fun ls hl => ?_)
                      refine lv_iinc (v := nI (64 * j + k + 1)) (lv' := [(5, .int (nI (64 * j + k + 1))), (4, .int (nI 0)), (0, .ref m0), (1, .int (nI j)), (2, .int (nI x)), (3, .int (nI (64 * j + i)))]) hx hb dX4_unlike_94 hl (k := 5) rfl (z_inc _ 1) (by decide) rfl (fun ls hl => ?_)
                      refine lv_goto (tgt := 59) hx hb dX4_unlike_97 (by decide) ?_
                      exact ihlq (k + 1) false ls _ _ (by omega) (by omega) (hq3) (lv_sub hl [2, 3, 4, 5, 1, 0] rfl) hP hD hS
                    · have hq3 : true = frM (vw VV j) i (k + 1) := by unfold frM; rw [← hy2, c_6, decide_eq_true (show ¬ vw VV j k = vw VV j i from c_7)]; rfl
                      refine lv_iconst (v := nI 1) hx hb dX4_unlike_87 (by decide) ?_
                      refine lv_goto (tgt := 92) hx hb dX4_unlike_88 (by decide) ?_
                      refine lv_istore (lv' := [(4, .int (nI 1)), (0, .ref m0), (1, .int (nI j)), (2, .int (nI x)), (3, .int (nI (64 * j + i))), (5, .int (nI (64 * j + k)))]) hx hb dX4_unlike_92 hl (by decide) rfl (fun ls hl => ?_)
                      refine lv_iinc (v := nI (64 * j + k + 1)) (lv' := [(5, .int (nI (64 * j + k + 1))), (4, .int (nI 1)), (0, .ref m0), (1, .int (nI j)), (2, .int (nI x)), (3, .int (nI (64 * j + i)))]) hx hb dX4_unlike_94 hl (k := 5) rfl (z_inc _ 1) (by decide) rfl (fun ls hl => ?_)
                      refine lv_goto (tgt := 59) hx hb dX4_unlike_97 (by decide) ?_
                      exact ihlq (k + 1) true ls _ _ (by omega) (by omega) (hq3) (lv_sub hl [2, 3, 4, 5, 1, 0] rfl) hP hD hS
            exact lq _ 0 true ls _ _ (Nat.lt_succ_self _) (Nat.zero_le _) (rfl) (lv_sub hl [2, 3, 4, 5, 1, 0] rfl) hP hD hS
      exact lp _ 0 0 ls _ _ (Nat.lt_succ_self _) (Nat.zero_le _) (rfl) (lv_sub hl [2, 3, 1, 0] rfl) hP hD hS
    · refine lv_bipush (v := (-3)) hx hb dX4_unlike_25 (by decide) ?_
      exact z_reti (by unfold aUnl; rw [hfij]; show _ = (if K j = 3 then nI (cntU (vw VV j) (M j)) else (-3)); rw [if_neg c_2]) (ret _ _ _ _ (hP) hS dX4_unlike_27)
  · have hfij := fd_none c_1
    refine lv_iconst (v := (-1)) hx hb dX4_unlike_13 (by decide) ?_
    exact z_reti (by unfold aUnl; rw [hfij]; rfl) (ret _ _ _ _ (hP) hS dX4_unlike_14)
set_option maxHeartbeats 4000000 in
set_option maxRecDepth 100000 in
theorem kX4_isAhead (l : Launch) (E : zE) (m0 k0 q0 t0 v0 c0 o0 s0 j0 r0 f0 g0 h0 : Nat) (cd : Int32) (n : Nat) (K M : Nat → Nat) (TT : Nat → Int32) (VV CC : Nat → Int64) (OO : Nat → Nat) (b : Nat) (S J : Nat → Nat) (RR : Nat → Bool) (w1 w2 w3 w4 : Int32) (SF SM FD : Nat → Nat) (hn : n ≤ 12) (a_ b_ : Nat) (ha_ : a_ < 768) (hb_ : b_ < 768) : Met l yX4_isAhead wsX4_isAhead (rmL 0) (va_Pc [.ref m0, .int (nI a_), .int (nI b_)] (zW E (mW E m0 k0 q0 t0 v0 c0 o0 s0 j0 r0 f0 g0 h0 cd n K M TT VV CC OO b S J RR w1 w2 w3 w4 SF SM FD))) (vp_Si (fun r9 => r9 = bI (ahd TT VV a_ b_))) 0 0 (fun _ => False) := by
  refine z_ofRz (cc := cX4_isAhead) (maxL := 3) (own := RX4) (by decide) rfl rfl (Nat.le_of_ble_eq_true rfl) ?_
  intro p e s m args below meth c R Q B hP ret ls hl
  obtain ⟨hx, hb, hml, hown, hts, hK, hRf, hRl⟩ := B
  have hiX4 : ∀ w ∈ wsX40, w ∈ wsX4_isAhead := by decide +kernel
  have hf16 := hts (.fieldLink RX4 16 "ExactFoldsModel" "times" "[I") (by decide +kernel)
  have hf19 := hts (.fieldLink RX4 19 "ExactFoldsModel" "values" "[J") (by decide +kernel)
  have hl : lv_has ls 3 [(0, .ref m0), (1, .int (nI a_)), (2, .int (nI b_))] := hl
  refine lv_aload_n hx hb dX4_isAhead_0 rfl (lv_at hl 0 rfl) ?_
  refine va_get (D := E.1) (ci := 5) (C := RX4) (T := TX4) (N := 19) hx hb hts hiX4 hown hK.1 hP 0 rfl rfl 4 (by decide) hf16 (fun _ h9 => h9) rfl dX4_isAhead_1 ?_
  refine lv_iload_n hx hb dX4_isAhead_4 rfl (lv_at hl 1 rfl) ?_
  refine zn_iald hx hb hK.1 hP 3 0 rfl rfl (by omega) (by decide) dX4_isAhead_5 ?_
  refine lv_aload_n hx hb dX4_isAhead_6 rfl (lv_at hl 0 rfl) ?_
  refine va_get (D := E.1) (ci := 5) (C := RX4) (T := TX4) (N := 19) hx hb hts hiX4 hown hK.1 hP 0 rfl rfl 4 (by decide) hf16 (fun _ h9 => h9) rfl dX4_isAhead_7 ?_
  refine lv_iload_n hx hb dX4_isAhead_10 rfl (lv_at hl 2 rfl) ?_
  refine zn_iald hx hb hK.1 hP 3 0 rfl rfl (by omega) (by decide) dX4_isAhead_11 ?_
  refine lv_icmp_lt (tgt := 46) hx hb dX4_isAhead_12 (by decide) (fun c_1 => ?_) (fun c_1 => ?_)
  · refine lv_iconst (v := nI 1) hx hb dX4_isAhead_46 (by decide) ?_
    refine lv_goto (tgt := 51) hx hb dX4_isAhead_47 (by decide) ?_
    exact z_reti (by rw [show ahd TT VV a_ b_ = true from by unfold ahd; simp [c_1]]; rfl) (ret _ _ dX4_isAhead_51)
  · refine lv_aload_n hx hb dX4_isAhead_15 rfl (lv_at hl 0 rfl) ?_
    refine va_get (D := E.1) (ci := 5) (C := RX4) (T := TX4) (N := 19) hx hb hts hiX4 hown hK.1 hP 0 rfl rfl 4 (by decide) hf16 (fun _ h9 => h9) rfl dX4_isAhead_16 ?_
    refine lv_iload_n hx hb dX4_isAhead_19 rfl (lv_at hl 1 rfl) ?_
    refine zn_iald hx hb hK.1 hP 3 0 rfl rfl (by omega) (by decide) dX4_isAhead_20 ?_
    refine lv_aload_n hx hb dX4_isAhead_21 rfl (lv_at hl 0 rfl) ?_
    refine va_get (D := E.1) (ci := 5) (C := RX4) (T := TX4) (N := 19) hx hb hts hiX4 hown hK.1 hP 0 rfl rfl 4 (by decide) hf16 (fun _ h9 => h9) rfl dX4_isAhead_22 ?_
    refine lv_iload_n hx hb dX4_isAhead_25 rfl (lv_at hl 2 rfl) ?_
    refine zn_iald hx hb hK.1 hP 3 0 rfl rfl (by omega) (by decide) dX4_isAhead_26 ?_
    refine lv_icmp_ne (tgt := 50) hx hb dX4_isAhead_27 (by decide) (fun c_2 => ?_) (fun c_2 => ?_)
    · refine lv_iconst (v := nI 0) hx hb dX4_isAhead_50 (by decide) ?_
      exact z_reti (by rw [show ahd TT VV a_ b_ = false from by unfold ahd; simp [c_1, c_2]]; rfl) (ret _ _ dX4_isAhead_51)
    · refine lv_aload_n hx hb dX4_isAhead_30 rfl (lv_at hl 0 rfl) ?_
      refine va_get (D := E.1) (ci := 5) (C := RX4) (T := TX4) (N := 19) hx hb hts hiX4 hown hK.1 hP 0 rfl rfl 5 (by decide) hf19 (fun _ h9 => h9) rfl dX4_isAhead_31 ?_
      refine lv_iload_n hx hb dX4_isAhead_34 rfl (lv_at hl 1 rfl) ?_
      refine zn_lald hx hb hK.1 hP 4 1 rfl rfl (by omega) (by decide) dX4_isAhead_35 ?_
      refine lv_aload_n hx hb dX4_isAhead_36 rfl (lv_at hl 0 rfl) ?_
      refine va_get (D := E.1) (ci := 5) (C := RX4) (T := TX4) (N := 19) hx hb hts hiX4 hown hK.1 hP 0 rfl rfl 5 (by decide) hf19 (fun _ h9 => h9) rfl dX4_isAhead_37 ?_
      refine lv_iload_n hx hb dX4_isAhead_40 rfl (lv_at hl 2 rfl) ?_
      refine zn_lald hx hb hK.1 hP 4 1 rfl rfl (by omega) (by decide) dX4_isAhead_41 ?_
      refine zl_ge (tgt := 50) hx hb dX4_isAhead_42 dX4_isAhead_43 (by decide) (fun c_3 => ?_) (fun c_3 => ?_)
      · refine lv_iconst (v := nI 0) hx hb dX4_isAhead_50 (by decide) ?_
        exact z_reti (by rw [show ahd TT VV a_ b_ = false from by unfold ahd; simp [c_1, c_2, c_3]]; rfl) (ret _ _ dX4_isAhead_51)
      · refine lv_iconst (v := nI 1) hx hb dX4_isAhead_46 (by decide) ?_
        refine lv_goto (tgt := 51) hx hb dX4_isAhead_47 (by decide) ?_
        exact z_reti (by rw [show ahd TT VV a_ b_ = true from by unfold ahd; simp [c_1, c_2, c_3]]; rfl) (ret _ _ dX4_isAhead_51)
set_option maxHeartbeats 4000000 in
set_option maxRecDepth 100000 in
theorem kX4_lay (l : Launch) (E : zE) (sz : Nat) (m0 k0 q0 t0 v0 c0 o0 s0 j0 r0 f0 g0 h0 : Nat) (cd : Int32) (n : Nat) (K M : Nat → Nat) (TT : Nat → Int32) (VV CC : Nat → Int64) (OO : Nat → Nat) (b : Nat) (S J : Nat → Nat) (RR : Nat → Bool) (w1 w2 w3 w4 : Int32) (SF SM FD : Nat → Nat) (hn : n ≤ 12) (hM : ∀ j, j < n → M j ≤ 64) (j : Nat) (hjj : j < n) : Met l yX4_lay wsX4_lay (rmL 1) (va_Pc [.ref m0, .int (nI j)] (zS E (mW E m0 k0 q0 t0 v0 c0 o0 s0 j0 r0 f0 g0 h0 cd n K M TT VV CC OO b S J RR w1 w2 w3 w4 SF SM FD) sz)) (va_Qv (fun (_ : Unit) => True) (fun _ t9 => zW E (mW E m0 k0 q0 t0 v0 c0 o0 s0 j0 r0 f0 g0 h0 cd n K M TT VV CC (layO TT VV OO j (M j)) b S J RR w1 w2 w3 w4 SF SM FD) t9) (va_A (mW E m0 k0 q0 t0 v0 c0 o0 s0 j0 r0 f0 g0 h0 cd n K M TT VV CC OO b S J RR w1 w2 w3 w4 SF SM FD) sz)) 0 0 (va_A (mW E m0 k0 q0 t0 v0 c0 o0 s0 j0 r0 f0 g0 h0 cd n K M TT VV CC OO b S J RR w1 w2 w3 w4 SF SM FD) sz) := by
  refine z_ofWv (cc := cX4_lay) (maxL := 5) (own := RX4) (by decide) rfl rfl (Nat.le_of_ble_eq_true rfl) ?_
  intro p e s m args below meth c R Q A B hP hD hA ret ls hl
  obtain ⟨hx, hb, hml, hown, hts, hK, hRf, hRl⟩ := B
  have hiX4 : ∀ w ∈ wsX40, w ∈ wsX4_lay := by decide +kernel
  have hf13 := hts (.fieldLink RX4 13 "ExactFoldsModel" "many" "[I") (by decide +kernel)
  have hf26 := hts (.fieldLink RX4 26 "ExactFoldsModel" "order" "[I") (by decide +kernel)
  have hS : va_S A s.heap s.heap [] := va_S.rf
  have hl : lv_has ls 5 [(0, .ref m0), (1, .int (nI j))] := hl
  have hMj := hM j hjj
  refine lv_iconst (v := nI 0) hx hb dX4_lay_0 (by decide) ?_
  refine lv_istore_n (lv' := [(2, .int (nI 0)), (0, .ref m0), (1, .int (nI j))]) hx hb dX4_lay_1 rfl hl (by decide) rfl (fun ls hl => ?_)
  have lp : ∀ (fu : Nat) (i : Nat) (ls : Array Slot) (H : Heap) (locs : List Loc), M j - i < fu → (i ≤ M j) → lv_has ls 5 [(0, .ref m0), (1, .int (nI j)), (2, .int (nI i))] → va_P E.1 vwCl (mW E m0 k0 q0 t0 v0 c0 o0 s0 j0 r0 f0 g0 h0 cd n K M TT VV CC (layO TT VV OO j i) b S J RR w1 w2 w3 w4 SF SM FD) H → va_D A (mW E m0 k0 q0 t0 v0 c0 o0 s0 j0 r0 f0 g0 h0 cd n K M TT VV CC (layO TT VV OO j i) b S J RR w1 w2 w3 w4 SF SM FD) → va_S A s.heap H locs → W p l e R s m args below meth c H locs 0 0 Q (F0 m 2 ls []) := by
    intro fu
    induction fu with
    | zero => intros; exact absurd (by assumption) (Nat.not_lt_zero _)
    | succ fu ihlp =>
      intro i ls H locs hfu hi hl hP hD hS
      refine lv_iload_n hx hb dX4_lay_2 rfl (lv_at hl 2 rfl) ?_
      refine lv_aload_n hx hb dX4_lay_3 rfl (lv_at hl 0 rfl) ?_
      refine va_get (D := E.1) (ci := 5) (C := RX4) (T := TX4) (N := 19) hx hb hts hiX4 hown hK.1 hP 0 rfl rfl 3 (by decide) hf13 (fun _ h9 => h9) rfl dX4_lay_4 ?_
      refine lv_iload_n hx hb dX4_lay_7 rfl (lv_at hl 1 rfl) ?_
      refine zn_iald hx hb hK.1 hP 2 0 rfl rfl (by omega) (by decide) dX4_lay_8 ?_
      refine zn_icmp_ge (tgt := 80) hx hb dX4_lay_9 (by decide) (by omega) (by omega) (fun c_1 => ?_) (fun c_1 => ?_)
      · obtain rfl : i = M j := by omega
        exact ret _ _ _ _ (hP) hS dX4_lay_80
      · have hiM : i < M j := by omega
        refine lv_bipush (v := nI 64) hx hb dX4_lay_12 (by decide) ?_
        refine lv_iload_n hx hb dX4_lay_14 rfl (lv_at hl 1 rfl) ?_
        refine zn_imul hx hb dX4_lay_15 ?_
        refine lv_iload_n hx hb dX4_lay_16 rfl (lv_at hl 2 rfl) ?_
        refine zn_iadd hx hb dX4_lay_17 ?_
        refine lv_istore_n (lv' := [(3, .int (nI ((64 * j) + i))), (0, .ref m0), (1, .int (nI j)), (2, .int (nI i))]) hx hb dX4_lay_18 rfl hl (by decide) rfl (fun ls hl => ?_)
        refine lv_iload_n hx hb dX4_lay_19 rfl (lv_at hl 3 rfl) ?_
        refine lv_istore (lv' := [(4, .int (nI i)), (3, .int (nI ((64 * j) + i))), (0, .ref m0), (1, .int (nI j)), (2, .int (nI i))]) hx hb dX4_lay_20 hl (by decide) rfl (fun ls hl => ?_)
        have lq : ∀ (fu : Nat) (k : Nat) (O1 : Nat → Nat) (ls : Array Slot) (H : Heap) (locs : List Loc), k < fu → (k ≤ i) → (laP (fun k => ahd TT VV (64 * j + i) (layO TT VV OO j i k)) k = laP (fun k => ahd TT VV (64 * j + i) (layO TT VV OO j i k)) i) → (∀ q, O1 q = if k < q ∧ q ≤ i then layO TT VV OO j i (q - 1) else layO TT VV OO j i q) → lv_has ls 5 [(0, .ref m0), (1, .int (nI j)), (2, .int (nI i)), (3, .int (nI (64 * j + i))), (4, .int (nI k))] → va_P E.1 vwCl (mW E m0 k0 q0 t0 v0 c0 o0 s0 j0 r0 f0 g0 h0 cd n K M TT VV CC O1 b S J RR w1 w2 w3 w4 SF SM FD) H → va_D A (mW E m0 k0 q0 t0 v0 c0 o0 s0 j0 r0 f0 g0 h0 cd n K M TT VV CC O1 b S J RR w1 w2 w3 w4 SF SM FD) → va_S A s.heap H locs → W p l e R s m args below meth c H locs 0 0 Q (F0 m 22 ls []) := by
          intro fu
          induction fu with
          | zero => intros; exact absurd (by assumption) (Nat.not_lt_zero _)
          | succ fu ihlq =>
            intro k O1 ls H locs hfu hk hlq hO hl hP hD hS
            refine lv_iload hx hb dX4_lay_22 (lv_at hl 4 rfl) ?_
            refine zn_if_le (tgt := 66) hx hb dX4_lay_24 (by decide) (by omega) (fun c_2 => ?_) (fun c_2 => ?_)
            · have hlp : laP (fun k => ahd TT VV (64 * j + i) (layO TT VV OO j i k)) i = k := by rw [← hlq]; rw [c_2]; rfl
              refine lv_aload_n hx hb dX4_lay_66 rfl (lv_at hl 0 rfl) ?_
              refine va_get (D := E.1) (ci := 5) (C := RX4) (T := TX4) (N := 19) hx hb hts hiX4 hown hK.1 hP 0 rfl rfl 7 (by decide) hf26 (fun _ h9 => h9) rfl dX4_lay_67 ?_
              refine lv_iload hx hb dX4_lay_70 (lv_at hl 4 rfl) ?_
              refine lv_iload_n hx hb dX4_lay_72 rfl (lv_at hl 3 rfl) ?_
              refine zn_iast hx hb hK.1 hP hD hS 6 0 rfl rfl (by omega) (by decide) dX4_lay_73 (fun H locs hP hD hS => ?_)
              have hP : va_P E.1 vwCl (mW E m0 k0 q0 t0 v0 c0 o0 s0 j0 r0 f0 g0 h0 cd n K M TT VV CC (updN O1 k (64 * j + i)) b S J RR w1 w2 w3 w4 SF SM FD) H := by rw [upd_nI] at hP; exact hP
              have hD : va_D A (mW E m0 k0 q0 t0 v0 c0 o0 s0 j0 r0 f0 g0 h0 cd n K M TT VV CC (updN O1 k (64 * j + i)) b S J RR w1 w2 w3 w4 SF SM FD) := by rw [upd_nI] at hD; exact hD
              have hof : updN O1 k (64 * j + i) = layO TT VV OO j (i + 1) := by
                show (fun q => if q = k then 64 * j + i else O1 q) = insT (layO TT VV OO j i) (laP (fun k => ahd TT VV (64 * j + i) (layO TT VV OO j i k)) i) i (64 * j + i)
                rw [hlp]; exact ins_end _ hO
              rw [hof] at hP hD
              refine lv_iinc (v := nI (i + 1)) (lv' := [(2, .int (nI (i + 1))), (0, .ref m0), (1, .int (nI j)), (3, .int (nI (64 * j + i))), (4, .int (nI k))]) hx hb dX4_lay_74 hl (k := 2) rfl (z_inc _ 1) (by decide) rfl (fun ls hl => ?_)
              refine lv_goto (tgt := 2) hx hb dX4_lay_77 (by decide) ?_
              exact ihlp (i + 1) ls _ _ (by omega) (by omega) (lv_sub hl [1, 2, 0] rfl) hP hD hS
            · have hOk : O1 (k - 1) = layO TT VV OO j i (k - 1) := by rw [hO, if_neg (by omega)]
              have hin := layO_in TT VV OO j i (k - 1) (by omega)
              refine lv_aload_n hx hb dX4_lay_27 rfl (lv_at hl 0 rfl) ?_
              refine lv_iload_n hx hb dX4_lay_28 rfl (lv_at hl 3 rfl) ?_
              refine lv_aload_n hx hb dX4_lay_29 rfl (lv_at hl 0 rfl) ?_
              refine va_get (D := E.1) (ci := 5) (C := RX4) (T := TX4) (N := 19) hx hb hts hiX4 hown hK.1 hP 0 rfl rfl 7 (by decide) hf26 (fun _ h9 => h9) rfl dX4_lay_30 ?_
              refine lv_iload hx hb dX4_lay_33 (lv_at hl 4 rfl) ?_
              refine lv_iconst (v := nI 1) hx hb dX4_lay_35 (by decide) ?_
              refine zn_isub hx hb (by omega) dX4_lay_36 ?_
              refine zn_iald hx hb hK.1 hP 6 0 rfl rfl (by omega) (by decide) dX4_lay_37 ?_
              refine zc_i (W.runV ⟨hx, hb, hml, hown, hts⟩ (kX4_isAhead l E m0 k0 q0 t0 v0 c0 o0 s0 j0 r0 f0 g0 h0 cd n K M TT VV CC O1 b S J RR w1 w2 w3 w4 SF SM FD hn (64 * j + i) (O1 (k - 1)) (by omega) (by omega)) (cwV 2 hts gX4_lay_X4_isAhead rfl rfl rfl (by decide +kernel) ⟨Nat.le_trans (Nat.le_of_ble_eq_true rfl) hRf, Nat.le_trans (Nat.le_of_ble_eq_true rfl) hRl⟩) (z_preV (As := [.int (nI (64 * j + i)), .int (nI (O1 (k - 1)))]) hP hK 0 rfl rfl) rfl rfl hl.1 rfl (lv_room (Nat.le_of_ble_eq_true rfl)) dX4_lay_38 ⟨Nat.zero_le _, Nat.zero_le _⟩) ?_
              refine zb_if_eq (tgt := 66) hx hb dX4_lay_41 (by decide) (fun c_3 => ?_) (fun c_3 => ?_)
              · have hno : ¬ ahd TT VV (64 * j + i) (layO TT VV OO j i (k - 1)) = true := by rw [← hOk, c_3]; exact Bool.false_ne_true
                have hlp : laP (fun k => ahd TT VV (64 * j + i) (layO TT VV OO j i k)) i = k := by rw [← hlq]; exact laP_no (by omega) hno
                refine lv_aload_n hx hb dX4_lay_66 rfl (lv_at hl 0 rfl) ?_
                refine va_get (D := E.1) (ci := 5) (C := RX4) (T := TX4) (N := 19) hx hb hts hiX4 hown hK.1 hP 0 rfl rfl 7 (by decide) hf26 (fun _ h9 => h9) rfl dX4_lay_67 ?_
                refine lv_iload hx hb dX4_lay_70 (lv_at hl 4 rfl) ?_
                refine lv_iload_n hx hb dX4_lay_72 rfl (lv_at hl 3 rfl) ?_
                refine zn_iast hx hb hK.1 hP hD hS 6 0 rfl rfl (by omega) (by decide) dX4_lay_73 (fun H locs hP hD hS => ?_)
                have hP : va_P E.1 vwCl (mW E m0 k0 q0 t0 v0 c0 o0 s0 j0 r0 f0 g0 h0 cd n K M TT VV CC (updN O1 k (64 * j + i)) b S J RR w1 w2 w3 w4 SF SM FD) H := by rw [upd_nI] at hP; exact hP
                have hD : va_D A (mW E m0 k0 q0 t0 v0 c0 o0 s0 j0 r0 f0 g0 h0 cd n K M TT VV CC (updN O1 k (64 * j + i)) b S J RR w1 w2 w3 w4 SF SM FD) := by rw [upd_nI] at hD; exact hD
                have hof : updN O1 k (64 * j + i) = layO TT VV OO j (i + 1) := by
                  show (fun q => if q = k then 64 * j + i else O1 q) = insT (layO TT VV OO j i) (laP (fun k => ahd TT VV (64 * j + i) (layO TT VV OO j i k)) i) i (64 * j + i)
                  rw [hlp]; exact ins_end _ hO
                rw [hof] at hP hD
                refine lv_iinc (v := nI (i + 1)) (lv' := [(2, .int (nI (i + 1))), (0, .ref m0), (1, .int (nI j)), (3, .int (nI (64 * j + i))), (4, .int (nI k))]) hx hb dX4_lay_74 hl (k := 2) rfl (z_inc _ 1) (by decide) rfl (fun ls hl => ?_)
                refine lv_goto (tgt := 2) hx hb dX4_lay_77 (by decide) ?_
                exact ihlp (i + 1) ls _ _ (by omega) (by omega) (lv_sub hl [1, 2, 0] rfl) hP hD hS
              · have hq2 : laP (fun k => ahd TT VV (64 * j + i) (layO TT VV OO j i k)) (k - 1) = laP (fun k => ahd TT VV (64 * j + i) (layO TT VV OO j i k)) i := by
                  rw [← hlq, laP_hit (ah := (fun k => ahd TT VV (64 * j + i) (layO TT VV OO j i k))) (by omega) (show ahd TT VV (64 * j + i) (layO TT VV OO j i (k - 1)) = true by rw [← hOk]; exact c_3)]
                refine lv_aload_n hx hb dX4_lay_44 rfl (lv_at hl 0 rfl) ?_
                refine va_get (D := E.1) (ci := 5) (C := RX4) (T := TX4) (N := 19) hx hb hts hiX4 hown hK.1 hP 0 rfl rfl 7 (by decide) hf26 (fun _ h9 => h9) rfl dX4_lay_45 ?_
                refine lv_iload hx hb dX4_lay_48 (lv_at hl 4 rfl) ?_
                refine lv_aload_n hx hb dX4_lay_50 rfl (lv_at hl 0 rfl) ?_
                refine va_get (D := E.1) (ci := 5) (C := RX4) (T := TX4) (N := 19) hx hb hts hiX4 hown hK.1 hP 0 rfl rfl 7 (by decide) hf26 (fun _ h9 => h9) rfl dX4_lay_51 ?_
                refine lv_iload hx hb dX4_lay_54 (lv_at hl 4 rfl) ?_
                refine lv_iconst (v := nI 1) hx hb dX4_lay_56 (by decide) ?_
                refine zn_isub hx hb (by omega) dX4_lay_57 ?_
                refine zn_iald hx hb hK.1 hP 6 0 rfl rfl (by omega) (by decide) dX4_lay_58 ?_
                refine zn_iast hx hb hK.1 hP hD hS 6 0 rfl rfl (by omega) (by decide) dX4_lay_59 (fun H locs hP hD hS => ?_)
                have hP : va_P E.1 vwCl (mW E m0 k0 q0 t0 v0 c0 o0 s0 j0 r0 f0 g0 h0 cd n K M TT VV CC (updN O1 k (O1 (k - 1))) b S J RR w1 w2 w3 w4 SF SM FD) H := by rw [upd_nI] at hP; exact hP
                have hD : va_D A (mW E m0 k0 q0 t0 v0 c0 o0 s0 j0 r0 f0 g0 h0 cd n K M TT VV CC (updN O1 k (O1 (k - 1))) b S J RR w1 w2 w3 w4 SF SM FD) := by rw [upd_nI] at hD; exact hD
                refine lv_iinc (v := nI (k - 1)) (lv' := [(4, .int (nI (k - 1))), (0, .ref m0), (1, .int (nI j)), (2, .int (nI i)), (3, .int (nI (64 * j + i)))]) hx hb dX4_lay_60 hl (k := 4) rfl (z_dec 1 (by omega)) (by decide) rfl (fun ls hl => ?_)
                refine lv_goto (tgt := 22) hx hb dX4_lay_63 (by decide) ?_
                exact ihlq (k - 1) (updN O1 k (O1 (k - 1))) ls _ _ (by omega) (by omega) (hq2) (ins_step (by omega) hk hO) (lv_sub hl [1, 2, 3, 4, 0] rfl) hP hD hS
        exact lq _ i (layO TT VV OO j i) ls _ _ (Nat.lt_succ_self _) (Nat.le_refl _) (rfl) (fun q => (if_neg (by omega)).symm) (lv_sub hl [2, 3, 4, 1, 0] rfl) hP hD hS
  exact lp _ 0 ls _ _ (Nat.lt_succ_self _) (Nat.zero_le _) (lv_sub hl [1, 2, 0] rfl) hP hD hS
set_option maxHeartbeats 4000000 in
set_option maxRecDepth 100000 in
theorem kX4_item (l : Launch) (E : zE) (sz : Nat) (m0 k0 q0 t0 v0 c0 o0 s0 j0 r0 f0 g0 h0 : Nat) (cd : Int32) (n : Nat) (K M : Nat → Nat) (TT : Nat → Int32) (VV CC : Nat → Int64) (OO : Nat → Nat) (b : Nat) (S J : Nat → Nat) (RR : Nat → Bool) (w1 w2 w3 w4 : Int32) (SF SM FD : Nat → Nat) (hn : n ≤ 12) (hM : ∀ j, j < n → M j ≤ 64) (hK5 : ∀ j, j < n → K j < 5) (f k : Int32) : Met l yX4_item wsX4_item (rmL 2) (va_Pc [.ref m0, .int f, .int k] (zS E (mW E m0 k0 q0 t0 v0 c0 o0 s0 j0 r0 f0 g0 h0 cd n K M TT VV CC OO b S J RR w1 w2 w3 w4 SF SM FD) sz)) (va_Ql (fun (r9 : Int64) (_ : Unit) => r9 = itA n K M TT VV OO f k) (fun _ t9 => zW E (mW E m0 k0 q0 t0 v0 c0 o0 s0 j0 r0 f0 g0 h0 (nI 0) n K M TT VV CC (itO n K M TT VV OO f k) b S J RR w1 w2 w3 w4 SF SM FD) t9) (va_A (mW E m0 k0 q0 t0 v0 c0 o0 s0 j0 r0 f0 g0 h0 cd n K M TT VV CC OO b S J RR w1 w2 w3 w4 SF SM FD) sz)) 0 0 (va_A (mW E m0 k0 q0 t0 v0 c0 o0 s0 j0 r0 f0 g0 h0 cd n K M TT VV CC OO b S J RR w1 w2 w3 w4 SF SM FD) sz) := by
  refine z_ofWl (cc := cX4_item) (maxL := 3) (own := RX4) (by decide) rfl rfl (Nat.le_of_ble_eq_true rfl) ?_
  intro p e s m args below meth c R Q A B hP hD hA ret ls hl
  obtain ⟨hx, hb, hml, hown, hts, hK, hRf, hRl⟩ := B
  have hiX4 : ∀ w ∈ wsX40, w ∈ wsX4_item := by decide +kernel
  have hf7 := hts (.fieldLink RX4 7 "ExactFoldsModel" "kind" "[I") (by decide +kernel)
  have hf13 := hts (.fieldLink RX4 13 "ExactFoldsModel" "many" "[I") (by decide +kernel)
  have hf19 := hts (.fieldLink RX4 19 "ExactFoldsModel" "values" "[J") (by decide +kernel)
  have hf26 := hts (.fieldLink RX4 26 "ExactFoldsModel" "order" "[I") (by decide +kernel)
  have hf52 := hts (.fieldLink RX4 52 "ExactFoldsModel" "code" "I") (by decide +kernel)
  have hS : va_S A s.heap s.heap [] := va_S.rf
  have hl : lv_has ls 3 [(0, .ref m0), (1, .int f), (2, .int k)] := hl
  refine lv_aload_n hx hb dX4_item_0 rfl (lv_at hl 0 rfl) ?_
  refine lv_iconst (v := nI 0) hx hb dX4_item_1 (by decide) ?_
  refine va_put (D := E.1) (ci := 5) (v := .int (nI 0)) (ty := .int) (C := RX4) (T := TX4) (N := 19) hx hb hts hiX4 tyX4 tyX4_ok nmX4 hown hK.1 hP hD hS 0 rfl rfl 0 (by decide) hf52 (fun _ h9 => h9) rfl (by decide +kernel) rfl rfl (Nat.le_of_ble_eq_true rfl) dX4_item_2 (fun H locs hP hD hS => ?_)
  have hP : va_P E.1 vwCl (mW E m0 k0 q0 t0 v0 c0 o0 s0 j0 r0 f0 g0 h0 (nI 0) n K M TT VV CC OO b S J RR w1 w2 w3 w4 SF SM FD) H := hP
  have hD : va_D A (mW E m0 k0 q0 t0 v0 c0 o0 s0 j0 r0 f0 g0 h0 (nI 0) n K M TT VV CC OO b S J RR w1 w2 w3 w4 SF SM FD) := hD
  refine lv_aload_n hx hb dX4_item_5 rfl (lv_at hl 0 rfl) ?_
  refine lv_iload_n hx hb dX4_item_6 rfl (lv_at hl 1 rfl) ?_
  refine zc_i (W.runV ⟨hx, hb, hml, hown, hts⟩ (kX4_isFold l E m0 k0 q0 t0 v0 c0 o0 s0 j0 r0 f0 g0 h0 (nI 0) n K M TT VV CC OO b S J RR w1 w2 w3 w4 SF SM FD hn f) (cwV 1 hts gX4_item_X4_isFold rfl rfl rfl (by decide +kernel) ⟨Nat.le_trans (Nat.le_of_ble_eq_true rfl) hRf, Nat.le_trans (Nat.le_of_ble_eq_true rfl) hRl⟩) (z_preV (As := [.int f]) hP hK 0 rfl rfl) rfl rfl hl.1 rfl (lv_room (Nat.le_of_ble_eq_true rfl)) dX4_item_7 ⟨Nat.zero_le _, Nat.zero_le _⟩) ?_
  refine zb_if_eq (tgt := 37) hx hb dX4_item_10 (by decide) (fun c_1 => ?_) (fun c_1 => ?_)
  · have hfij := fd_none c_1
    refine lv_ldc2 (v := (-9223372036854775808)) hx hb hown (hts (.constantLong RX4 131 (-9223372036854775808)) (by decide +kernel)) dX4_item_37 ?_
    exact z_retl (by unfold itA; rw [hfij]; rfl) (ret _ _ _ _ (by rw [show itO n K M TT VV OO f k = OO from by unfold itO; rw [hfij]; rfl]; exact hP) hS dX4_item_40)
  · obtain ⟨j, hjj, rfl, hfij⟩ := fd_some (by omega) c_1
    have hMj := hM j hjj
    have hKj := hK5 j hjj
    refine lv_aload_n hx hb dX4_item_13 rfl (lv_at hl 0 rfl) ?_
    refine va_get (D := E.1) (ci := 5) (C := RX4) (T := TX4) (N := 19) hx hb hts hiX4 hown hK.1 hP 0 rfl rfl 2 (by decide) hf7 (fun _ h9 => h9) rfl dX4_item_14 ?_
    refine lv_iload_n hx hb dX4_item_17 rfl (lv_at hl 1 rfl) ?_
    refine zn_iald hx hb hK.1 hP 1 0 rfl rfl (by omega) (by decide) dX4_item_18 ?_
    refine lv_iconst (v := nI 1) hx hb dX4_item_19 (by decide) ?_
    refine zn_icmp_eq (tgt := 37) hx hb dX4_item_20 (by decide) (by omega) (by omega) (fun c_2 => ?_) (fun c_2 => ?_)
    · refine lv_ldc2 (v := (-9223372036854775808)) hx hb hown (hts (.constantLong RX4 131 (-9223372036854775808)) (by decide +kernel)) dX4_item_37 ?_
      exact z_retl (by unfold itA; rw [hfij]; show _ = (if K j = 1 then (-9223372036854775808) else (fidx (M j) k).elim (-9223372036854775808) (fun i => ordV TT VV OO j (M j) i)); rw [if_pos c_2]) (ret _ _ _ _ (by rw [show itO n K M TT VV OO (nI j) k = OO from by unfold itO; rw [hfij]; show (if K j = 1 then OO else (fidx (M j) k).elim OO (fun _ => layO TT VV OO j (M j))) = _; rw [if_pos c_2]]; exact hP) hS dX4_item_40)
    · refine lv_iload_n hx hb dX4_item_23 rfl (lv_at hl 2 rfl) ?_
      refine lv_if_lt (tgt := 37) hx hb dX4_item_24 (by decide) (fun c_3 => ?_) (fun c_3 => ?_)
      · refine lv_ldc2 (v := (-9223372036854775808)) hx hb hown (hts (.constantLong RX4 131 (-9223372036854775808)) (by decide +kernel)) dX4_item_37 ?_
        exact z_retl (by unfold itA; rw [hfij]; show _ = (if K j = 1 then (-9223372036854775808) else (fidx (M j) k).elim (-9223372036854775808) (fun i => ordV TT VV OO j (M j) i)); rw [if_neg c_2, show fidx (M j) k = none from by unfold fidx; rw [if_neg (fun q => q.1 c_3)]]; rfl) (ret _ _ _ _ (by rw [show itO n K M TT VV OO (nI j) k = OO from by unfold itO; rw [hfij]; show (if K j = 1 then OO else (fidx (M j) k).elim OO (fun _ => layO TT VV OO j (M j))) = _; rw [if_neg c_2, show fidx (M j) k = none from by unfold fidx; rw [if_neg (fun q => q.1 c_3)]]; rfl]; exact hP) hS dX4_item_40)
      · refine lv_iload_n hx hb dX4_item_27 rfl (lv_at hl 2 rfl) ?_
        refine lv_aload_n hx hb dX4_item_28 rfl (lv_at hl 0 rfl) ?_
        refine va_get (D := E.1) (ci := 5) (C := RX4) (T := TX4) (N := 19) hx hb hts hiX4 hown hK.1 hP 0 rfl rfl 3 (by decide) hf13 (fun _ h9 => h9) rfl dX4_item_29 ?_
        refine lv_iload_n hx hb dX4_item_32 rfl (lv_at hl 1 rfl) ?_
        refine zn_iald hx hb hK.1 hP 2 0 rfl rfl (by omega) (by decide) dX4_item_33 ?_
        refine lv_icmp_lt (tgt := 41) hx hb dX4_item_34 (by decide) (fun c_4 => ?_) (fun c_4 => ?_)
        · obtain ⟨i, hi, rfl⟩ := fi_of (n := M j) (by omega) c_3 (nle_of_lt c_4)
          have hin := layO_in TT VV OO j (M j) i hi
          refine lv_aload_n hx hb dX4_item_41 rfl (lv_at hl 0 rfl) ?_
          refine lv_iload_n hx hb dX4_item_42 rfl (lv_at hl 1 rfl) ?_
          refine zall_v (wc' := (mW E m0 k0 q0 t0 v0 c0 o0 s0 j0 r0 f0 g0 h0 (nI 0) n K M TT VV CC (layO TT VV OO j (M j)) b S J RR w1 w2 w3 w4 SF SM FD)) (va_runV ⟨hx, hb, hml, hown, hts⟩ (kX4_lay l E _ m0 k0 q0 t0 v0 c0 o0 s0 j0 r0 f0 g0 h0 (nI 0) n K M TT VV CC OO b S J RR w1 w2 w3 w4 SF SM FD hn hM j hjj) (cwV 1 hts gX4_item_X4_lay rfl rfl rfl (by decide +kernel) ⟨Nat.le_trans (Nat.le_of_ble_eq_true rfl) hRf, Nat.le_trans (Nat.le_of_ble_eq_true rfl) hRl⟩) (z_preWV (As := [.int (nI j)]) hP hD hK 0 rfl rfl) rfl rfl hl.1 rfl (lv_room (Nat.le_of_ble_eq_true rfl)) dX4_item_43 ⟨Nat.zero_le _, Nat.zero_le _⟩) hD hS hA rfl (fun H locs hP hD hS => ?_)
          refine lv_aload_n hx hb dX4_item_46 rfl (lv_at hl 0 rfl) ?_
          refine va_get (D := E.1) (ci := 5) (C := RX4) (T := TX4) (N := 19) hx hb hts hiX4 hown hK.1 hP 0 rfl rfl 5 (by decide) hf19 (fun _ h9 => h9) rfl dX4_item_47 ?_
          refine lv_aload_n hx hb dX4_item_50 rfl (lv_at hl 0 rfl) ?_
          refine va_get (D := E.1) (ci := 5) (C := RX4) (T := TX4) (N := 19) hx hb hts hiX4 hown hK.1 hP 0 rfl rfl 7 (by decide) hf26 (fun _ h9 => h9) rfl dX4_item_51 ?_
          refine lv_iload_n hx hb dX4_item_54 rfl (lv_at hl 2 rfl) ?_
          refine zn_iald hx hb hK.1 hP 6 0 rfl rfl (by omega) (by decide) dX4_item_55 ?_
          refine zn_lald hx hb hK.1 hP 4 1 rfl rfl (by omega) (by decide) dX4_item_56 ?_
          exact z_retl (by unfold itA; rw [hfij]; show _ = (if K j = 1 then (-9223372036854775808) else (fidx (M j) (nI i)).elim (-9223372036854775808) (fun i => ordV TT VV OO j (M j) i)); rw [if_neg c_2, fidx_n hi (by omega)]; rfl) (ret _ _ _ _ (by rw [show itO n K M TT VV OO (nI j) (nI i) = layO TT VV OO j (M j) from by unfold itO; rw [hfij]; show (if K j = 1 then OO else (fidx (M j) (nI i)).elim OO (fun _ => layO TT VV OO j (M j))) = _; rw [if_neg c_2, fidx_n hi (by omega)]; rfl]; exact hP) hS dX4_item_57)
        · refine lv_ldc2 (v := (-9223372036854775808)) hx hb hown (hts (.constantLong RX4 131 (-9223372036854775808)) (by decide +kernel)) dX4_item_37 ?_
          exact z_retl (by unfold itA; rw [hfij]; show _ = (if K j = 1 then (-9223372036854775808) else (fidx (M j) k).elim (-9223372036854775808) (fun i => ordV TT VV OO j (M j) i)); rw [if_neg c_2, show fidx (M j) k = none from by unfold fidx; rw [if_neg (fun q => c_4 (gt_of_nle q.2))]]; rfl) (ret _ _ _ _ (by rw [show itO n K M TT VV OO (nI j) k = OO from by unfold itO; rw [hfij]; show (if K j = 1 then OO else (fidx (M j) k).elim OO (fun _ => layO TT VV OO j (M j))) = _; rw [if_neg c_2, show fidx (M j) k = none from by unfold fidx; rw [if_neg (fun q => c_4 (gt_of_nle q.2))]]; rfl]; exact hP) hS dX4_item_40)
set_option maxHeartbeats 4000000 in
set_option maxRecDepth 100000 in
theorem kX4_isState (l : Launch) (E : zE) (s_ : Int32) : Met l yX4_isState wsX4_isState (rmL 0) (va_Pc [.int s_] (zW E [])) (vp_Si (fun r9 => r9 = bI (isSt s_))) 0 0 (fun _ => False) := by
  refine z_ofRz (cc := cX4_isState) (maxL := 1) (own := RX4) (by decide) rfl rfl (Nat.le_of_ble_eq_true rfl) ?_
  intro p e s m args below meth c R Q B hP ret ls hl
  obtain ⟨hx, hb, hml, hown, hts, hK, hRf, hRl⟩ := B
  have hl : lv_has ls 1 [(0, .int s_)] := hl
  refine lv_iload_n hx hb dX4_isState_0 rfl (lv_at hl 0 rfl) ?_
  refine lv_if_lt (tgt := 14) hx hb dX4_isState_1 (by decide) (fun c_1 => ?_) (fun c_1 => ?_)
  · refine lv_iconst (v := nI 0) hx hb dX4_isState_14 (by decide) ?_
    exact z_reti (by rw [show isSt s_ = false from by unfold isSt; simp [c_1]]; rfl) (ret _ _ dX4_isState_15)
  · refine lv_iload_n hx hb dX4_isState_4 rfl (lv_at hl 0 rfl) ?_
    refine lv_bipush (v := nI 8) hx hb dX4_isState_5 (by decide) ?_
    refine lv_icmp_ge (tgt := 14) hx hb dX4_isState_7 (by decide) (fun c_2 => ?_) (fun c_2 => ?_)
    · refine lv_iconst (v := nI 0) hx hb dX4_isState_14 (by decide) ?_
      exact z_reti (by rw [show isSt s_ = false from by unfold isSt; simp [c_1, c_2]]; rfl) (ret _ _ dX4_isState_15)
    · refine lv_iconst (v := nI 1) hx hb dX4_isState_10 (by decide) ?_
      refine lv_goto (tgt := 15) hx hb dX4_isState_11 (by decide) ?_
      exact z_reti (by rw [show isSt s_ = true from by unfold isSt; simp [c_1, c_2]]; rfl) (ret _ _ dX4_isState_15)
set_option maxHeartbeats 4000000 in
set_option maxRecDepth 100000 in
theorem kX4_start (l : Launch) (E : zE) (sz : Nat) (m0 k0 q0 t0 v0 c0 o0 s0 j0 r0 f0 g0 h0 : Nat) (cd : Int32) (n : Nat) (K M : Nat → Nat) (TT : Nat → Int32) (VV CC : Nat → Int64) (OO : Nat → Nat) (b : Nat) (S J : Nat → Nat) (RR : Nat → Bool) (w1 w2 w3 w4 : Int32) (SF SM FD : Nat → Nat) (hn : n ≤ 12) (s_ : Int32) : Met l yX4_start wsX4_start (rmL 1) (va_Pc [.ref m0, .int s_] (zS E (mW E m0 k0 q0 t0 v0 c0 o0 s0 j0 r0 f0 g0 h0 cd n K M TT VV CC OO b S J RR w1 w2 w3 w4 SF SM FD) sz)) (va_Qi (fun (r9 : Int32) (_ : Unit) => r9 = stA b s_) (fun _ t9 => zW E (mW E m0 k0 q0 t0 v0 c0 o0 s0 j0 r0 f0 g0 h0 (nI 0) n K M TT VV CC OO (stB b s_) S J RR w1 w2 w3 w4 SF SM FD) t9) (va_A (mW E m0 k0 q0 t0 v0 c0 o0 s0 j0 r0 f0 g0 h0 cd n K M TT VV CC OO b S J RR w1 w2 w3 w4 SF SM FD) sz)) 0 0 (va_A (mW E m0 k0 q0 t0 v0 c0 o0 s0 j0 r0 f0 g0 h0 cd n K M TT VV CC OO b S J RR w1 w2 w3 w4 SF SM FD) sz) := by
  refine z_ofWi (cc := cX4_start) (maxL := 3) (own := RX4) (by decide) rfl rfl (Nat.le_of_ble_eq_true rfl) ?_
  intro p e s m args below meth c R Q A B hP hD hA ret ls hl
  obtain ⟨hx, hb, hml, hown, hts, hK, hRf, hRl⟩ := B
  have hiX4 : ∀ w ∈ wsX40, w ∈ wsX4_start := by decide +kernel
  have hf52 := hts (.fieldLink RX4 52 "ExactFoldsModel" "code" "I") (by decide +kernel)
  have hf155 := hts (.fieldLink RX4 155 "ExactFoldsModel" "begin" "I") (by decide +kernel)
  have hS : va_S A s.heap s.heap [] := va_S.rf
  have hl : lv_has ls 3 [(0, .ref m0), (1, .int s_)] := hl
  refine lv_aload_n hx hb dX4_start_0 rfl (lv_at hl 0 rfl) ?_
  refine lv_iconst (v := nI 0) hx hb dX4_start_1 (by decide) ?_
  refine va_put (D := E.1) (ci := 5) (v := .int (nI 0)) (ty := .int) (C := RX4) (T := TX4) (N := 19) hx hb hts hiX4 tyX4 tyX4_ok nmX4 hown hK.1 hP hD hS 0 rfl rfl 0 (by decide) hf52 (fun _ h9 => h9) rfl (by decide +kernel) rfl rfl (Nat.le_of_ble_eq_true rfl) dX4_start_2 (fun H locs hP hD hS => ?_)
  have hP : va_P E.1 vwCl (mW E m0 k0 q0 t0 v0 c0 o0 s0 j0 r0 f0 g0 h0 (nI 0) n K M TT VV CC OO b S J RR w1 w2 w3 w4 SF SM FD) H := hP
  have hD : va_D A (mW E m0 k0 q0 t0 v0 c0 o0 s0 j0 r0 f0 g0 h0 (nI 0) n K M TT VV CC OO b S J RR w1 w2 w3 w4 SF SM FD) := hD
  refine lv_iload_n hx hb dX4_start_5 rfl (lv_at hl 1 rfl) ?_
  refine zc_i (W.runS ⟨hx, hb, hml, hown, hts⟩ (kX4_isState l E s_) (cwS 1 hts gX4_start_X4_isState rfl rfl rfl (by decide +kernel) ⟨Nat.le_trans (Nat.le_of_ble_eq_true rfl) hRf, Nat.le_trans (Nat.le_of_ble_eq_true rfl) hRl⟩) (z_preR (av := [.int s_]) (hP.sub (ws' := []) [] rfl) hK) rfl rfl hl.1 rfl (lv_room (Nat.le_of_ble_eq_true rfl)) dX4_start_6 ⟨Nat.zero_le _, Nat.zero_le _⟩) ?_
  refine zb_if_ne (tgt := 15) hx hb dX4_start_9 (by decide) (fun c_1 => ?_) (fun c_1 => ?_)
  · obtain ⟨j, hj, rfl⟩ := isSt_of c_1
    refine lv_aload_n hx hb dX4_start_15 rfl (lv_at hl 0 rfl) ?_
    refine va_get (D := E.1) (ci := 5) (C := RX4) (T := TX4) (N := 19) hx hb hts hiX4 hown hK.1 hP 0 rfl rfl 8 (by decide) hf155 (fun _ h9 => h9) rfl dX4_start_16 ?_
    refine lv_istore_n (lv' := [(2, .int (nI b)), (0, .ref m0), (1, .int (nI j))]) hx hb dX4_start_19 rfl hl (by decide) rfl (fun ls hl => ?_)
    refine lv_aload_n hx hb dX4_start_20 rfl (lv_at hl 1 rfl) ?_
    refine lv_iload_n hx hb dX4_start_21 rfl (lv_at hl 2 rfl) ?_
    refine va_put (D := E.1) (ci := 5) (v := .int (nI j)) (ty := .int) (C := RX4) (T := TX4) (N := 19) hx hb hts hiX4 tyX4 tyX4_ok nmX4 hown hK.1 hP hD hS 0 rfl rfl 8 (by decide) hf155 (fun _ h9 => h9) rfl (by decide +kernel) rfl rfl (Nat.le_of_ble_eq_true rfl) dX4_start_22 (fun H locs hP hD hS => ?_)
    have hP : va_P E.1 vwCl (mW E m0 k0 q0 t0 v0 c0 o0 s0 j0 r0 f0 g0 h0 (nI 0) n K M TT VV CC OO j S J RR w1 w2 w3 w4 SF SM FD) H := hP
    have hD : va_D A (mW E m0 k0 q0 t0 v0 c0 o0 s0 j0 r0 f0 g0 h0 (nI 0) n K M TT VV CC OO j S J RR w1 w2 w3 w4 SF SM FD) := hD
    refine lv_iload_n hx hb dX4_start_25 rfl (lv_at hl 0 rfl) ?_
    exact z_reti (by unfold stA; rw [if_pos c_1]) (ret _ _ _ _ (by rw [show stB b (nI j) = j from by unfold stB; rw [if_pos c_1]; exact nI_clamp (by omega)]; exact hP) hS dX4_start_26)
  · refine lv_bipush (v := (-2)) hx hb dX4_start_12 (by decide) ?_
    exact z_reti (by unfold stA; rw [if_neg (by rw [c_1]; exact Bool.false_ne_true)]) (ret _ _ _ _ (by rw [show stB b s_ = b from by unfold stB; rw [if_neg (by rw [c_1]; exact Bool.false_ne_true)]]; exact hP) hS dX4_start_14)
set_option maxHeartbeats 4000000 in
set_option maxRecDepth 100000 in
theorem kX4_step (l : Launch) (E : zE) (sz : Nat) (m0 k0 q0 t0 v0 c0 o0 s0 j0 r0 f0 g0 h0 : Nat) (cd : Int32) (n : Nat) (K M : Nat → Nat) (TT : Nat → Int32) (VV CC : Nat → Int64) (OO : Nat → Nat) (b : Nat) (S J : Nat → Nat) (RR : Nat → Bool) (w1 w2 w3 w4 : Int32) (SF SM FD : Nat → Nat) (hn : n ≤ 12) (s_ v_ to : Int32) : Met l yX4_step wsX4_step (rmL 1) (va_Pc [.ref m0, .int s_, .int v_, .int to] (zS E (mW E m0 k0 q0 t0 v0 c0 o0 s0 j0 r0 f0 g0 h0 cd n K M TT VV CC OO b S J RR w1 w2 w3 w4 SF SM FD) sz)) (va_Qi (fun (r9 : Int32) (_ : Unit) => r9 = spA S s_ v_ to) (fun _ t9 => zW E (mW E m0 k0 q0 t0 v0 c0 o0 s0 j0 r0 f0 g0 h0 (nI 0) n K M TT VV CC OO b (spS S s_ v_ to) J RR w1 w2 w3 w4 SF SM FD) t9) (va_A (mW E m0 k0 q0 t0 v0 c0 o0 s0 j0 r0 f0 g0 h0 cd n K M TT VV CC OO b S J RR w1 w2 w3 w4 SF SM FD) sz)) 0 0 (va_A (mW E m0 k0 q0 t0 v0 c0 o0 s0 j0 r0 f0 g0 h0 cd n K M TT VV CC OO b S J RR w1 w2 w3 w4 SF SM FD) sz) := by
  refine z_ofWi (cc := cX4_step) (maxL := 5) (own := RX4) (by decide) rfl rfl (Nat.le_of_ble_eq_true rfl) ?_
  intro p e s m args below meth c R Q A B hP hD hA ret ls hl
  obtain ⟨hx, hb, hml, hown, hts, hK, hRf, hRl⟩ := B
  have hiX4 : ∀ w ∈ wsX40, w ∈ wsX4_step := by decide +kernel
  have hf29 := hts (.fieldLink RX4 29 "ExactFoldsModel" "steps" "[I") (by decide +kernel)
  have hf52 := hts (.fieldLink RX4 52 "ExactFoldsModel" "code" "I") (by decide +kernel)
  have hS : va_S A s.heap s.heap [] := va_S.rf
  have hl : lv_has ls 5 [(0, .ref m0), (1, .int s_), (2, .int v_), (3, .int to)] := hl
  refine lv_aload_n hx hb dX4_step_0 rfl (lv_at hl 0 rfl) ?_
  refine lv_iconst (v := nI 0) hx hb dX4_step_1 (by decide) ?_
  refine va_put (D := E.1) (ci := 5) (v := .int (nI 0)) (ty := .int) (C := RX4) (T := TX4) (N := 19) hx hb hts hiX4 tyX4 tyX4_ok nmX4 hown hK.1 hP hD hS 0 rfl rfl 0 (by decide) hf52 (fun _ h9 => h9) rfl (by decide +kernel) rfl rfl (Nat.le_of_ble_eq_true rfl) dX4_step_2 (fun H locs hP hD hS => ?_)
  have hP : va_P E.1 vwCl (mW E m0 k0 q0 t0 v0 c0 o0 s0 j0 r0 f0 g0 h0 (nI 0) n K M TT VV CC OO b S J RR w1 w2 w3 w4 SF SM FD) H := hP
  have hD : va_D A (mW E m0 k0 q0 t0 v0 c0 o0 s0 j0 r0 f0 g0 h0 (nI 0) n K M TT VV CC OO b S J RR w1 w2 w3 w4 SF SM FD) := hD
  refine lv_iload_n hx hb dX4_step_5 rfl (lv_at hl 1 rfl) ?_
  refine zc_i (W.runS ⟨hx, hb, hml, hown, hts⟩ (kX4_isState l E s_) (cwS 1 hts gX4_step_X4_isState rfl rfl rfl (by decide +kernel) ⟨Nat.le_trans (Nat.le_of_ble_eq_true rfl) hRf, Nat.le_trans (Nat.le_of_ble_eq_true rfl) hRl⟩) (z_preR (av := [.int s_]) (hP.sub (ws' := []) [] rfl) hK) rfl rfl hl.1 rfl (lv_room (Nat.le_of_ble_eq_true rfl)) dX4_step_6 ⟨Nat.zero_le _, Nat.zero_le _⟩) ?_
  refine zb_if_eq (tgt := 31) hx hb dX4_step_9 (by decide) (fun c_1 => ?_) (fun c_1 => ?_)
  · refine lv_bipush (v := (-2)) hx hb dX4_step_31 (by decide) ?_
    exact z_reti (by unfold spA; rw [if_neg (show ¬ spOk s_ v_ to from by unfold spOk; exact fun q => by have := q.1; rw [c_1] at this; cases this)]) (ret _ _ _ _ (by unfold spS; rw [if_neg (show ¬ spOk s_ v_ to from by unfold spOk; exact fun q => by have := q.1; rw [c_1] at this; cases this)]; exact hP) hS dX4_step_33)
  · obtain ⟨j1, hj1, rfl⟩ := isSt_of c_1
    refine lv_iload_n hx hb dX4_step_12 rfl (lv_at hl 2 rfl) ?_
    refine lv_i2l hx hb dX4_step_13 rfl ?_
    refine lv_lconst (v := 0) hx hb dX4_step_14 rfl ?_
    refine lv_ldc2 (v := 3) hx hb hown (hts (.constantLong RX4 71 (3)) (by decide +kernel)) dX4_step_15 ?_
    refine zc_i (W.runS ⟨hx, hb, hml, hown, hts⟩ (kX4_in l E v_.toInt64 0 3) (cwS 3 hts gX4_step_X4_in rfl rfl rfl (by decide +kernel) ⟨Nat.le_trans (Nat.le_of_ble_eq_true rfl) hRf, Nat.le_trans (Nat.le_of_ble_eq_true rfl) hRl⟩) (z_preR (av := [.long v_.toInt64, .long 0, .long 3]) (hP.sub (ws' := []) [] rfl) hK) rfl rfl hl.1 rfl (lv_room (Nat.le_of_ble_eq_true rfl)) dX4_step_18 ⟨Nat.zero_le _, Nat.zero_le _⟩) ?_
    refine zb_if_eq (tgt := 31) hx hb dX4_step_21 (by decide) (fun c_2 => ?_) (fun c_2 => ?_)
    · refine lv_bipush (v := (-2)) hx hb dX4_step_31 (by decide) ?_
      exact z_reti (by unfold spA; rw [if_neg (show ¬ spOk (nI j1) v_ to from by unfold spOk; exact fun q => (inw3_f c_2).elim q.2.1 (fun h9 => q.2.2.1 h9))]) (ret _ _ _ _ (by unfold spS; rw [if_neg (show ¬ spOk (nI j1) v_ to from by unfold spOk; exact fun q => (inw3_f c_2).elim q.2.1 (fun h9 => q.2.2.1 h9))]; exact hP) hS dX4_step_33)
    · obtain ⟨j2, hj2, rfl⟩ := fi_of (n := 4) (by decide) (inw3_t c_2).1 (inw3_t c_2).2
      refine lv_iload_n hx hb dX4_step_24 rfl (lv_at hl 3 rfl) ?_
      refine zc_i (W.runS ⟨hx, hb, hml, hown, hts⟩ (kX4_isState l E to) (cwS 1 hts gX4_step_X4_isState rfl rfl rfl (by decide +kernel) ⟨Nat.le_trans (Nat.le_of_ble_eq_true rfl) hRf, Nat.le_trans (Nat.le_of_ble_eq_true rfl) hRl⟩) (z_preR (av := [.int to]) (hP.sub (ws' := []) [] rfl) hK) rfl rfl hl.1 rfl (lv_room (Nat.le_of_ble_eq_true rfl)) dX4_step_25 ⟨Nat.zero_le _, Nat.zero_le _⟩) ?_
      refine zb_if_ne (tgt := 34) hx hb dX4_step_28 (by decide) (fun c_3 => ?_) (fun c_3 => ?_)
      · obtain ⟨j3, hj3, rfl⟩ := isSt_of c_3
        refine lv_aload_n hx hb dX4_step_34 rfl (lv_at hl 0 rfl) ?_
        refine va_get (D := E.1) (ci := 5) (C := RX4) (T := TX4) (N := 19) hx hb hts hiX4 hown hK.1 hP 0 rfl rfl 9 (by decide) hf29 (fun _ h9 => h9) rfl dX4_step_35 ?_
        refine lv_iconst (v := nI 4) hx hb dX4_step_38 (by decide) ?_
        refine lv_iload_n hx hb dX4_step_39 rfl (lv_at hl 1 rfl) ?_
        refine zn_imul hx hb dX4_step_40 ?_
        refine lv_iload_n hx hb dX4_step_41 rfl (lv_at hl 2 rfl) ?_
        refine zn_iadd hx hb dX4_step_42 ?_
        refine zn_iald hx hb hK.1 hP 7 0 rfl rfl (by omega) (by decide) dX4_step_43 ?_
        refine lv_istore (lv' := [(4, .int (nI (S ((4 * j1) + j2)))), (0, .ref m0), (1, .int (nI j1)), (2, .int (nI j2)), (3, .int (nI j3))]) hx hb dX4_step_44 hl (by decide) rfl (fun ls hl => ?_)
        refine lv_aload_n hx hb dX4_step_46 rfl (lv_at hl 1 rfl) ?_
        refine va_get (D := E.1) (ci := 5) (C := RX4) (T := TX4) (N := 19) hx hb hts hiX4 hown hK.1 hP 0 rfl rfl 9 (by decide) hf29 (fun _ h9 => h9) rfl dX4_step_47 ?_
        refine lv_iconst (v := nI 4) hx hb dX4_step_50 (by decide) ?_
        refine lv_iload_n hx hb dX4_step_51 rfl (lv_at hl 2 rfl) ?_
        refine zn_imul hx hb dX4_step_52 ?_
        refine lv_iload_n hx hb dX4_step_53 rfl (lv_at hl 3 rfl) ?_
        refine zn_iadd hx hb dX4_step_54 ?_
        refine lv_iload_n hx hb dX4_step_55 rfl (lv_at hl 4 rfl) ?_
        refine zn_iast hx hb hK.1 hP hD hS 7 0 rfl rfl (by omega) (by decide) dX4_step_56 (fun H locs hP hD hS => ?_)
        have hP : va_P E.1 vwCl (mW E m0 k0 q0 t0 v0 c0 o0 s0 j0 r0 f0 g0 h0 (nI 0) n K M TT VV CC OO b (updN S ((4 * j1) + j2) j3) J RR w1 w2 w3 w4 SF SM FD) H := by rw [upd_nI] at hP; exact hP
        have hD : va_D A (mW E m0 k0 q0 t0 v0 c0 o0 s0 j0 r0 f0 g0 h0 (nI 0) n K M TT VV CC OO b (updN S ((4 * j1) + j2) j3) J RR w1 w2 w3 w4 SF SM FD) := by rw [upd_nI] at hD; exact hD
        refine lv_iload hx hb dX4_step_57 (lv_at hl 0 rfl) ?_
        exact z_reti (by unfold spA; rw [if_pos (show spOk (nI j1) (nI j2) (nI j3) from by unfold spOk; exact ⟨c_1, (inw3_t c_2).1, (inw3_t c_2).2, c_3⟩)]; rw [nI_clamp (by omega), nI_clamp (by omega), Nat.mul_comm]) (ret _ _ _ _ (by unfold spS; rw [if_pos (show spOk (nI j1) (nI j2) (nI j3) from by unfold spOk; exact ⟨c_1, (inw3_t c_2).1, (inw3_t c_2).2, c_3⟩)]; rw [nI_clamp (by omega), nI_clamp (by omega), nI_clamp (by omega), Nat.mul_comm]; exact hP) hS dX4_step_59)
      · refine lv_bipush (v := (-2)) hx hb dX4_step_31 (by decide) ?_
        exact z_reti (by unfold spA; rw [if_neg (show ¬ spOk (nI j1) (nI j2) to from by unfold spOk; exact fun q => by have := q.2.2.2; rw [c_3] at this; cases this)]) (ret _ _ _ _ (by unfold spS; rw [if_neg (show ¬ spOk (nI j1) (nI j2) to from by unfold spOk; exact fun q => by have := q.2.2.2; rw [c_3] at this; cases this)]; exact hP) hS dX4_step_33)
set_option maxHeartbeats 4000000 in
set_option maxRecDepth 100000 in
theorem kX4_join (l : Launch) (E : zE) (sz : Nat) (m0 k0 q0 t0 v0 c0 o0 s0 j0 r0 f0 g0 h0 : Nat) (cd : Int32) (n : Nat) (K M : Nat → Nat) (TT : Nat → Int32) (VV CC : Nat → Int64) (OO : Nat → Nat) (b : Nat) (S J : Nat → Nat) (RR : Nat → Bool) (w1 w2 w3 w4 : Int32) (SF SM FD : Nat → Nat) (hn : n ≤ 12) (s_ t_ to : Int32) : Met l yX4_join wsX4_join (rmL 1) (va_Pc [.ref m0, .int s_, .int t_, .int to] (zS E (mW E m0 k0 q0 t0 v0 c0 o0 s0 j0 r0 f0 g0 h0 cd n K M TT VV CC OO b S J RR w1 w2 w3 w4 SF SM FD) sz)) (va_Qi (fun (r9 : Int32) (_ : Unit) => r9 = jnA J s_ t_ to) (fun _ t9 => zW E (mW E m0 k0 q0 t0 v0 c0 o0 s0 j0 r0 f0 g0 h0 (nI 0) n K M TT VV CC OO b S (jnJ J s_ t_ to) RR w1 w2 w3 w4 SF SM FD) t9) (va_A (mW E m0 k0 q0 t0 v0 c0 o0 s0 j0 r0 f0 g0 h0 cd n K M TT VV CC OO b S J RR w1 w2 w3 w4 SF SM FD) sz)) 0 0 (va_A (mW E m0 k0 q0 t0 v0 c0 o0 s0 j0 r0 f0 g0 h0 cd n K M TT VV CC OO b S J RR w1 w2 w3 w4 SF SM FD) sz) := by
  refine z_ofWi (cc := cX4_join) (maxL := 5) (own := RX4) (by decide) rfl rfl (Nat.le_of_ble_eq_true rfl) ?_
  intro p e s m args below meth c R Q A B hP hD hA ret ls hl
  obtain ⟨hx, hb, hml, hown, hts, hK, hRf, hRl⟩ := B
  have hiX4 : ∀ w ∈ wsX40, w ∈ wsX4_join := by decide +kernel
  have hf32 := hts (.fieldLink RX4 32 "ExactFoldsModel" "joins" "[I") (by decide +kernel)
  have hf52 := hts (.fieldLink RX4 52 "ExactFoldsModel" "code" "I") (by decide +kernel)
  have hS : va_S A s.heap s.heap [] := va_S.rf
  have hl : lv_has ls 5 [(0, .ref m0), (1, .int s_), (2, .int t_), (3, .int to)] := hl
  refine lv_aload_n hx hb dX4_join_0 rfl (lv_at hl 0 rfl) ?_
  refine lv_iconst (v := nI 0) hx hb dX4_join_1 (by decide) ?_
  refine va_put (D := E.1) (ci := 5) (v := .int (nI 0)) (ty := .int) (C := RX4) (T := TX4) (N := 19) hx hb hts hiX4 tyX4 tyX4_ok nmX4 hown hK.1 hP hD hS 0 rfl rfl 0 (by decide) hf52 (fun _ h9 => h9) rfl (by decide +kernel) rfl rfl (Nat.le_of_ble_eq_true rfl) dX4_join_2 (fun H locs hP hD hS => ?_)
  have hP : va_P E.1 vwCl (mW E m0 k0 q0 t0 v0 c0 o0 s0 j0 r0 f0 g0 h0 (nI 0) n K M TT VV CC OO b S J RR w1 w2 w3 w4 SF SM FD) H := hP
  have hD : va_D A (mW E m0 k0 q0 t0 v0 c0 o0 s0 j0 r0 f0 g0 h0 (nI 0) n K M TT VV CC OO b S J RR w1 w2 w3 w4 SF SM FD) := hD
  refine lv_iload_n hx hb dX4_join_5 rfl (lv_at hl 1 rfl) ?_
  refine zc_i (W.runS ⟨hx, hb, hml, hown, hts⟩ (kX4_isState l E s_) (cwS 1 hts gX4_join_X4_isState rfl rfl rfl (by decide +kernel) ⟨Nat.le_trans (Nat.le_of_ble_eq_true rfl) hRf, Nat.le_trans (Nat.le_of_ble_eq_true rfl) hRl⟩) (z_preR (av := [.int s_]) (hP.sub (ws' := []) [] rfl) hK) rfl rfl hl.1 rfl (lv_room (Nat.le_of_ble_eq_true rfl)) dX4_join_6 ⟨Nat.zero_le _, Nat.zero_le _⟩) ?_
  refine zb_if_eq (tgt := 26) hx hb dX4_join_9 (by decide) (fun c_1 => ?_) (fun c_1 => ?_)
  · refine lv_bipush (v := (-2)) hx hb dX4_join_26 (by decide) ?_
    exact z_reti (by unfold jnA; rw [if_neg (show ¬ jnOk s_ t_ to from by unfold jnOk; exact fun q => by have := q.1; rw [c_1] at this; cases this)]) (ret _ _ _ _ (by unfold jnJ; rw [if_neg (show ¬ jnOk s_ t_ to from by unfold jnOk; exact fun q => by have := q.1; rw [c_1] at this; cases this)]; exact hP) hS dX4_join_28)
  · obtain ⟨j1, hj1, rfl⟩ := isSt_of c_1
    refine lv_iload_n hx hb dX4_join_12 rfl (lv_at hl 2 rfl) ?_
    refine zc_i (W.runS ⟨hx, hb, hml, hown, hts⟩ (kX4_isState l E t_) (cwS 1 hts gX4_join_X4_isState rfl rfl rfl (by decide +kernel) ⟨Nat.le_trans (Nat.le_of_ble_eq_true rfl) hRf, Nat.le_trans (Nat.le_of_ble_eq_true rfl) hRl⟩) (z_preR (av := [.int t_]) (hP.sub (ws' := []) [] rfl) hK) rfl rfl hl.1 rfl (lv_room (Nat.le_of_ble_eq_true rfl)) dX4_join_13 ⟨Nat.zero_le _, Nat.zero_le _⟩) ?_
    refine zb_if_eq (tgt := 26) hx hb dX4_join_16 (by decide) (fun c_2 => ?_) (fun c_2 => ?_)
    · refine lv_bipush (v := (-2)) hx hb dX4_join_26 (by decide) ?_
      exact z_reti (by unfold jnA; rw [if_neg (show ¬ jnOk (nI j1) t_ to from by unfold jnOk; exact fun q => by have := q.2.1; rw [c_2] at this; cases this)]) (ret _ _ _ _ (by unfold jnJ; rw [if_neg (show ¬ jnOk (nI j1) t_ to from by unfold jnOk; exact fun q => by have := q.2.1; rw [c_2] at this; cases this)]; exact hP) hS dX4_join_28)
    · obtain ⟨j2, hj2, rfl⟩ := isSt_of c_2
      refine lv_iload_n hx hb dX4_join_19 rfl (lv_at hl 3 rfl) ?_
      refine zc_i (W.runS ⟨hx, hb, hml, hown, hts⟩ (kX4_isState l E to) (cwS 1 hts gX4_join_X4_isState rfl rfl rfl (by decide +kernel) ⟨Nat.le_trans (Nat.le_of_ble_eq_true rfl) hRf, Nat.le_trans (Nat.le_of_ble_eq_true rfl) hRl⟩) (z_preR (av := [.int to]) (hP.sub (ws' := []) [] rfl) hK) rfl rfl hl.1 rfl (lv_room (Nat.le_of_ble_eq_true rfl)) dX4_join_20 ⟨Nat.zero_le _, Nat.zero_le _⟩) ?_
      refine zb_if_ne (tgt := 29) hx hb dX4_join_23 (by decide) (fun c_3 => ?_) (fun c_3 => ?_)
      · obtain ⟨j3, hj3, rfl⟩ := isSt_of c_3
        refine lv_aload_n hx hb dX4_join_29 rfl (lv_at hl 0 rfl) ?_
        refine va_get (D := E.1) (ci := 5) (C := RX4) (T := TX4) (N := 19) hx hb hts hiX4 hown hK.1 hP 0 rfl rfl 10 (by decide) hf32 (fun _ h9 => h9) rfl dX4_join_30 ?_
        refine lv_bipush (v := nI 8) hx hb dX4_join_33 (by decide) ?_
        refine lv_iload_n hx hb dX4_join_35 rfl (lv_at hl 1 rfl) ?_
        refine zn_imul hx hb dX4_join_36 ?_
        refine lv_iload_n hx hb dX4_join_37 rfl (lv_at hl 2 rfl) ?_
        refine zn_iadd hx hb dX4_join_38 ?_
        refine zn_iald hx hb hK.1 hP 8 0 rfl rfl (by omega) (by decide) dX4_join_39 ?_
        refine lv_istore (lv' := [(4, .int (nI (J ((8 * j1) + j2)))), (0, .ref m0), (1, .int (nI j1)), (2, .int (nI j2)), (3, .int (nI j3))]) hx hb dX4_join_40 hl (by decide) rfl (fun ls hl => ?_)
        refine lv_aload_n hx hb dX4_join_42 rfl (lv_at hl 1 rfl) ?_
        refine va_get (D := E.1) (ci := 5) (C := RX4) (T := TX4) (N := 19) hx hb hts hiX4 hown hK.1 hP 0 rfl rfl 10 (by decide) hf32 (fun _ h9 => h9) rfl dX4_join_43 ?_
        refine lv_bipush (v := nI 8) hx hb dX4_join_46 (by decide) ?_
        refine lv_iload_n hx hb dX4_join_48 rfl (lv_at hl 2 rfl) ?_
        refine zn_imul hx hb dX4_join_49 ?_
        refine lv_iload_n hx hb dX4_join_50 rfl (lv_at hl 3 rfl) ?_
        refine zn_iadd hx hb dX4_join_51 ?_
        refine lv_iload_n hx hb dX4_join_52 rfl (lv_at hl 4 rfl) ?_
        refine zn_iast hx hb hK.1 hP hD hS 8 0 rfl rfl (by omega) (by decide) dX4_join_53 (fun H locs hP hD hS => ?_)
        have hP : va_P E.1 vwCl (mW E m0 k0 q0 t0 v0 c0 o0 s0 j0 r0 f0 g0 h0 (nI 0) n K M TT VV CC OO b S (updN J ((8 * j1) + j2) j3) RR w1 w2 w3 w4 SF SM FD) H := by rw [upd_nI] at hP; exact hP
        have hD : va_D A (mW E m0 k0 q0 t0 v0 c0 o0 s0 j0 r0 f0 g0 h0 (nI 0) n K M TT VV CC OO b S (updN J ((8 * j1) + j2) j3) RR w1 w2 w3 w4 SF SM FD) := by rw [upd_nI] at hD; exact hD
        refine lv_iload hx hb dX4_join_54 (lv_at hl 0 rfl) ?_
        exact z_reti (by unfold jnA; rw [if_pos (show jnOk (nI j1) (nI j2) (nI j3) from by unfold jnOk; exact ⟨c_1, c_2, c_3⟩)]; rw [nI_clamp (by omega), nI_clamp (by omega), Nat.mul_comm]) (ret _ _ _ _ (by unfold jnJ; rw [if_pos (show jnOk (nI j1) (nI j2) (nI j3) from by unfold jnOk; exact ⟨c_1, c_2, c_3⟩)]; rw [nI_clamp (by omega), nI_clamp (by omega), nI_clamp (by omega), Nat.mul_comm]; exact hP) hS dX4_join_56)
      · refine lv_bipush (v := (-2)) hx hb dX4_join_26 (by decide) ?_
        exact z_reti (by unfold jnA; rw [if_neg (show ¬ jnOk (nI j1) (nI j2) to from by unfold jnOk; exact fun q => by have := q.2.2; rw [c_3] at this; cases this)]) (ret _ _ _ _ (by unfold jnJ; rw [if_neg (show ¬ jnOk (nI j1) (nI j2) to from by unfold jnOk; exact fun q => by have := q.2.2; rw [c_3] at this; cases this)]; exact hP) hS dX4_join_28)
set_option maxHeartbeats 4000000 in
set_option maxRecDepth 100000 in
theorem kX4_state (l : Launch) (E : zE) (sz : Nat) (m0 k0 q0 t0 v0 c0 o0 s0 j0 r0 f0 g0 h0 : Nat) (cd : Int32) (n : Nat) (K M : Nat → Nat) (TT : Nat → Int32) (VV CC : Nat → Int64) (OO : Nat → Nat) (b : Nat) (S J : Nat → Nat) (RR : Nat → Bool) (w1 w2 w3 w4 : Int32) (SF SM FD : Nat → Nat) (hn : n ≤ 12) (hM : ∀ j, j < n → M j ≤ 64) (hK5 : ∀ j, j < n → K j < 5) (hb0 : b < 8) (hS0 : ∀ j, S j < 8) (hJ0 : ∀ j, J j < 8) (hO4 : ∀ j, j < n → K j = 4 → ∀ i, i < M j → isOwn (VV (64 * j + i))) (f : Int32) : Met l yX4_state wsX4_state (rmL 2) (va_Pc [.ref m0, .int f] (zS E (mW E m0 k0 q0 t0 v0 c0 o0 s0 j0 r0 f0 g0 h0 cd n K M TT VV CC OO b S J RR w1 w2 w3 w4 SF SM FD) sz)) (va_Qi (fun (r9 : Int32) (_ : Unit) => r9 = smA n K M TT VV OO b S f) (fun _ t9 => zW E (mW E m0 k0 q0 t0 v0 c0 o0 s0 j0 r0 f0 g0 h0 (nI 0) n K M TT VV CC (smO n K M TT VV OO f) b S J RR w1 w2 w3 w4 SF SM FD) t9) (va_A (mW E m0 k0 q0 t0 v0 c0 o0 s0 j0 r0 f0 g0 h0 cd n K M TT VV CC OO b S J RR w1 w2 w3 w4 SF SM FD) sz)) 0 0 (va_A (mW E m0 k0 q0 t0 v0 c0 o0 s0 j0 r0 f0 g0 h0 cd n K M TT VV CC OO b S J RR w1 w2 w3 w4 SF SM FD) sz) := by
  refine z_ofWi (cc := cX4_state) (maxL := 4) (own := RX4) (by decide) rfl rfl (Nat.le_of_ble_eq_true rfl) ?_
  intro p e s m args below meth c R Q A B hP hD hA ret ls hl
  obtain ⟨hx, hb, hml, hown, hts, hK, hRf, hRl⟩ := B
  have hiX4 : ∀ w ∈ wsX40, w ∈ wsX4_state := by decide +kernel
  have hf7 := hts (.fieldLink RX4 7 "ExactFoldsModel" "kind" "[I") (by decide +kernel)
  have hf13 := hts (.fieldLink RX4 13 "ExactFoldsModel" "many" "[I") (by decide +kernel)
  have hf19 := hts (.fieldLink RX4 19 "ExactFoldsModel" "values" "[J") (by decide +kernel)
  have hf26 := hts (.fieldLink RX4 26 "ExactFoldsModel" "order" "[I") (by decide +kernel)
  have hf29 := hts (.fieldLink RX4 29 "ExactFoldsModel" "steps" "[I") (by decide +kernel)
  have hf52 := hts (.fieldLink RX4 52 "ExactFoldsModel" "code" "I") (by decide +kernel)
  have hf155 := hts (.fieldLink RX4 155 "ExactFoldsModel" "begin" "I") (by decide +kernel)
  have hS : va_S A s.heap s.heap [] := va_S.rf
  have hl : lv_has ls 4 [(0, .ref m0), (1, .int f)] := hl
  refine lv_aload_n hx hb dX4_state_0 rfl (lv_at hl 0 rfl) ?_
  refine lv_iconst (v := nI 0) hx hb dX4_state_1 (by decide) ?_
  refine va_put (D := E.1) (ci := 5) (v := .int (nI 0)) (ty := .int) (C := RX4) (T := TX4) (N := 19) hx hb hts hiX4 tyX4 tyX4_ok nmX4 hown hK.1 hP hD hS 0 rfl rfl 0 (by decide) hf52 (fun _ h9 => h9) rfl (by decide +kernel) rfl rfl (Nat.le_of_ble_eq_true rfl) dX4_state_2 (fun H locs hP hD hS => ?_)
  have hP : va_P E.1 vwCl (mW E m0 k0 q0 t0 v0 c0 o0 s0 j0 r0 f0 g0 h0 (nI 0) n K M TT VV CC OO b S J RR w1 w2 w3 w4 SF SM FD) H := hP
  have hD : va_D A (mW E m0 k0 q0 t0 v0 c0 o0 s0 j0 r0 f0 g0 h0 (nI 0) n K M TT VV CC OO b S J RR w1 w2 w3 w4 SF SM FD) := hD
  refine lv_aload_n hx hb dX4_state_5 rfl (lv_at hl 0 rfl) ?_
  refine lv_iload_n hx hb dX4_state_6 rfl (lv_at hl 1 rfl) ?_
  refine zc_i (W.runV ⟨hx, hb, hml, hown, hts⟩ (kX4_isFold l E m0 k0 q0 t0 v0 c0 o0 s0 j0 r0 f0 g0 h0 (nI 0) n K M TT VV CC OO b S J RR w1 w2 w3 w4 SF SM FD hn f) (cwV 1 hts gX4_state_X4_isFold rfl rfl rfl (by decide +kernel) ⟨Nat.le_trans (Nat.le_of_ble_eq_true rfl) hRf, Nat.le_trans (Nat.le_of_ble_eq_true rfl) hRl⟩) (z_preV (As := [.int f]) hP hK 0 rfl rfl) rfl rfl hl.1 rfl (lv_room (Nat.le_of_ble_eq_true rfl)) dX4_state_7 ⟨Nat.zero_le _, Nat.zero_le _⟩) ?_
  refine zb_if_ne (tgt := 15) hx hb dX4_state_10 (by decide) (fun c_1 => ?_) (fun c_1 => ?_)
  · obtain ⟨j, hjj, rfl, hfij⟩ := fd_some (by omega) c_1
    have hMj := hM j hjj
    have hKj := hK5 j hjj
    refine lv_aload_n hx hb dX4_state_15 rfl (lv_at hl 0 rfl) ?_
    refine va_get (D := E.1) (ci := 5) (C := RX4) (T := TX4) (N := 19) hx hb hts hiX4 hown hK.1 hP 0 rfl rfl 2 (by decide) hf7 (fun _ h9 => h9) rfl dX4_state_16 ?_
    refine lv_iload_n hx hb dX4_state_19 rfl (lv_at hl 1 rfl) ?_
    refine zn_iald hx hb hK.1 hP 1 0 rfl rfl (by omega) (by decide) dX4_state_20 ?_
    refine lv_iconst (v := nI 4) hx hb dX4_state_21 (by decide) ?_
    refine zn_icmp_eq (tgt := 28) hx hb dX4_state_22 (by decide) (by omega) (by omega) (fun c_2 => ?_) (fun c_2 => ?_)
    · have hk4 : K j = 4 := c_2
      refine lv_aload_n hx hb dX4_state_28 rfl (lv_at hl 0 rfl) ?_
      refine lv_iload_n hx hb dX4_state_29 rfl (lv_at hl 1 rfl) ?_
      refine zall_v (wc' := (mW E m0 k0 q0 t0 v0 c0 o0 s0 j0 r0 f0 g0 h0 (nI 0) n K M TT VV CC (layO TT VV OO j (M j)) b S J RR w1 w2 w3 w4 SF SM FD)) (va_runV ⟨hx, hb, hml, hown, hts⟩ (kX4_lay l E _ m0 k0 q0 t0 v0 c0 o0 s0 j0 r0 f0 g0 h0 (nI 0) n K M TT VV CC OO b S J RR w1 w2 w3 w4 SF SM FD hn hM j hjj) (cwV 1 hts gX4_state_X4_lay rfl rfl rfl (by decide +kernel) ⟨Nat.le_trans (Nat.le_of_ble_eq_true rfl) hRf, Nat.le_trans (Nat.le_of_ble_eq_true rfl) hRl⟩) (z_preWV (As := [.int (nI j)]) hP hD hK 0 rfl rfl) rfl rfl hl.1 rfl (lv_room (Nat.le_of_ble_eq_true rfl)) dX4_state_30 ⟨Nat.zero_le _, Nat.zero_le _⟩) hD hS hA rfl (fun H locs hP hD hS => ?_)
      refine lv_aload_n hx hb dX4_state_33 rfl (lv_at hl 0 rfl) ?_
      refine va_get (D := E.1) (ci := 5) (C := RX4) (T := TX4) (N := 19) hx hb hts hiX4 hown hK.1 hP 0 rfl rfl 8 (by decide) hf155 (fun _ h9 => h9) rfl dX4_state_34 ?_
      refine lv_istore_n (lv' := [(2, .int (nI b)), (0, .ref m0), (1, .int (nI j))]) hx hb dX4_state_37 rfl hl (by decide) rfl (fun ls hl => ?_)
      refine lv_iconst (v := nI 0) hx hb dX4_state_38 (by decide) ?_
      refine lv_istore_n (lv' := [(3, .int (nI 0)), (2, .int (nI b)), (0, .ref m0), (1, .int (nI j))]) hx hb dX4_state_39 rfl hl (by decide) rfl (fun ls hl => ?_)
      have lp : ∀ (fu : Nat) (i : Nat) (ls : Array Slot) (H : Heap) (locs : List Loc), M j - i < fu → (i ≤ M j) → lv_has ls 4 [(0, .ref m0), (1, .int (nI j)), (2, .int (nI (stF S b (ordV TT VV OO j (M j)) i))), (3, .int (nI i))] → va_P E.1 vwCl (mW E m0 k0 q0 t0 v0 c0 o0 s0 j0 r0 f0 g0 h0 (nI 0) n K M TT VV CC (layO TT VV OO j (M j)) b S J RR w1 w2 w3 w4 SF SM FD) H → va_D A (mW E m0 k0 q0 t0 v0 c0 o0 s0 j0 r0 f0 g0 h0 (nI 0) n K M TT VV CC (layO TT VV OO j (M j)) b S J RR w1 w2 w3 w4 SF SM FD) → va_S A s.heap H locs → W p l e R s m args below meth c H locs 0 0 Q (F0 m 40 ls []) := by
        intro fu
        induction fu with
        | zero => intros; exact absurd (by assumption) (Nat.not_lt_zero _)
        | succ fu ihlp =>
          intro i ls H locs hfu hi hl hP hD hS
          refine lv_iload_n hx hb dX4_state_40 rfl (lv_at hl 3 rfl) ?_
          refine lv_aload_n hx hb dX4_state_41 rfl (lv_at hl 0 rfl) ?_
          refine va_get (D := E.1) (ci := 5) (C := RX4) (T := TX4) (N := 19) hx hb hts hiX4 hown hK.1 hP 0 rfl rfl 3 (by decide) hf13 (fun _ h9 => h9) rfl dX4_state_42 ?_
          refine lv_iload_n hx hb dX4_state_45 rfl (lv_at hl 1 rfl) ?_
          refine zn_iald hx hb hK.1 hP 2 0 rfl rfl (by omega) (by decide) dX4_state_46 ?_
          refine zn_icmp_ge (tgt := 78) hx hb dX4_state_47 (by decide) (by omega) (by omega) (fun c_3 => ?_) (fun c_3 => ?_)
          · obtain rfl : i = M j := by omega
            refine lv_iload_n hx hb dX4_state_78 rfl (lv_at hl 2 rfl) ?_
            exact z_reti (by unfold smA; rw [hfij]; show _ = (if K j = 4 then nI (stF S b (ordV TT VV OO j (M j)) (M j)) else (-3)); rw [if_pos hk4]) (ret _ _ _ _ (by rw [show smO n K M TT VV OO (nI j) = layO TT VV OO j (M j) from by unfold smO; rw [hfij]; show (if K j = 4 then layO TT VV OO j (M j) else OO) = _; rw [if_pos hk4]]; exact hP) hS dX4_state_79)
          · have hin := layO_in TT VV OO j (M j) i (by omega)
            have how : isOwn (VV (layO TT VV OO j (M j) i)) := by
              have h9 := hO4 j hjj hk4 (layO TT VV OO j (M j) i - 64 * j) (by omega)
              rw [show 64 * j + (layO TT VV OO j (M j) i - 64 * j) = layO TT VV OO j (M j) i by omega] at h9; exact h9
            have hv4 := vN_lt how
            have hs8 := stF_lt (S := S) (ordV TT VV OO j (M j)) hb0 hS0 i
            refine lv_aload_n hx hb dX4_state_50 rfl (lv_at hl 0 rfl) ?_
            refine va_get (D := E.1) (ci := 5) (C := RX4) (T := TX4) (N := 19) hx hb hts hiX4 hown hK.1 hP 0 rfl rfl 9 (by decide) hf29 (fun _ h9 => h9) rfl dX4_state_51 ?_
            refine lv_iconst (v := nI 4) hx hb dX4_state_54 (by decide) ?_
            refine lv_iload_n hx hb dX4_state_55 rfl (lv_at hl 2 rfl) ?_
            refine zn_imul hx hb dX4_state_56 ?_
            refine lv_aload_n hx hb dX4_state_57 rfl (lv_at hl 0 rfl) ?_
            refine va_get (D := E.1) (ci := 5) (C := RX4) (T := TX4) (N := 19) hx hb hts hiX4 hown hK.1 hP 0 rfl rfl 5 (by decide) hf19 (fun _ h9 => h9) rfl dX4_state_58 ?_
            refine lv_aload_n hx hb dX4_state_61 rfl (lv_at hl 0 rfl) ?_
            refine va_get (D := E.1) (ci := 5) (C := RX4) (T := TX4) (N := 19) hx hb hts hiX4 hown hK.1 hP 0 rfl rfl 7 (by decide) hf26 (fun _ h9 => h9) rfl dX4_state_62 ?_
            refine lv_iload_n hx hb dX4_state_65 rfl (lv_at hl 3 rfl) ?_
            refine zn_iald hx hb hK.1 hP 6 0 rfl rfl (by omega) (by decide) dX4_state_66 ?_
            refine zn_lald hx hb hK.1 hP 4 1 rfl rfl (by omega) (by decide) dX4_state_67 ?_
            refine lv_l2i (v := nI (vN (VV (layO TT VV OO j (M j) i)))) hx hb dX4_state_68 (vN_i how) ?_
            refine zn_iadd hx hb dX4_state_69 ?_
            refine zn_iald hx hb hK.1 hP 7 0 rfl rfl (by omega) (by decide) dX4_state_70 ?_
            refine lv_istore_n (lv' := [(2, .int (nI (S ((4 * (stF S b (ordV TT VV OO j (M j)) i)) + (vN (VV (layO TT VV OO j (M j) i))))))), (0, .ref m0), (1, .int (nI j)), (3, .int (nI i))]) hx hb dX4_state_71 rfl hl (by decide) rfl (fun ls hl => ?_)
            refine lv_iinc (v := nI (i + 1)) (lv' := [(3, .int (nI (i + 1))), (2, .int (nI (S ((4 * (stF S b (ordV TT VV OO j (M j)) i)) + (vN (VV (layO TT VV OO j (M j) i))))))), (0, .ref m0), (1, .int (nI j))]) hx hb dX4_state_72 hl (k := 3) rfl (z_inc _ 1) (by decide) rfl (fun ls hl => ?_)
            refine lv_goto (tgt := 40) hx hb dX4_state_75 (by decide) ?_
            exact ihlp (i + 1) ls _ _ (by omega) (by omega) (lv_sub hl [2, 3, 1, 0] (by rw [show stF S b (ordV TT VV OO j (M j)) (i + 1) = S (4 * stF S b (ordV TT VV OO j (M j)) i + vN (VV (layO TT VV OO j (M j) i))) from by rw [Nat.mul_comm]; rfl]; rfl)) hP hD hS
      exact lp _ 0 ls _ _ (Nat.lt_succ_self _) (Nat.zero_le _) (lv_sub hl [2, 3, 1, 0] rfl) hP hD hS
    · refine lv_bipush (v := (-3)) hx hb dX4_state_25 (by decide) ?_
      exact z_reti (by unfold smA; rw [hfij]; show _ = (if K j = 4 then nI (stF S b (ordV TT VV OO j (M j)) (M j)) else (-3)); rw [if_neg c_2]) (ret _ _ _ _ (by rw [show smO n K M TT VV OO (nI j) = OO from by unfold smO; rw [hfij]; show (if K j = 4 then layO TT VV OO j (M j) else OO) = _; rw [if_neg c_2]]; exact hP) hS dX4_state_27)
  · have hfij := fd_none c_1
    refine lv_iconst (v := (-1)) hx hb dX4_state_13 (by decide) ?_
    exact z_reti (by unfold smA; rw [hfij]; rfl) (ret _ _ _ _ (by rw [show smO n K M TT VV OO f = OO from by unfold smO; rw [hfij]; rfl]; exact hP) hS dX4_state_14)
