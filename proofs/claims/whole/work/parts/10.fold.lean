/-! Fold: what its methods answer, of its rows (times T, values V, of which n count) -/
def sumV (V : Nat → Int64) : Nat → Int64
  | 0 => 0
  | i + 1 => sumV V i + V i
def sumQ (V : Nat → Int64) : Nat → Int64
  | 0 => 0
  | i + 1 => sumQ V i + V i * V i
def lowV (V : Nat → Int64) : Nat → Int64
  | 0 => 0
  | i + 1 => lowV V i + (V i &&& 4294967295)
def highV (V : Nat → Int64) : Nat → Int64
  | 0 => 0
  | i + 1 => highV V i + jshr (V i) (nI 32)
def limbF (V : Nat → Int64) (n : Nat) (k : Int32) : Int32 := if k = 0 then (lowV V n).toInt32 else if k = nI 1 then (highV V n + jshr (lowV V n) (nI 32)).toInt32 else (jshr (highV V n + jshr (lowV V n) (nI 32)) (nI 32)).toInt32
def minV (V : Nat → Int64) : Nat → Int64
  | 0 => 9223372036854775807
  | i + 1 => if V i < minV V i then V i else minV V i
def maxV (V : Nat → Int64) : Nat → Int64
  | 0 => (-9223372036854775808)
  | i + 1 => if V i < maxV V i then maxV V i else V i
def cntB (V : Nat → Int64) (w : Int64) : Nat → Nat
  | 0 => 0
  | i + 1 => if V i < w then cntB V w i + 1 else cntB V w i
theorem cntB_le (V : Nat → Int64) (w : Int64) (i : Nat) : cntB V w i ≤ i := by
  induction i with
  | zero => exact Nat.le_refl _
  | succ i ih => unfold cntB; split <;> omega
def fstF (V : Nat → Int64) (p : Nat) : Nat → Nat → Bool
  | 0, _ => true
  | f + 1, i => if V i = V p then false else fstF V p f (i + 1)
def isFst (V : Nat → Int64) (p : Nat) : Bool := fstF V p p 0
def cntU (V : Nat → Int64) : Nat → Nat
  | 0 => 0
  | i + 1 => if isFst V i = true then cntU V i + 1 else cntU V i
theorem cntU_le (V : Nat → Int64) (i : Nat) : cntU V i ≤ i := by
  induction i with
  | zero => exact Nat.le_refl _
  | succ i ih => unfold cntU; split <;> omega
def plcF (T : Nat → Int32) (V : Nat → Int64) (t : Int32) (w : Int64) : Nat → Nat → Nat
  | 0, i => i
  | f + 1, i => if t < T i ∨ (T i = t ∧ ¬ V i < w) then i else plcF T V t w f (i + 1)
def plc (T : Nat → Int32) (V : Nat → Int64) (t : Int32) (w : Int64) (n : Nat) : Nat := plcF T V t w n 0
theorem plcF_le (T : Nat → Int32) (V : Nat → Int64) (t : Int32) (w : Int64) (f i : Nat) : i ≤ plcF T V t w f i ∧ plcF T V t w f i ≤ i + f := by
  induction f generalizing i with
  | zero => exact ⟨Nat.le_refl _, Nat.le_refl _⟩
  | succ f ih => unfold plcF; split <;> (first | omega | (have := ih (i + 1); omega))
theorem plc_le (T : Nat → Int32) (V : Nat → Int64) (t : Int32) (w : Int64) (n : Nat) : plc T V t w n ≤ n := by have := (plcF_le T V t w n 0).2; unfold plc; omega
theorem plc_end (T : Nat → Int32) (V : Nat → Int64) (t : Int32) (w : Int64) (n : Nat) : plcF T V t w (n - n) n = n := by rw [Nat.sub_self]; rfl
theorem plc_hit {T : Nat → Int32} {V : Nat → Int64} {t : Int32} {w : Int64} {n i : Nat} (h : i < n) (c : t < T i ∨ (T i = t ∧ ¬ V i < w)) : plcF T V t w (n - i) i = i := by
  obtain ⟨f, hf⟩ : ∃ f, n - i = f + 1 := ⟨n - i - 1, by omega⟩
  rw [hf]; unfold plcF; rw [if_pos c]
theorem plc_step {T : Nat → Int32} {V : Nat → Int64} {t : Int32} {w : Int64} {n i : Nat} (h : i < n) (c : ¬ (t < T i ∨ (T i = t ∧ ¬ V i < w))) : plcF T V t w (n - i) i = plcF T V t w (n - (i + 1)) (i + 1) := by
  obtain ⟨f, hf⟩ : ∃ f, n - i = f + 1 := ⟨n - i - 1, by omega⟩
  rw [hf, show n - (i + 1) = f by omega]; conv => lhs; unfold plcF
  rw [if_neg c]
theorem fst_end (V : Nat → Int64) (p : Nat) : fstF V p (p - p) p = true := by rw [Nat.sub_self]; rfl
theorem fst_hit {V : Nat → Int64} {p i : Nat} (h : i < p) (c : V i = V p) : fstF V p (p - i) i = false := by
  obtain ⟨f, hf⟩ : ∃ f, p - i = f + 1 := ⟨p - i - 1, by omega⟩
  rw [hf]; unfold fstF; rw [if_pos c]
theorem fst_step {V : Nat → Int64} {p i : Nat} (h : i < p) (c : ¬ V i = V p) : fstF V p (p - i) i = fstF V p (p - (i + 1)) (i + 1) := by
  obtain ⟨f, hf⟩ : ∃ f, p - i = f + 1 := ⟨p - i - 1, by omega⟩
  rw [hf, show p - (i + 1) = f by omega]; conv => lhs; unfold fstF
  rw [if_neg c]
def rowIs (T : Nat → Int32) (V : Nat → Int64) (n p : Nat) (t : Int32) (w : Int64) : Bool := decide (p < n ∧ T p = t ∧ V p = w)
def sameF (T U : Nat → Int32) (V W : Nat → Int64) (n : Nat) : Nat → Nat → Bool
  | 0, _ => true
  | f + 1, i => if rowIs U W n i (T i) (V i) = true then sameF T U V W n f (i + 1) else false
def sameR (T U : Nat → Int32) (V W : Nat → Int64) (n n2 : Nat) : Bool := if n = n2 then sameF T U V W n2 n 0 else false
theorem same_end (T U : Nat → Int32) (V W : Nat → Int64) (n2 n : Nat) : sameF T U V W n2 (n - n) n = true := by rw [Nat.sub_self]; rfl
theorem same_hit {T U : Nat → Int32} {V W : Nat → Int64} {n2 n i : Nat} (h : i < n) (c : rowIs U W n2 i (T i) (V i) = false) : sameF T U V W n2 (n - i) i = false := by
  obtain ⟨f, hf⟩ : ∃ f, n - i = f + 1 := ⟨n - i - 1, by omega⟩
  rw [hf]; unfold sameF; rw [c]; rfl
theorem same_step {T U : Nat → Int32} {V W : Nat → Int64} {n2 n i : Nat} (h : i < n) (c : rowIs U W n2 i (T i) (V i) = true) : sameF T U V W n2 (n - i) i = sameF T U V W n2 (n - (i + 1)) (i + 1) := by
  obtain ⟨f, hf⟩ : ∃ f, n - i = f + 1 := ⟨n - i - 1, by omega⟩
  rw [hf, show n - (i + 1) = f by omega]; conv => lhs; unfold sameF
  rw [if_pos c]
/-- a row put in at place p, those behind it one further -/
def insT {α : Type} (T : Nat → α) (p n : Nat) (t : α) : Nat → α := fun j => if j < p then T j else if j = p then t else if j ≤ n then T (j - 1) else T j
/-- the row at place p taken out -/
def delT {α : Type} (T : Nat → α) (p n : Nat) : Nat → α := fun j => if p ≤ j ∧ j + 1 < n then T (j + 1) else T j
/-- rows 0 .. i of (T2, V2) put in, one after the other -/
def insN (T : Nat → Int32) (V : Nat → Int64) (n : Nat) (T2 : Nat → Int32) (V2 : Nat → Int64) : Nat → (Nat → Int32) × (Nat → Int64)
  | 0 => (T, V)
  | i + 1 => (insT (insN T V n T2 V2 i).1 (plc (insN T V n T2 V2 i).1 (insN T V n T2 V2 i).2 (T2 i) (V2 i) (n + i)) (n + i) (T2 i), insT (insN T V n T2 V2 i).2 (plc (insN T V n T2 V2 i).1 (insN T V n T2 V2 i).2 (T2 i) (V2 i) (n + i)) (n + i) (V2 i))
theorem ins_end {α : Type} {T T1 : Nat → α} {p n : Nat} (t : α) (h : ∀ j, T1 j = if p < j ∧ j ≤ n then T (j - 1) else T j) : (fun j => if j = p then t else T1 j) = insT T p n t := by
  funext j
  unfold insT
  by_cases e : j = p
  · rw [if_pos e, if_neg (by omega), if_pos e]
  · rw [if_neg e, h]
    by_cases e2 : j < p
    · rw [if_neg (by omega), if_pos e2]
    · rw [if_neg e2, if_neg e]
      by_cases e3 : j ≤ n
      · rw [if_pos ⟨by omega, e3⟩, if_pos e3]
      · rw [if_neg (fun q => e3 q.2), if_neg e3]
theorem ins_step {α : Type} {T T1 : Nat → α} {i n : Nat} (h0 : 0 < i) (hi : i ≤ n) (h : ∀ j, T1 j = if i < j ∧ j ≤ n then T (j - 1) else T j) : ∀ j, (fun j => if j = i then T1 (i - 1) else T1 j) j = if i - 1 < j ∧ j ≤ n then T (j - 1) else T j := by
  intro j
  show (if j = i then T1 (i - 1) else T1 j) = _
  by_cases e : j = i
  · subst e
    rw [if_pos rfl, h, if_neg (by omega), if_pos ⟨by omega, hi⟩]
  · rw [if_neg e, h]
    by_cases e2 : i < j ∧ j ≤ n
    · rw [if_pos e2, if_pos ⟨by omega, e2.2⟩]
    · rw [if_neg e2, if_neg (fun q => e2 ⟨by omega, q.2⟩)]
theorem del_step {α : Type} {T T1 : Nat → α} {p i : Nat} (hi : p ≤ i) (h : ∀ j, T1 j = if p ≤ j ∧ j < i then T (j + 1) else T j) : ∀ j, (fun j => if j = i then T1 (i + 1) else T1 j) j = if p ≤ j ∧ j < i + 1 then T (j + 1) else T j := by
  intro j
  show (if j = i then T1 (i + 1) else T1 j) = _
  by_cases e : j = i
  · subst e
    rw [if_pos rfl, h, if_neg (by omega), if_pos ⟨hi, by omega⟩]
  · rw [if_neg e, h]
    by_cases e2 : p ≤ j ∧ j < i
    · rw [if_pos e2, if_pos ⟨e2.1, by omega⟩]
    · rw [if_neg e2, if_neg (fun q => e2 ⟨q.1, by omega⟩)]
theorem del_end {α : Type} {T T1 : Nat → α} {p n : Nat} (h : ∀ j, T1 j = if p ≤ j ∧ j < n - 1 then T (j + 1) else T j) : T1 = delT T p n := by
  funext j
  rw [h]
  unfold delT
  by_cases e : p ≤ j ∧ j < n - 1
  · rw [if_pos e, if_pos ⟨e.1, by omega⟩]
  · rw [if_neg e, if_neg (fun q => e ⟨q.1, by omega⟩)]
set_option maxHeartbeats 4000000 in
set_option maxRecDepth 100000 in
theorem kX0_sumOfValues (l : Launch) (E : zE) (h0 a1 a2 : Nat) (k : Int32) (n : Nat) (T : Nat → Int32) (V : Nat → Int64) (hn : n ≤ 64) : Met l yX0_sumOfValues wsX0_sumOfValues (rmL 0) (va_Pc [.ref h0] (zW E [(h0, .inr (1, [.int k, .ref a1, .ref a2, .int (nI n)])), (a1, .inl (E.2.1, 64, .inl T)), (a2, .inl (E.2.2.1, 64, .inr (.inl V)))])) (vp_Sl (fun r9 => r9 = sumV V n)) 0 0 (fun _ => False) := by
  refine z_ofRl (cc := cX0_sumOfValues) (maxL := 4) (own := RX0) (by decide) rfl rfl (Nat.le_of_ble_eq_true rfl) ?_
  intro p e s m args below meth c R Q B hP ret ls hl
  obtain ⟨hx, hb, hml, hown, hts, hK, hRf, hRl⟩ := B
  have hiX0 : ∀ w ∈ wsX00, w ∈ wsX0_sumOfValues := by decide +kernel
  have hf15 := hts (.fieldLink RX0 15 "ExactFolds$Fold" "values" "[J") (by decide +kernel)
  have hf19 := hts (.fieldLink RX0 19 "ExactFolds$Fold" "size" "I") (by decide +kernel)
  have hl : lv_has ls 4 [(0, .ref h0)] := hl
  refine lv_lconst (v := 0) hx hb dX0_sumOfValues_0 rfl ?_
  refine lv_lstore_n (lv' := [(1, .long 0), (0, .ref h0)]) hx hb dX0_sumOfValues_1 rfl hl (by decide) rfl (fun ls hl => ?_)
  refine lv_iconst (v := nI 0) hx hb dX0_sumOfValues_2 (by decide) ?_
  refine lv_istore_n (lv' := [(3, .int (nI 0)), (1, .long 0), (0, .ref h0)]) hx hb dX0_sumOfValues_3 rfl hl (by decide) rfl (fun ls hl => ?_)
  have lp : ∀ (fu : Nat) (i : Nat) (ls : Array Slot), n - i < fu → (i ≤ n) → lv_has ls 4 [(0, .ref h0), (1, .long (sumV V i)), (3, .int (nI i))] → W p l e R s m args below meth c s.heap [] 0 0 Q (F0 m 4 ls []) := by
    intro fu
    induction fu with
    | zero => intros; exact absurd (by assumption) (Nat.not_lt_zero _)
    | succ fu ihlp =>
      intro i ls hfu hi hl
      refine lv_iload_n hx hb dX0_sumOfValues_4 rfl (lv_at hl 2 rfl) ?_
      refine lv_aload_n hx hb dX0_sumOfValues_5 rfl (lv_at hl 0 rfl) ?_
      refine va_get (D := E.1) (ci := 1) (C := RX0) (T := TX0) (N := 4) hx hb hts hiX0 hown hK.1 hP 0 rfl rfl 3 (by decide) hf19 (fun _ h9 => h9) rfl dX0_sumOfValues_6 ?_
      refine zn_icmp_ge (tgt := 27) hx hb dX0_sumOfValues_9 (by decide) (by omega) (by omega) (fun c_1 => ?_) (fun c_1 => ?_)
      · obtain rfl : i = n := by omega
        refine lv_lload_n hx hb dX0_sumOfValues_27 rfl (lv_at hl 1 rfl) ?_
        exact z_retl (rfl) (ret _ _ dX0_sumOfValues_28)
      · refine lv_lload_n hx hb dX0_sumOfValues_12 rfl (lv_at hl 1 rfl) ?_
        refine lv_aload_n hx hb dX0_sumOfValues_13 rfl (lv_at hl 0 rfl) ?_
        refine va_get (D := E.1) (ci := 1) (C := RX0) (T := TX0) (N := 4) hx hb hts hiX0 hown hK.1 hP 0 rfl rfl 2 (by decide) hf15 (fun _ h9 => h9) rfl dX0_sumOfValues_14 ?_
        refine lv_iload_n hx hb dX0_sumOfValues_17 rfl (lv_at hl 2 rfl) ?_
        refine zn_lald hx hb hK.1 hP 2 1 rfl rfl (by omega) (by decide) dX0_sumOfValues_18 ?_
        refine lv_ladd hx hb dX0_sumOfValues_19 ?_
        refine lv_lstore_n (lv' := [(1, .long ((sumV V i) + (V i))), (0, .ref h0), (3, .int (nI i))]) hx hb dX0_sumOfValues_20 rfl hl (by decide) rfl (fun ls hl => ?_)
        refine lv_iinc (v := nI (i + 1)) (lv' := [(3, .int (nI (i + 1))), (1, .long ((sumV V i) + (V i))), (0, .ref h0)]) hx hb dX0_sumOfValues_21 hl (k := 2) rfl (z_inc _ 1) (by decide) rfl (fun ls hl => ?_)
        refine lv_goto (tgt := 4) hx hb dX0_sumOfValues_24 (by decide) ?_
        exact ihlp (i + 1) ls (by omega) (by omega) (lv_sub hl [2, 1, 0] rfl)
  exact lp _ 0 ls (Nat.lt_succ_self _) (by omega) (lv_sub hl [2, 1, 0] rfl)
set_option maxHeartbeats 4000000 in
set_option maxRecDepth 100000 in
theorem kX0_sumOfSquares (l : Launch) (E : zE) (h0 a1 a2 : Nat) (k : Int32) (n : Nat) (T : Nat → Int32) (V : Nat → Int64) (hn : n ≤ 64) : Met l yX0_sumOfSquares wsX0_sumOfSquares (rmL 0) (va_Pc [.ref h0] (zW E [(h0, .inr (1, [.int k, .ref a1, .ref a2, .int (nI n)])), (a1, .inl (E.2.1, 64, .inl T)), (a2, .inl (E.2.2.1, 64, .inr (.inl V)))])) (vp_Sl (fun r9 => r9 = sumQ V n)) 0 0 (fun _ => False) := by
  refine z_ofRl (cc := cX0_sumOfSquares) (maxL := 4) (own := RX0) (by decide) rfl rfl (Nat.le_of_ble_eq_true rfl) ?_
  intro p e s m args below meth c R Q B hP ret ls hl
  obtain ⟨hx, hb, hml, hown, hts, hK, hRf, hRl⟩ := B
  have hiX0 : ∀ w ∈ wsX00, w ∈ wsX0_sumOfSquares := by decide +kernel
  have hf15 := hts (.fieldLink RX0 15 "ExactFolds$Fold" "values" "[J") (by decide +kernel)
  have hf19 := hts (.fieldLink RX0 19 "ExactFolds$Fold" "size" "I") (by decide +kernel)
  have hl : lv_has ls 4 [(0, .ref h0)] := hl
  refine lv_lconst (v := 0) hx hb dX0_sumOfSquares_0 rfl ?_
  refine lv_lstore_n (lv' := [(1, .long 0), (0, .ref h0)]) hx hb dX0_sumOfSquares_1 rfl hl (by decide) rfl (fun ls hl => ?_)
  refine lv_iconst (v := nI 0) hx hb dX0_sumOfSquares_2 (by decide) ?_
  refine lv_istore_n (lv' := [(3, .int (nI 0)), (1, .long 0), (0, .ref h0)]) hx hb dX0_sumOfSquares_3 rfl hl (by decide) rfl (fun ls hl => ?_)
  have lp : ∀ (fu : Nat) (i : Nat) (ls : Array Slot), n - i < fu → (i ≤ n) → lv_has ls 4 [(0, .ref h0), (1, .long (sumQ V i)), (3, .int (nI i))] → W p l e R s m args below meth c s.heap [] 0 0 Q (F0 m 4 ls []) := by
    intro fu
    induction fu with
    | zero => intros; exact absurd (by assumption) (Nat.not_lt_zero _)
    | succ fu ihlp =>
      intro i ls hfu hi hl
      refine lv_iload_n hx hb dX0_sumOfSquares_4 rfl (lv_at hl 2 rfl) ?_
      refine lv_aload_n hx hb dX0_sumOfSquares_5 rfl (lv_at hl 0 rfl) ?_
      refine va_get (D := E.1) (ci := 1) (C := RX0) (T := TX0) (N := 4) hx hb hts hiX0 hown hK.1 hP 0 rfl rfl 3 (by decide) hf19 (fun _ h9 => h9) rfl dX0_sumOfSquares_6 ?_
      refine zn_icmp_ge (tgt := 34) hx hb dX0_sumOfSquares_9 (by decide) (by omega) (by omega) (fun c_1 => ?_) (fun c_1 => ?_)
      · obtain rfl : i = n := by omega
        refine lv_lload_n hx hb dX0_sumOfSquares_34 rfl (lv_at hl 1 rfl) ?_
        exact z_retl (rfl) (ret _ _ dX0_sumOfSquares_35)
      · refine lv_lload_n hx hb dX0_sumOfSquares_12 rfl (lv_at hl 1 rfl) ?_
        refine lv_aload_n hx hb dX0_sumOfSquares_13 rfl (lv_at hl 0 rfl) ?_
        refine va_get (D := E.1) (ci := 1) (C := RX0) (T := TX0) (N := 4) hx hb hts hiX0 hown hK.1 hP 0 rfl rfl 2 (by decide) hf15 (fun _ h9 => h9) rfl dX0_sumOfSquares_14 ?_
        refine lv_iload_n hx hb dX0_sumOfSquares_17 rfl (lv_at hl 2 rfl) ?_
        refine zn_lald hx hb hK.1 hP 2 1 rfl rfl (by omega) (by decide) dX0_sumOfSquares_18 ?_
        refine lv_aload_n hx hb dX0_sumOfSquares_19 rfl (lv_at hl 0 rfl) ?_
        refine va_get (D := E.1) (ci := 1) (C := RX0) (T := TX0) (N := 4) hx hb hts hiX0 hown hK.1 hP 0 rfl rfl 2 (by decide) hf15 (fun _ h9 => h9) rfl dX0_sumOfSquares_20 ?_
        refine lv_iload_n hx hb dX0_sumOfSquares_23 rfl (lv_at hl 2 rfl) ?_
        refine zn_lald hx hb hK.1 hP 2 1 rfl rfl (by omega) (by decide) dX0_sumOfSquares_24 ?_
        refine lv_lmul hx hb dX0_sumOfSquares_25 ?_
        refine lv_ladd hx hb dX0_sumOfSquares_26 ?_
        refine lv_lstore_n (lv' := [(1, .long ((sumQ V i) + ((V i) * (V i)))), (0, .ref h0), (3, .int (nI i))]) hx hb dX0_sumOfSquares_27 rfl hl (by decide) rfl (fun ls hl => ?_)
        refine lv_iinc (v := nI (i + 1)) (lv' := [(3, .int (nI (i + 1))), (1, .long ((sumQ V i) + ((V i) * (V i)))), (0, .ref h0)]) hx hb dX0_sumOfSquares_28 hl (k := 2) rfl (z_inc _ 1) (by decide) rfl (fun ls hl => ?_)
        refine lv_goto (tgt := 4) hx hb dX0_sumOfSquares_31 (by decide) ?_
        exact ihlp (i + 1) ls (by omega) (by omega) (lv_sub hl [2, 1, 0] rfl)
  exact lp _ 0 ls (Nat.lt_succ_self _) (by omega) (lv_sub hl [2, 1, 0] rfl)
set_option maxHeartbeats 4000000 in
set_option maxRecDepth 100000 in
theorem kX0_limbOfSum (l : Launch) (E : zE) (h0 a1 a2 : Nat) (k : Int32) (n : Nat) (T : Nat → Int32) (V : Nat → Int64) (hn : n ≤ 64) (j : Int32) : Met l yX0_limbOfSum wsX0_limbOfSum (rmL 0) (va_Pc [.ref h0, .int j] (zW E [(h0, .inr (1, [.int k, .ref a1, .ref a2, .int (nI n)])), (a1, .inl (E.2.1, 64, .inl T)), (a2, .inl (E.2.2.1, 64, .inr (.inl V)))])) (vp_Si (fun r9 => r9 = limbF V n j)) 0 0 (fun _ => False) := by
  refine z_ofRi (cc := cX0_limbOfSum) (maxL := 7) (own := RX0) (by decide) rfl rfl (Nat.le_of_ble_eq_true rfl) ?_
  intro p e s m args below meth c R Q B hP ret ls hl
  obtain ⟨hx, hb, hml, hown, hts, hK, hRf, hRl⟩ := B
  have hiX0 : ∀ w ∈ wsX00, w ∈ wsX0_limbOfSum := by decide +kernel
  have hf15 := hts (.fieldLink RX0 15 "ExactFolds$Fold" "values" "[J") (by decide +kernel)
  have hf19 := hts (.fieldLink RX0 19 "ExactFolds$Fold" "size" "I") (by decide +kernel)
  have hl : lv_has ls 7 [(0, .ref h0), (1, .int j)] := hl
  refine lv_lconst (v := 0) hx hb dX0_limbOfSum_0 rfl ?_
  refine lv_lstore_n (lv' := [(2, .long 0), (0, .ref h0), (1, .int j)]) hx hb dX0_limbOfSum_1 rfl hl (by decide) rfl (fun ls hl => ?_)
  refine lv_lconst (v := 0) hx hb dX0_limbOfSum_2 rfl ?_
  refine lv_lstore (lv' := [(4, .long 0), (2, .long 0), (0, .ref h0), (1, .int j)]) hx hb dX0_limbOfSum_3 hl (by decide) rfl (fun ls hl => ?_)
  refine lv_iconst (v := nI 0) hx hb dX0_limbOfSum_5 (by decide) ?_
  refine lv_istore (lv' := [(6, .int (nI 0)), (4, .long 0), (2, .long 0), (0, .ref h0), (1, .int j)]) hx hb dX0_limbOfSum_6 hl (by decide) rfl (fun ls hl => ?_)
  have lp : ∀ (fu : Nat) (i : Nat) (ls : Array Slot), n - i < fu → (i ≤ n) → lv_has ls 7 [(0, .ref h0), (1, .int j), (2, .long (lowV V i)), (4, .long (highV V i)), (6, .int (nI i))] → W p l e R s m args below meth c s.heap [] 0 0 Q (F0 m 8 ls []) := by
    intro fu
    induction fu with
    | zero => intros; exact absurd (by assumption) (Nat.not_lt_zero _)
    | succ fu ihlp =>
      intro i ls hfu hi hl
      refine lv_iload hx hb dX0_limbOfSum_8 (lv_at hl 4 rfl) ?_
      refine lv_aload_n hx hb dX0_limbOfSum_10 rfl (lv_at hl 0 rfl) ?_
      refine va_get (D := E.1) (ci := 1) (C := RX0) (T := TX0) (N := 4) hx hb hts hiX0 hown hK.1 hP 0 rfl rfl 3 (by decide) hf19 (fun _ h9 => h9) rfl dX0_limbOfSum_11 ?_
      refine zn_icmp_ge (tgt := 52) hx hb dX0_limbOfSum_14 (by decide) (by omega) (by omega) (fun c_1 => ?_) (fun c_1 => ?_)
      · obtain rfl : i = n := by omega
        refine lv_lload hx hb dX0_limbOfSum_52 (lv_at hl 3 rfl) ?_
        refine lv_lload_n hx hb dX0_limbOfSum_54 rfl (lv_at hl 2 rfl) ?_
        refine lv_bipush (v := nI 32) hx hb dX0_limbOfSum_55 (by decide) ?_
        refine lv_lshr (v := jshr (lowV V i) (nI 32)) hx hb dX0_limbOfSum_57 rfl ?_
        refine lv_ladd hx hb dX0_limbOfSum_58 ?_
        refine lv_lstore (lv' := [(4, .long ((highV V i) + (jshr (lowV V i) (nI 32)))), (0, .ref h0), (1, .int j), (2, .long (lowV V i)), (6, .int (nI i))]) hx hb dX0_limbOfSum_59 hl (by decide) rfl (fun ls hl => ?_)
        refine lv_iload_n hx hb dX0_limbOfSum_61 rfl (lv_at hl 2 rfl) ?_
        refine lv_if_ne (tgt := 68) hx hb dX0_limbOfSum_62 (by decide) (fun c_2 => ?_) (fun c_2 => ?_)
        · refine lv_iload_n hx hb dX0_limbOfSum_68 rfl (lv_at hl 2 rfl) ?_
          refine lv_iconst (v := nI 1) hx hb dX0_limbOfSum_69 (by decide) ?_
          refine lv_icmp_ne (tgt := 79) hx hb dX0_limbOfSum_70 (by decide) (fun c_3 => ?_) (fun c_3 => ?_)
          · refine lv_lload hx hb dX0_limbOfSum_79 (lv_at hl 0 rfl) ?_
            refine lv_bipush (v := nI 32) hx hb dX0_limbOfSum_81 (by decide) ?_
            refine lv_lshr (v := jshr ((highV V i) + (jshr (lowV V i) (nI 32))) (nI 32)) hx hb dX0_limbOfSum_83 rfl ?_
            refine lv_l2i hx hb dX0_limbOfSum_84 rfl ?_
            exact z_reti (by unfold limbF; rw [if_neg c_2, if_neg c_3]) (ret _ _ dX0_limbOfSum_85)
          · refine lv_lload hx hb dX0_limbOfSum_73 (lv_at hl 0 rfl) ?_
            refine lv_l2i hx hb dX0_limbOfSum_75 rfl ?_
            refine lv_goto (tgt := 85) hx hb dX0_limbOfSum_76 (by decide) ?_
            exact z_reti (by unfold limbF; rw [if_neg c_2, if_pos c_3]) (ret _ _ dX0_limbOfSum_85)
        · refine lv_lload_n hx hb dX0_limbOfSum_65 rfl (lv_at hl 3 rfl) ?_
          refine lv_l2i hx hb dX0_limbOfSum_66 rfl ?_
          exact z_reti (by unfold limbF; rw [if_pos c_2]) (ret _ _ dX0_limbOfSum_67)
      · refine lv_lload_n hx hb dX0_limbOfSum_17 rfl (lv_at hl 2 rfl) ?_
        refine lv_aload_n hx hb dX0_limbOfSum_18 rfl (lv_at hl 0 rfl) ?_
        refine va_get (D := E.1) (ci := 1) (C := RX0) (T := TX0) (N := 4) hx hb hts hiX0 hown hK.1 hP 0 rfl rfl 2 (by decide) hf15 (fun _ h9 => h9) rfl dX0_limbOfSum_19 ?_
        refine lv_iload hx hb dX0_limbOfSum_22 (lv_at hl 4 rfl) ?_
        refine zn_lald hx hb hK.1 hP 2 1 rfl rfl (by omega) (by decide) dX0_limbOfSum_24 ?_
        refine lv_ldc2 (v := 4294967295) hx hb hown (hts (.constantLong RX0 38 (4294967295)) (by decide +kernel)) dX0_limbOfSum_25 ?_
        refine lv_land hx hb dX0_limbOfSum_28 ?_
        refine lv_ladd hx hb dX0_limbOfSum_29 ?_
        refine lv_lstore_n (lv' := [(2, .long ((lowV V i) + ((V i) &&& 4294967295))), (0, .ref h0), (1, .int j), (4, .long (highV V i)), (6, .int (nI i))]) hx hb dX0_limbOfSum_30 rfl hl (by decide) rfl (fun ls hl => ?_)
        refine lv_lload hx hb dX0_limbOfSum_31 (lv_at hl 3 rfl) ?_
        refine lv_aload_n hx hb dX0_limbOfSum_33 rfl (lv_at hl 1 rfl) ?_
        refine va_get (D := E.1) (ci := 1) (C := RX0) (T := TX0) (N := 4) hx hb hts hiX0 hown hK.1 hP 0 rfl rfl 2 (by decide) hf15 (fun _ h9 => h9) rfl dX0_limbOfSum_34 ?_
        refine lv_iload hx hb dX0_limbOfSum_37 (lv_at hl 4 rfl) ?_
        refine zn_lald hx hb hK.1 hP 2 1 rfl rfl (by omega) (by decide) dX0_limbOfSum_39 ?_
        refine lv_bipush (v := nI 32) hx hb dX0_limbOfSum_40 (by decide) ?_
        refine lv_lshr (v := jshr (V i) (nI 32)) hx hb dX0_limbOfSum_42 rfl ?_
        refine lv_ladd hx hb dX0_limbOfSum_43 ?_
        refine lv_lstore (lv' := [(4, .long ((highV V i) + (jshr (V i) (nI 32)))), (2, .long ((lowV V i) + ((V i) &&& 4294967295))), (0, .ref h0), (1, .int j), (6, .int (nI i))]) hx hb dX0_limbOfSum_44 hl (by decide) rfl (fun ls hl => ?_)
        refine lv_iinc (v := nI (i + 1)) (lv' := [(6, .int (nI (i + 1))), (4, .long ((highV V i) + (jshr (V i) (nI 32)))), (2, .long ((lowV V i) + ((V i) &&& 4294967295))), (0, .ref h0), (1, .int j)]) hx hb dX0_limbOfSum_46 hl (k := 4) rfl (z_inc _ 1) (by decide) rfl (fun ls hl => ?_)
        refine lv_goto (tgt := 8) hx hb dX0_limbOfSum_49 (by decide) ?_
        exact ihlp (i + 1) ls (by omega) (by omega) (lv_sub hl [3, 4, 2, 1, 0] rfl)
  exact lp _ 0 ls (Nat.lt_succ_self _) (by omega) (lv_sub hl [3, 4, 2, 1, 0] rfl)
set_option maxHeartbeats 4000000 in
set_option maxRecDepth 100000 in
theorem kX0_leastValue (l : Launch) (E : zE) (h0 a1 a2 : Nat) (k : Int32) (n : Nat) (T : Nat → Int32) (V : Nat → Int64) (hn : n ≤ 64) : Met l yX0_leastValue wsX0_leastValue (rmL 1) (va_Pc [.ref h0] (zW E [(h0, .inr (1, [.int k, .ref a1, .ref a2, .int (nI n)])), (a1, .inl (E.2.1, 64, .inl T)), (a2, .inl (E.2.2.1, 64, .inr (.inl V)))])) (vp_Sl (fun r9 => r9 = minV V n)) 0 0 (fun _ => False) := by
  refine z_ofRl (cc := cX0_leastValue) (maxL := 4) (own := RX0) (by decide) rfl rfl (Nat.le_of_ble_eq_true rfl) ?_
  intro p e s m args below meth c R Q B hP ret ls hl
  obtain ⟨hx, hb, hml, hown, hts, hK, hRf, hRl⟩ := B
  have hiX0 : ∀ w ∈ wsX00, w ∈ wsX0_leastValue := by decide +kernel
  have hf15 := hts (.fieldLink RX0 15 "ExactFolds$Fold" "values" "[J") (by decide +kernel)
  have hf19 := hts (.fieldLink RX0 19 "ExactFolds$Fold" "size" "I") (by decide +kernel)
  have hl : lv_has ls 4 [(0, .ref h0)] := hl
  refine lv_ldc2 (v := 9223372036854775807) hx hb hown (hts (.constantLong RX0 42 (9223372036854775807)) (by decide +kernel)) dX0_leastValue_0 ?_
  refine lv_lstore_n (lv' := [(1, .long 9223372036854775807), (0, .ref h0)]) hx hb dX0_leastValue_3 rfl hl (by decide) rfl (fun ls hl => ?_)
  refine lv_iconst (v := nI 0) hx hb dX0_leastValue_4 (by decide) ?_
  refine lv_istore_n (lv' := [(3, .int (nI 0)), (1, .long 9223372036854775807), (0, .ref h0)]) hx hb dX0_leastValue_5 rfl hl (by decide) rfl (fun ls hl => ?_)
  have lp : ∀ (fu : Nat) (i : Nat) (ls : Array Slot), n - i < fu → (i ≤ n) → lv_has ls 4 [(0, .ref h0), (1, .long (minV V i)), (3, .int (nI i))] → W p l e R s m args below meth c s.heap [] 0 0 Q (F0 m 6 ls []) := by
    intro fu
    induction fu with
    | zero => intros; exact absurd (by assumption) (Nat.not_lt_zero _)
    | succ fu ihlp =>
      intro i ls hfu hi hl
      refine lv_iload_n hx hb dX0_leastValue_6 rfl (lv_at hl 2 rfl) ?_
      refine lv_aload_n hx hb dX0_leastValue_7 rfl (lv_at hl 0 rfl) ?_
      refine va_get (D := E.1) (ci := 1) (C := RX0) (T := TX0) (N := 4) hx hb hts hiX0 hown hK.1 hP 0 rfl rfl 3 (by decide) hf19 (fun _ h9 => h9) rfl dX0_leastValue_8 ?_
      refine zn_icmp_ge (tgt := 31) hx hb dX0_leastValue_11 (by decide) (by omega) (by omega) (fun c_1 => ?_) (fun c_1 => ?_)
      · obtain rfl : i = n := by omega
        refine lv_lload_n hx hb dX0_leastValue_31 rfl (lv_at hl 1 rfl) ?_
        exact z_retl (rfl) (ret _ _ dX0_leastValue_32)
      · refine lv_lload_n hx hb dX0_leastValue_14 rfl (lv_at hl 1 rfl) ?_
        refine lv_aload_n hx hb dX0_leastValue_15 rfl (lv_at hl 0 rfl) ?_
        refine va_get (D := E.1) (ci := 1) (C := RX0) (T := TX0) (N := 4) hx hb hts hiX0 hown hK.1 hP 0 rfl rfl 2 (by decide) hf15 (fun _ h9 => h9) rfl dX0_leastValue_16 ?_
        refine lv_iload_n hx hb dX0_leastValue_19 rfl (lv_at hl 2 rfl) ?_
        refine zn_lald hx hb hK.1 hP 2 1 rfl rfl (by omega) (by decide) dX0_leastValue_20 ?_
        refine va_mmin_long hx hb (by rw [hml]; exact hl.1.symm) hown (hts (.methodLink RX0 44 Lib.MathLoose.min_long.x) (by decide +kernel)) (hts (.static Lib.MathLoose.min_long.x) (by decide +kernel)) (hts (.initialized "java/lang/Math") (by decide +kernel)) (hts (.code Lib.MathLoose.min_long.x Lib.MathLoose.min_long.code 4 (some .long)) (by decide +kernel)) (Nat.le_trans (Nat.le_of_ble_eq_true rfl) hRf) (Nat.le_trans (Nat.le_of_ble_eq_true rfl) hRl) (Nat.zero_le _) (Nat.zero_le _) dX0_leastValue_21 ?_
        refine lv_lstore_n (lv' := [(1, .long (minV V (i + 1))), (0, .ref h0), (3, .int (nI i))]) hx hb dX0_leastValue_24 rfl hl (by decide) rfl (fun ls hl => ?_)
        refine lv_iinc (v := nI (i + 1)) (lv' := [(3, .int (nI (i + 1))), (1, .long (minV V (i + 1))), (0, .ref h0)]) hx hb dX0_leastValue_25 hl (k := 2) rfl (z_inc _ 1) (by decide) rfl (fun ls hl => ?_)
        refine lv_goto (tgt := 6) hx hb dX0_leastValue_28 (by decide) ?_
        exact ihlp (i + 1) ls (by omega) (by omega) (lv_sub hl [2, 1, 0] rfl)
  exact lp _ 0 ls (Nat.lt_succ_self _) (by omega) (lv_sub hl [2, 1, 0] rfl)
set_option maxHeartbeats 4000000 in
set_option maxRecDepth 100000 in
theorem kX0_greatestValue (l : Launch) (E : zE) (h0 a1 a2 : Nat) (k : Int32) (n : Nat) (T : Nat → Int32) (V : Nat → Int64) (hn : n ≤ 64) : Met l yX0_greatestValue wsX0_greatestValue (rmL 1) (va_Pc [.ref h0] (zW E [(h0, .inr (1, [.int k, .ref a1, .ref a2, .int (nI n)])), (a1, .inl (E.2.1, 64, .inl T)), (a2, .inl (E.2.2.1, 64, .inr (.inl V)))])) (vp_Sl (fun r9 => r9 = maxV V n)) 0 0 (fun _ => False) := by
  refine z_ofRl (cc := cX0_greatestValue) (maxL := 4) (own := RX0) (by decide) rfl rfl (Nat.le_of_ble_eq_true rfl) ?_
  intro p e s m args below meth c R Q B hP ret ls hl
  obtain ⟨hx, hb, hml, hown, hts, hK, hRf, hRl⟩ := B
  have hiX0 : ∀ w ∈ wsX00, w ∈ wsX0_greatestValue := by decide +kernel
  have hf15 := hts (.fieldLink RX0 15 "ExactFolds$Fold" "values" "[J") (by decide +kernel)
  have hf19 := hts (.fieldLink RX0 19 "ExactFolds$Fold" "size" "I") (by decide +kernel)
  have hl : lv_has ls 4 [(0, .ref h0)] := hl
  refine lv_ldc2 (v := (-9223372036854775808)) hx hb hown (hts (.constantLong RX0 50 (-9223372036854775808)) (by decide +kernel)) dX0_greatestValue_0 ?_
  refine lv_lstore_n (lv' := [(1, .long (-9223372036854775808)), (0, .ref h0)]) hx hb dX0_greatestValue_3 rfl hl (by decide) rfl (fun ls hl => ?_)
  refine lv_iconst (v := nI 0) hx hb dX0_greatestValue_4 (by decide) ?_
  refine lv_istore_n (lv' := [(3, .int (nI 0)), (1, .long (-9223372036854775808)), (0, .ref h0)]) hx hb dX0_greatestValue_5 rfl hl (by decide) rfl (fun ls hl => ?_)
  have lp : ∀ (fu : Nat) (i : Nat) (ls : Array Slot), n - i < fu → (i ≤ n) → lv_has ls 4 [(0, .ref h0), (1, .long (maxV V i)), (3, .int (nI i))] → W p l e R s m args below meth c s.heap [] 0 0 Q (F0 m 6 ls []) := by
    intro fu
    induction fu with
    | zero => intros; exact absurd (by assumption) (Nat.not_lt_zero _)
    | succ fu ihlp =>
      intro i ls hfu hi hl
      refine lv_iload_n hx hb dX0_greatestValue_6 rfl (lv_at hl 2 rfl) ?_
      refine lv_aload_n hx hb dX0_greatestValue_7 rfl (lv_at hl 0 rfl) ?_
      refine va_get (D := E.1) (ci := 1) (C := RX0) (T := TX0) (N := 4) hx hb hts hiX0 hown hK.1 hP 0 rfl rfl 3 (by decide) hf19 (fun _ h9 => h9) rfl dX0_greatestValue_8 ?_
      refine zn_icmp_ge (tgt := 31) hx hb dX0_greatestValue_11 (by decide) (by omega) (by omega) (fun c_1 => ?_) (fun c_1 => ?_)
      · obtain rfl : i = n := by omega
        refine lv_lload_n hx hb dX0_greatestValue_31 rfl (lv_at hl 1 rfl) ?_
        exact z_retl (rfl) (ret _ _ dX0_greatestValue_32)
      · refine lv_lload_n hx hb dX0_greatestValue_14 rfl (lv_at hl 1 rfl) ?_
        refine lv_aload_n hx hb dX0_greatestValue_15 rfl (lv_at hl 0 rfl) ?_
        refine va_get (D := E.1) (ci := 1) (C := RX0) (T := TX0) (N := 4) hx hb hts hiX0 hown hK.1 hP 0 rfl rfl 2 (by decide) hf15 (fun _ h9 => h9) rfl dX0_greatestValue_16 ?_
        refine lv_iload_n hx hb dX0_greatestValue_19 rfl (lv_at hl 2 rfl) ?_
        refine zn_lald hx hb hK.1 hP 2 1 rfl rfl (by omega) (by decide) dX0_greatestValue_20 ?_
        refine va_mmax_long hx hb (by rw [hml]; exact hl.1.symm) hown (hts (.methodLink RX0 52 Lib.MathLoose.max_long.x) (by decide +kernel)) (hts (.static Lib.MathLoose.max_long.x) (by decide +kernel)) (hts (.initialized "java/lang/Math") (by decide +kernel)) (hts (.code Lib.MathLoose.max_long.x Lib.MathLoose.max_long.code 4 (some .long)) (by decide +kernel)) (Nat.le_trans (Nat.le_of_ble_eq_true rfl) hRf) (Nat.le_trans (Nat.le_of_ble_eq_true rfl) hRl) (Nat.zero_le _) (Nat.zero_le _) dX0_greatestValue_21 ?_
        refine lv_lstore_n (lv' := [(1, .long (maxV V (i + 1))), (0, .ref h0), (3, .int (nI i))]) hx hb dX0_greatestValue_24 rfl hl (by decide) rfl (fun ls hl => ?_)
        refine lv_iinc (v := nI (i + 1)) (lv' := [(3, .int (nI (i + 1))), (1, .long (maxV V (i + 1))), (0, .ref h0)]) hx hb dX0_greatestValue_25 hl (k := 2) rfl (z_inc _ 1) (by decide) rfl (fun ls hl => ?_)
        refine lv_goto (tgt := 6) hx hb dX0_greatestValue_28 (by decide) ?_
        exact ihlp (i + 1) ls (by omega) (by omega) (lv_sub hl [2, 1, 0] rfl)
  exact lp _ 0 ls (Nat.lt_succ_self _) (by omega) (lv_sub hl [2, 1, 0] rfl)
set_option maxHeartbeats 4000000 in
set_option maxRecDepth 100000 in
theorem kX0_countBelow (l : Launch) (E : zE) (h0 a1 a2 : Nat) (k : Int32) (n : Nat) (T : Nat → Int32) (V : Nat → Int64) (hn : n ≤ 64) (w : Int64) : Met l yX0_countBelow wsX0_countBelow (rmL 0) (va_Pc [.ref h0, .long w] (zW E [(h0, .inr (1, [.int k, .ref a1, .ref a2, .int (nI n)])), (a1, .inl (E.2.1, 64, .inl T)), (a2, .inl (E.2.2.1, 64, .inr (.inl V)))])) (vp_Si (fun r9 => r9 = nI (cntB V w n))) 0 0 (fun _ => False) := by
  refine z_ofRi (cc := cX0_countBelow) (maxL := 5) (own := RX0) (by decide) rfl rfl (Nat.le_of_ble_eq_true rfl) ?_
  intro p e s m args below meth c R Q B hP ret ls hl
  obtain ⟨hx, hb, hml, hown, hts, hK, hRf, hRl⟩ := B
  have hiX0 : ∀ w ∈ wsX00, w ∈ wsX0_countBelow := by decide +kernel
  have hf15 := hts (.fieldLink RX0 15 "ExactFolds$Fold" "values" "[J") (by decide +kernel)
  have hf19 := hts (.fieldLink RX0 19 "ExactFolds$Fold" "size" "I") (by decide +kernel)
  have hl : lv_has ls 5 [(0, .ref h0), (1, .long w)] := hl
  refine lv_iconst (v := nI 0) hx hb dX0_countBelow_0 (by decide) ?_
  refine lv_istore_n (lv' := [(3, .int (nI 0)), (0, .ref h0), (1, .long w)]) hx hb dX0_countBelow_1 rfl hl (by decide) rfl (fun ls hl => ?_)
  refine lv_iconst (v := nI 0) hx hb dX0_countBelow_2 (by decide) ?_
  refine lv_istore (lv' := [(4, .int (nI 0)), (3, .int (nI 0)), (0, .ref h0), (1, .long w)]) hx hb dX0_countBelow_3 hl (by decide) rfl (fun ls hl => ?_)
  have lp : ∀ (fu : Nat) (i : Nat) (x : Nat) (ls : Array Slot), n - i < fu → (i ≤ n) → (x = cntB V w i) → lv_has ls 5 [(0, .ref h0), (1, .long w), (3, .int (nI x)), (4, .int (nI i))] → W p l e R s m args below meth c s.heap [] 0 0 Q (F0 m 5 ls []) := by
    intro fu
    induction fu with
    | zero => intros; exact absurd (by assumption) (Nat.not_lt_zero _)
    | succ fu ihlp =>
      intro i x ls hfu hi hq hl
      refine lv_iload hx hb dX0_countBelow_5 (lv_at hl 3 rfl) ?_
      refine lv_aload_n hx hb dX0_countBelow_7 rfl (lv_at hl 0 rfl) ?_
      refine va_get (D := E.1) (ci := 1) (C := RX0) (T := TX0) (N := 4) hx hb hts hiX0 hown hK.1 hP 0 rfl rfl 3 (by decide) hf19 (fun _ h9 => h9) rfl dX0_countBelow_8 ?_
      refine zn_icmp_ge (tgt := 35) hx hb dX0_countBelow_11 (by decide) (by omega) (by omega) (fun c_1 => ?_) (fun c_1 => ?_)
      · obtain rfl : i = n := by omega
        refine lv_iload_n hx hb dX0_countBelow_35 rfl (lv_at hl 2 rfl) ?_
        exact z_reti (by rw [hq]) (ret _ _ dX0_countBelow_36)
      · refine lv_aload_n hx hb dX0_countBelow_14 rfl (lv_at hl 0 rfl) ?_
        refine va_get (D := E.1) (ci := 1) (C := RX0) (T := TX0) (N := 4) hx hb hts hiX0 hown hK.1 hP 0 rfl rfl 2 (by decide) hf15 (fun _ h9 => h9) rfl dX0_countBelow_15 ?_
        refine lv_iload hx hb dX0_countBelow_18 (lv_at hl 3 rfl) ?_
        refine zn_lald hx hb hK.1 hP 2 1 rfl rfl (by omega) (by decide) dX0_countBelow_20 ?_
        refine lv_lload_n hx hb dX0_countBelow_21 rfl (lv_at hl 1 rfl) ?_
        refine zl_ge (tgt := 29) hx hb dX0_countBelow_22 dX0_countBelow_23 (by decide) (fun c_2 => ?_) (fun c_2 => ?_)
        · have hq2 : x = cntB V w (i + 1) := by unfold cntB; rw [if_neg c_2]; exact hq
          refine lv_iinc (v := nI (i + 1)) (lv' := [(4, .int (nI (i + 1))), (0, .ref h0), (1, .long w), (3, .int (nI x))]) hx hb dX0_countBelow_29 hl (k := 3) rfl (z_inc _ 1) (by decide) rfl (fun ls hl => ?_)
          refine lv_goto (tgt := 5) hx hb dX0_countBelow_32 (by decide) ?_
          exact ihlp (i + 1) x ls (by omega) (by omega) (hq2) (lv_sub hl [1, 2, 3, 0] rfl)
        · have hq2 : x + 1 = cntB V w (i + 1) := by unfold cntB; rw [if_pos c_2]; omega
          refine lv_iinc (v := nI (x + 1)) (lv' := [(3, .int (nI (x + 1))), (0, .ref h0), (1, .long w), (4, .int (nI i))]) hx hb dX0_countBelow_26 hl (k := 2) rfl (z_inc _ 1) (by decide) rfl (fun ls hl => ?_)
          refine lv_iinc (v := nI (i + 1)) (lv' := [(4, .int (nI (i + 1))), (3, .int (nI (x + 1))), (0, .ref h0), (1, .long w)]) hx hb dX0_countBelow_29 hl (k := 3) rfl (z_inc _ 1) (by decide) rfl (fun ls hl => ?_)
          refine lv_goto (tgt := 5) hx hb dX0_countBelow_32 (by decide) ?_
          exact ihlp (i + 1) (x + 1) ls (by omega) (by omega) (hq2) (lv_sub hl [2, 3, 1, 0] rfl)
  exact lp _ 0 0 ls (Nat.lt_succ_self _) (by omega) (rfl) (lv_sub hl [2, 3, 1, 0] rfl)
set_option maxHeartbeats 4000000 in
set_option maxRecDepth 100000 in
theorem kX0_placeOf (l : Launch) (E : zE) (h0 a1 a2 : Nat) (k : Int32) (n : Nat) (T : Nat → Int32) (V : Nat → Int64) (hn : n ≤ 64) (t : Int32) (w : Int64) : Met l yX0_placeOf wsX0_placeOf (rmL 0) (va_Pc [.ref h0, .int t, .long w] (zW E [(h0, .inr (1, [.int k, .ref a1, .ref a2, .int (nI n)])), (a1, .inl (E.2.1, 64, .inl T)), (a2, .inl (E.2.2.1, 64, .inr (.inl V)))])) (vp_Si (fun r9 => r9 = nI (plc T V t w n))) 0 0 (fun _ => False) := by
  refine z_ofRi (cc := cX0_placeOf) (maxL := 5) (own := RX0) (by decide) rfl rfl (Nat.le_of_ble_eq_true rfl) ?_
  intro p e s m args below meth c R Q B hP ret ls hl
  obtain ⟨hx, hb, hml, hown, hts, hK, hRf, hRl⟩ := B
  have hiX0 : ∀ w ∈ wsX00, w ∈ wsX0_placeOf := by decide +kernel
  have hf9 := hts (.fieldLink RX0 9 "ExactFolds$Fold" "times" "[I") (by decide +kernel)
  have hf15 := hts (.fieldLink RX0 15 "ExactFolds$Fold" "values" "[J") (by decide +kernel)
  have hf19 := hts (.fieldLink RX0 19 "ExactFolds$Fold" "size" "I") (by decide +kernel)
  have hl : lv_has ls 5 [(0, .ref h0), (1, .int t), (2, .long w)] := hl
  refine lv_iconst (v := nI 0) hx hb dX0_placeOf_0 (by decide) ?_
  refine lv_istore (lv' := [(4, .int (nI 0)), (0, .ref h0), (1, .int t), (2, .long w)]) hx hb dX0_placeOf_1 hl (by decide) rfl (fun ls hl => ?_)
  have lp : ∀ (fu : Nat) (i : Nat) (ls : Array Slot), n - i < fu → (i ≤ n) → (plcF T V t w (n - i) i = plc T V t w n) → lv_has ls 5 [(0, .ref h0), (1, .int t), (2, .long w), (4, .int (nI i))] → W p l e R s m args below meth c s.heap [] 0 0 Q (F0 m 3 ls []) := by
    intro fu
    induction fu with
    | zero => intros; exact absurd (by assumption) (Nat.not_lt_zero _)
    | succ fu ihlp =>
      intro i ls hfu hi hq hl
      refine lv_iload hx hb dX0_placeOf_3 (lv_at hl 3 rfl) ?_
      refine lv_aload_n hx hb dX0_placeOf_5 rfl (lv_at hl 0 rfl) ?_
      refine va_get (D := E.1) (ci := 1) (C := RX0) (T := TX0) (N := 4) hx hb hts hiX0 hown hK.1 hP 0 rfl rfl 3 (by decide) hf19 (fun _ h9 => h9) rfl dX0_placeOf_6 ?_
      refine zn_icmp_ge (tgt := 55) hx hb dX0_placeOf_9 (by decide) (by omega) (by omega) (fun c_1 => ?_) (fun c_1 => ?_)
      · obtain rfl : i = n := by omega
        refine lv_aload_n hx hb dX0_placeOf_55 rfl (lv_at hl 0 rfl) ?_
        refine va_get (D := E.1) (ci := 1) (C := RX0) (T := TX0) (N := 4) hx hb hts hiX0 hown hK.1 hP 0 rfl rfl 3 (by decide) hf19 (fun _ h9 => h9) rfl dX0_placeOf_56 ?_
        exact z_reti (by rw [← hq, plc_end]) (ret _ _ dX0_placeOf_59)
      · refine lv_aload_n hx hb dX0_placeOf_12 rfl (lv_at hl 0 rfl) ?_
        refine va_get (D := E.1) (ci := 1) (C := RX0) (T := TX0) (N := 4) hx hb hts hiX0 hown hK.1 hP 0 rfl rfl 1 (by decide) hf9 (fun _ h9 => h9) rfl dX0_placeOf_13 ?_
        refine lv_iload hx hb dX0_placeOf_16 (lv_at hl 3 rfl) ?_
        refine zn_iald hx hb hK.1 hP 1 0 rfl rfl (by omega) (by decide) dX0_placeOf_18 ?_
        refine lv_iload_n hx hb dX0_placeOf_19 rfl (lv_at hl 1 rfl) ?_
        refine lv_icmp_gt (tgt := 46) hx hb dX0_placeOf_20 (by decide) (fun c_2 => ?_) (fun c_2 => ?_)
        · refine lv_iload hx hb dX0_placeOf_46 (lv_at hl 3 rfl) ?_
          exact z_reti (by rw [← hq, plc_hit c_1 (Or.inl c_2)]) (ret _ _ dX0_placeOf_48)
        · refine lv_aload_n hx hb dX0_placeOf_23 rfl (lv_at hl 0 rfl) ?_
          refine va_get (D := E.1) (ci := 1) (C := RX0) (T := TX0) (N := 4) hx hb hts hiX0 hown hK.1 hP 0 rfl rfl 1 (by decide) hf9 (fun _ h9 => h9) rfl dX0_placeOf_24 ?_
          refine lv_iload hx hb dX0_placeOf_27 (lv_at hl 3 rfl) ?_
          refine zn_iald hx hb hK.1 hP 1 0 rfl rfl (by omega) (by decide) dX0_placeOf_29 ?_
          refine lv_iload_n hx hb dX0_placeOf_30 rfl (lv_at hl 1 rfl) ?_
          refine lv_icmp_ne (tgt := 49) hx hb dX0_placeOf_31 (by decide) (fun c_3 => ?_) (fun c_3 => ?_)
          · have hq2 : plcF T V t w (n - (i + 1)) (i + 1) = plc T V t w n := by rw [← plc_step c_1 (fun q => q.elim c_2 (fun q => c_3 q.1))]; exact hq
            refine lv_iinc (v := nI (i + 1)) (lv' := [(4, .int (nI (i + 1))), (0, .ref h0), (1, .int t), (2, .long w)]) hx hb dX0_placeOf_49 hl (k := 3) rfl (z_inc _ 1) (by decide) rfl (fun ls hl => ?_)
            refine lv_goto (tgt := 3) hx hb dX0_placeOf_52 (by decide) ?_
            exact ihlp (i + 1) ls (by omega) (by omega) (hq2) (lv_sub hl [1, 2, 3, 0] rfl)
          · refine lv_aload_n hx hb dX0_placeOf_34 rfl (lv_at hl 0 rfl) ?_
            refine va_get (D := E.1) (ci := 1) (C := RX0) (T := TX0) (N := 4) hx hb hts hiX0 hown hK.1 hP 0 rfl rfl 2 (by decide) hf15 (fun _ h9 => h9) rfl dX0_placeOf_35 ?_
            refine lv_iload hx hb dX0_placeOf_38 (lv_at hl 3 rfl) ?_
            refine zn_lald hx hb hK.1 hP 2 1 rfl rfl (by omega) (by decide) dX0_placeOf_40 ?_
            refine lv_lload_n hx hb dX0_placeOf_41 rfl (lv_at hl 2 rfl) ?_
            refine zl_lt (tgt := 49) hx hb dX0_placeOf_42 dX0_placeOf_43 (by decide) (fun c_4 => ?_) (fun c_4 => ?_)
            · have hq2 : plcF T V t w (n - (i + 1)) (i + 1) = plc T V t w n := by rw [← plc_step c_1 (fun q => q.elim c_2 (fun q => q.2 c_4))]; exact hq
              refine lv_iinc (v := nI (i + 1)) (lv' := [(4, .int (nI (i + 1))), (0, .ref h0), (1, .int t), (2, .long w)]) hx hb dX0_placeOf_49 hl (k := 3) rfl (z_inc _ 1) (by decide) rfl (fun ls hl => ?_)
              refine lv_goto (tgt := 3) hx hb dX0_placeOf_52 (by decide) ?_
              exact ihlp (i + 1) ls (by omega) (by omega) (hq2) (lv_sub hl [1, 2, 3, 0] rfl)
            · refine lv_iload hx hb dX0_placeOf_46 (lv_at hl 3 rfl) ?_
              exact z_reti (by rw [← hq, plc_hit c_1 (Or.inr ⟨c_3, c_4⟩)]) (ret _ _ dX0_placeOf_48)
  exact lp _ 0 ls (Nat.lt_succ_self _) (by omega) (rfl) (lv_sub hl [1, 2, 3, 0] rfl)
set_option maxHeartbeats 4000000 in
set_option maxRecDepth 100000 in
theorem kX0_isRow (l : Launch) (E : zE) (h0 a1 a2 : Nat) (k : Int32) (n : Nat) (T : Nat → Int32) (V : Nat → Int64) (hn : n ≤ 64) (p_ : Nat) (hp : p_ < 2 ^ 31) (t : Int32) (w : Int64) : Met l yX0_isRow wsX0_isRow (rmL 0) (va_Pc [.ref h0, .int (nI p_), .int t, .long w] (zW E [(h0, .inr (1, [.int k, .ref a1, .ref a2, .int (nI n)])), (a1, .inl (E.2.1, 64, .inl T)), (a2, .inl (E.2.2.1, 64, .inr (.inl V)))])) (vp_Si (fun r9 => r9 = bI (rowIs T V n p_ t w))) 0 0 (fun _ => False) := by
  refine z_ofRz (cc := cX0_isRow) (maxL := 5) (own := RX0) (by decide) rfl rfl (Nat.le_of_ble_eq_true rfl) ?_
  intro p e s m args below meth c R Q B hP ret ls hl
  obtain ⟨hx, hb, hml, hown, hts, hK, hRf, hRl⟩ := B
  have hiX0 : ∀ w ∈ wsX00, w ∈ wsX0_isRow := by decide +kernel
  have hf9 := hts (.fieldLink RX0 9 "ExactFolds$Fold" "times" "[I") (by decide +kernel)
  have hf15 := hts (.fieldLink RX0 15 "ExactFolds$Fold" "values" "[J") (by decide +kernel)
  have hf19 := hts (.fieldLink RX0 19 "ExactFolds$Fold" "size" "I") (by decide +kernel)
  have hl : lv_has ls 5 [(0, .ref h0), (1, .int (nI p_)), (2, .int t), (3, .long w)] := hl
  refine lv_iload_n hx hb dX0_isRow_0 rfl (lv_at hl 1 rfl) ?_
  refine zn_if_lt (tgt := 37) hx hb dX0_isRow_1 (by decide) (by omega) ?_
  refine lv_iload_n hx hb dX0_isRow_4 rfl (lv_at hl 1 rfl) ?_
  refine lv_aload_n hx hb dX0_isRow_5 rfl (lv_at hl 0 rfl) ?_
  refine va_get (D := E.1) (ci := 1) (C := RX0) (T := TX0) (N := 4) hx hb hts hiX0 hown hK.1 hP 0 rfl rfl 3 (by decide) hf19 (fun _ h9 => h9) rfl dX0_isRow_6 ?_
  refine zn_icmp_ge (tgt := 37) hx hb dX0_isRow_9 (by decide) (by omega) (by omega) (fun c_1 => ?_) (fun c_1 => ?_)
  · refine lv_iconst (v := nI 0) hx hb dX0_isRow_37 (by decide) ?_
    exact z_reti (by rw [show rowIs T V n p_ t w = false from by unfold rowIs; simp [c_1] <;> (intro h; exact absurd h (by omega))]; rfl) (ret _ _ dX0_isRow_38)
  · refine lv_aload_n hx hb dX0_isRow_12 rfl (lv_at hl 0 rfl) ?_
    refine va_get (D := E.1) (ci := 1) (C := RX0) (T := TX0) (N := 4) hx hb hts hiX0 hown hK.1 hP 0 rfl rfl 1 (by decide) hf9 (fun _ h9 => h9) rfl dX0_isRow_13 ?_
    refine lv_iload_n hx hb dX0_isRow_16 rfl (lv_at hl 1 rfl) ?_
    refine zn_iald hx hb hK.1 hP 1 0 rfl rfl (by omega) (by decide) dX0_isRow_17 ?_
    refine lv_iload_n hx hb dX0_isRow_18 rfl (lv_at hl 2 rfl) ?_
    refine lv_icmp_ne (tgt := 37) hx hb dX0_isRow_19 (by decide) (fun c_2 => ?_) (fun c_2 => ?_)
    · refine lv_iconst (v := nI 0) hx hb dX0_isRow_37 (by decide) ?_
      exact z_reti (by rw [show rowIs T V n p_ t w = false from by unfold rowIs; simp [c_1, c_2] <;> (intro h; exact absurd h (by omega))]; rfl) (ret _ _ dX0_isRow_38)
    · refine lv_aload_n hx hb dX0_isRow_22 rfl (lv_at hl 0 rfl) ?_
      refine va_get (D := E.1) (ci := 1) (C := RX0) (T := TX0) (N := 4) hx hb hts hiX0 hown hK.1 hP 0 rfl rfl 2 (by decide) hf15 (fun _ h9 => h9) rfl dX0_isRow_23 ?_
      refine lv_iload_n hx hb dX0_isRow_26 rfl (lv_at hl 1 rfl) ?_
      refine zn_lald hx hb hK.1 hP 2 1 rfl rfl (by omega) (by decide) dX0_isRow_27 ?_
      refine lv_lload_n hx hb dX0_isRow_28 rfl (lv_at hl 3 rfl) ?_
      refine zl_ne (tgt := 37) hx hb dX0_isRow_29 dX0_isRow_30 (by decide) (fun c_3 => ?_) (fun c_3 => ?_)
      · refine lv_iconst (v := nI 0) hx hb dX0_isRow_37 (by decide) ?_
        exact z_reti (by rw [show rowIs T V n p_ t w = false from by unfold rowIs; simp [c_1, c_2, c_3] <;> (intro h; exact absurd h (by omega))]; rfl) (ret _ _ dX0_isRow_38)
      · refine lv_iconst (v := nI 1) hx hb dX0_isRow_33 (by decide) ?_
        refine lv_goto (tgt := 38) hx hb dX0_isRow_34 (by decide) ?_
        exact z_reti (by rw [show rowIs T V n p_ t w = true from by unfold rowIs; simp [c_1, c_2, c_3] <;> (intro h; exact absurd h (by omega))]; rfl) (ret _ _ dX0_isRow_38)
set_option maxHeartbeats 4000000 in
set_option maxRecDepth 100000 in
theorem kX0_isFirstOfItsValue (l : Launch) (E : zE) (h0 a1 a2 : Nat) (k : Int32) (n : Nat) (T : Nat → Int32) (V : Nat → Int64) (hn : n ≤ 64) (p_ : Nat) (hp : p_ < n) : Met l yX0_isFirstOfItsValue wsX0_isFirstOfItsValue (rmL 0) (va_Pc [.ref h0, .int (nI p_)] (zW E [(h0, .inr (1, [.int k, .ref a1, .ref a2, .int (nI n)])), (a1, .inl (E.2.1, 64, .inl T)), (a2, .inl (E.2.2.1, 64, .inr (.inl V)))])) (vp_Si (fun r9 => r9 = bI (isFst V p_))) 0 0 (fun _ => False) := by
  refine z_ofRz (cc := cX0_isFirstOfItsValue) (maxL := 3) (own := RX0) (by decide) rfl rfl (Nat.le_of_ble_eq_true rfl) ?_
  intro p e s m args below meth c R Q B hP ret ls hl
  obtain ⟨hx, hb, hml, hown, hts, hK, hRf, hRl⟩ := B
  have hiX0 : ∀ w ∈ wsX00, w ∈ wsX0_isFirstOfItsValue := by decide +kernel
  have hf15 := hts (.fieldLink RX0 15 "ExactFolds$Fold" "values" "[J") (by decide +kernel)
  have hl : lv_has ls 3 [(0, .ref h0), (1, .int (nI p_))] := hl
  refine lv_iconst (v := nI 0) hx hb dX0_isFirstOfItsValue_0 (by decide) ?_
  refine lv_istore_n (lv' := [(2, .int (nI 0)), (0, .ref h0), (1, .int (nI p_))]) hx hb dX0_isFirstOfItsValue_1 rfl hl (by decide) rfl (fun ls hl => ?_)
  have lp : ∀ (fu : Nat) (i : Nat) (ls : Array Slot), p_ - i < fu → (i ≤ p_) → (fstF V p_ (p_ - i) i = isFst V p_) → lv_has ls 3 [(0, .ref h0), (1, .int (nI p_)), (2, .int (nI i))] → W p l e R s m args below meth c s.heap [] 0 0 Q (F0 m 2 ls []) := by
    intro fu
    induction fu with
    | zero => intros; exact absurd (by assumption) (Nat.not_lt_zero _)
    | succ fu ihlp =>
      intro i ls hfu hi hq hl
      refine lv_iload_n hx hb dX0_isFirstOfItsValue_2 rfl (lv_at hl 2 rfl) ?_
      refine lv_iload_n hx hb dX0_isFirstOfItsValue_3 rfl (lv_at hl 1 rfl) ?_
      refine zn_icmp_ge (tgt := 31) hx hb dX0_isFirstOfItsValue_4 (by decide) (by omega) (by omega) (fun c_1 => ?_) (fun c_1 => ?_)
      · obtain rfl : i = p_ := by omega
        refine lv_iconst (v := nI 1) hx hb dX0_isFirstOfItsValue_31 (by decide) ?_
        exact z_reti (by rw [← hq, fst_end]; rfl) (ret _ _ dX0_isFirstOfItsValue_32)
      · refine lv_aload_n hx hb dX0_isFirstOfItsValue_7 rfl (lv_at hl 0 rfl) ?_
        refine va_get (D := E.1) (ci := 1) (C := RX0) (T := TX0) (N := 4) hx hb hts hiX0 hown hK.1 hP 0 rfl rfl 2 (by decide) hf15 (fun _ h9 => h9) rfl dX0_isFirstOfItsValue_8 ?_
        refine lv_iload_n hx hb dX0_isFirstOfItsValue_11 rfl (lv_at hl 2 rfl) ?_
        refine zn_lald hx hb hK.1 hP 2 1 rfl rfl (by omega) (by decide) dX0_isFirstOfItsValue_12 ?_
        refine lv_aload_n hx hb dX0_isFirstOfItsValue_13 rfl (lv_at hl 0 rfl) ?_
        refine va_get (D := E.1) (ci := 1) (C := RX0) (T := TX0) (N := 4) hx hb hts hiX0 hown hK.1 hP 0 rfl rfl 2 (by decide) hf15 (fun _ h9 => h9) rfl dX0_isFirstOfItsValue_14 ?_
        refine lv_iload_n hx hb dX0_isFirstOfItsValue_17 rfl (lv_at hl 1 rfl) ?_
        refine zn_lald hx hb hK.1 hP 2 1 rfl rfl (by omega) (by decide) dX0_isFirstOfItsValue_18 ?_
        refine zl_ne (tgt := 25) hx hb dX0_isFirstOfItsValue_19 dX0_isFirstOfItsValue_20 (by decide) (fun c_2 => ?_) (fun c_2 => ?_)
        · have hq2 : fstF V p_ (p_ - (i + 1)) (i + 1) = isFst V p_ := by rw [← fst_step c_1 c_2]; exact hq
          refine lv_iinc (v := nI (i + 1)) (lv' := [(2, .int (nI (i + 1))), (0, .ref h0), (1, .int (nI p_))]) hx hb dX0_isFirstOfItsValue_25 hl (k := 2) rfl (z_inc _ 1) (by decide) rfl (fun ls hl => ?_)
          refine lv_goto (tgt := 2) hx hb dX0_isFirstOfItsValue_28 (by decide) ?_
          exact ihlp (i + 1) ls (by omega) (by omega) (hq2) (lv_sub hl [1, 2, 0] rfl)
        · refine lv_iconst (v := nI 0) hx hb dX0_isFirstOfItsValue_23 (by decide) ?_
          exact z_reti (by rw [← hq, fst_hit c_1 c_2]; rfl) (ret _ _ dX0_isFirstOfItsValue_24)
  exact lp _ 0 ls (Nat.lt_succ_self _) (by omega) (rfl) (lv_sub hl [1, 2, 0] rfl)
set_option maxHeartbeats 4000000 in
set_option maxRecDepth 100000 in
theorem kX0_countUnlike (l : Launch) (E : zE) (h0 a1 a2 : Nat) (k : Int32) (n : Nat) (T : Nat → Int32) (V : Nat → Int64) (hn : n ≤ 64) : Met l yX0_countUnlike wsX0_countUnlike (rmL 1) (va_Pc [.ref h0] (zW E [(h0, .inr (1, [.int k, .ref a1, .ref a2, .int (nI n)])), (a1, .inl (E.2.1, 64, .inl T)), (a2, .inl (E.2.2.1, 64, .inr (.inl V)))])) (vp_Si (fun r9 => r9 = nI (cntU V n))) 0 0 (fun _ => False) := by
  refine z_ofRi (cc := cX0_countUnlike) (maxL := 3) (own := RX0) (by decide) rfl rfl (Nat.le_of_ble_eq_true rfl) ?_
  intro p e s m args below meth c R Q B hP ret ls hl
  obtain ⟨hx, hb, hml, hown, hts, hK, hRf, hRl⟩ := B
  have hiX0 : ∀ w ∈ wsX00, w ∈ wsX0_countUnlike := by decide +kernel
  have hf19 := hts (.fieldLink RX0 19 "ExactFolds$Fold" "size" "I") (by decide +kernel)
  have hl : lv_has ls 3 [(0, .ref h0)] := hl
  refine lv_iconst (v := nI 0) hx hb dX0_countUnlike_0 (by decide) ?_
  refine lv_istore_n (lv' := [(1, .int (nI 0)), (0, .ref h0)]) hx hb dX0_countUnlike_1 rfl hl (by decide) rfl (fun ls hl => ?_)
  refine lv_iconst (v := nI 0) hx hb dX0_countUnlike_2 (by decide) ?_
  refine lv_istore_n (lv' := [(2, .int (nI 0)), (1, .int (nI 0)), (0, .ref h0)]) hx hb dX0_countUnlike_3 rfl hl (by decide) rfl (fun ls hl => ?_)
  have lp : ∀ (fu : Nat) (i : Nat) (x : Nat) (ls : Array Slot), n - i < fu → (i ≤ n) → (x = cntU V i) → lv_has ls 3 [(0, .ref h0), (1, .int (nI x)), (2, .int (nI i))] → W p l e R s m args below meth c s.heap [] 0 0 Q (F0 m 4 ls []) := by
    intro fu
    induction fu with
    | zero => intros; exact absurd (by assumption) (Nat.not_lt_zero _)
    | succ fu ihlp =>
      intro i x ls hfu hi hq hl
      refine lv_iload_n hx hb dX0_countUnlike_4 rfl (lv_at hl 2 rfl) ?_
      refine lv_aload_n hx hb dX0_countUnlike_5 rfl (lv_at hl 0 rfl) ?_
      refine va_get (D := E.1) (ci := 1) (C := RX0) (T := TX0) (N := 4) hx hb hts hiX0 hown hK.1 hP 0 rfl rfl 3 (by decide) hf19 (fun _ h9 => h9) rfl dX0_countUnlike_6 ?_
      refine zn_icmp_ge (tgt := 29) hx hb dX0_countUnlike_9 (by decide) (by omega) (by omega) (fun c_1 => ?_) (fun c_1 => ?_)
      · obtain rfl : i = n := by omega
        refine lv_iload_n hx hb dX0_countUnlike_29 rfl (lv_at hl 1 rfl) ?_
        exact z_reti (by rw [hq]) (ret _ _ dX0_countUnlike_30)
      · refine lv_aload_n hx hb dX0_countUnlike_12 rfl (lv_at hl 0 rfl) ?_
        refine lv_iload_n hx hb dX0_countUnlike_13 rfl (lv_at hl 2 rfl) ?_
        refine zc_i (W.runV ⟨hx, hb, hml, hown, hts⟩ (kX0_isFirstOfItsValue l E h0 a1 a2 k n T V hn i (by omega)) (cwV 1 hts gX0_countUnlike_X0_isFirstOfItsValue rfl rfl rfl (by decide +kernel) ⟨Nat.le_trans (Nat.le_of_ble_eq_true rfl) hRf, Nat.le_trans (Nat.le_of_ble_eq_true rfl) hRl⟩) (z_preV (As := [.int (nI i)]) hP hK 0 rfl rfl) rfl rfl hl.1 rfl (lv_room (Nat.le_of_ble_eq_true rfl)) dX0_countUnlike_14 ⟨Nat.zero_le _, Nat.zero_le _⟩) ?_
        refine zb_if_eq (tgt := 23) hx hb dX0_countUnlike_17 (by decide) (fun c_2 => ?_) (fun c_2 => ?_)
        · have hq2 : x = cntU V (i + 1) := by unfold cntU; rw [if_neg (by rw [c_2]; exact Bool.false_ne_true)]; exact hq
          refine lv_iinc (v := nI (i + 1)) (lv' := [(2, .int (nI (i + 1))), (0, .ref h0), (1, .int (nI x))]) hx hb dX0_countUnlike_23 hl (k := 2) rfl (z_inc _ 1) (by decide) rfl (fun ls hl => ?_)
          refine lv_goto (tgt := 4) hx hb dX0_countUnlike_26 (by decide) ?_
          exact ihlp (i + 1) x ls (by omega) (by omega) (hq2) (lv_sub hl [1, 2, 0] rfl)
        · have hq2 : x + 1 = cntU V (i + 1) := by unfold cntU; rw [if_pos c_2]; omega
          refine lv_iinc (v := nI (x + 1)) (lv' := [(1, .int (nI (x + 1))), (0, .ref h0), (2, .int (nI i))]) hx hb dX0_countUnlike_20 hl (k := 1) rfl (z_inc _ 1) (by decide) rfl (fun ls hl => ?_)
          refine lv_iinc (v := nI (i + 1)) (lv' := [(2, .int (nI (i + 1))), (1, .int (nI (x + 1))), (0, .ref h0)]) hx hb dX0_countUnlike_23 hl (k := 2) rfl (z_inc _ 1) (by decide) rfl (fun ls hl => ?_)
          refine lv_goto (tgt := 4) hx hb dX0_countUnlike_26 (by decide) ?_
          exact ihlp (i + 1) (x + 1) ls (by omega) (by omega) (hq2) (lv_sub hl [2, 1, 0] rfl)
  exact lp _ 0 0 ls (Nat.lt_succ_self _) (by omega) (rfl) (lv_sub hl [2, 1, 0] rfl)
set_option maxHeartbeats 4000000 in
set_option maxRecDepth 100000 in
theorem kX0_hasTheRowsOf (l : Launch) (E : zE) (h0 a1 a2 : Nat) (k : Int32) (n : Nat) (T : Nat → Int32) (V : Nat → Int64) (hn : n ≤ 64) (g0 b1 b2 : Nat) (k2 : Int32) (n2 : Nat) (T2 : Nat → Int32) (V2 : Nat → Int64) (hn2 : n2 ≤ 64) : Met l yX0_hasTheRowsOf wsX0_hasTheRowsOf (rmL 1) (va_Pc [.ref h0, .ref g0] (zW E [(h0, .inr (1, [.int k, .ref a1, .ref a2, .int (nI n)])), (a1, .inl (E.2.1, 64, .inl T)), (a2, .inl (E.2.2.1, 64, .inr (.inl V))), (g0, .inr (1, [.int k2, .ref b1, .ref b2, .int (nI n2)])), (b1, .inl (E.2.1, 64, .inl T2)), (b2, .inl (E.2.2.1, 64, .inr (.inl V2)))])) (vp_Si (fun r9 => r9 = bI (sameR T T2 V V2 n n2))) 0 0 (fun _ => False) := by
  refine z_ofRz (cc := cX0_hasTheRowsOf) (maxL := 3) (own := RX0) (by decide) rfl rfl (Nat.le_of_ble_eq_true rfl) ?_
  intro p e s m args below meth c R Q B hP ret ls hl
  obtain ⟨hx, hb, hml, hown, hts, hK, hRf, hRl⟩ := B
  have hiX0 : ∀ w ∈ wsX00, w ∈ wsX0_hasTheRowsOf := by decide +kernel
  have hf9 := hts (.fieldLink RX0 9 "ExactFolds$Fold" "times" "[I") (by decide +kernel)
  have hf15 := hts (.fieldLink RX0 15 "ExactFolds$Fold" "values" "[J") (by decide +kernel)
  have hf19 := hts (.fieldLink RX0 19 "ExactFolds$Fold" "size" "I") (by decide +kernel)
  have hl : lv_has ls 3 [(0, .ref h0), (1, .ref g0)] := hl
  refine lv_aload_n hx hb dX0_hasTheRowsOf_0 rfl (lv_at hl 0 rfl) ?_
  refine va_get (D := E.1) (ci := 1) (C := RX0) (T := TX0) (N := 4) hx hb hts hiX0 hown hK.1 hP 0 rfl rfl 3 (by decide) hf19 (fun _ h9 => h9) rfl dX0_hasTheRowsOf_1 ?_
  refine lv_aload_n hx hb dX0_hasTheRowsOf_4 rfl (lv_at hl 1 rfl) ?_
  refine va_get (D := E.1) (ci := 1) (C := RX0) (T := TX0) (N := 4) hx hb hts hiX0 hown hK.1 hP 3 rfl rfl 3 (by decide) hf19 (fun _ h9 => h9) rfl dX0_hasTheRowsOf_5 ?_
  refine zn_icmp_eq (tgt := 13) hx hb dX0_hasTheRowsOf_8 (by decide) (by omega) (by omega) (fun c_1 => ?_) (fun c_1 => ?_)
  · refine lv_iconst (v := nI 0) hx hb dX0_hasTheRowsOf_13 (by decide) ?_
    refine lv_istore_n (lv' := [(2, .int (nI 0)), (0, .ref h0), (1, .ref g0)]) hx hb dX0_hasTheRowsOf_14 rfl hl (by decide) rfl (fun ls hl => ?_)
    have lp : ∀ (fu : Nat) (i : Nat) (ls : Array Slot), n - i < fu → (i ≤ n) → (sameF T T2 V V2 n2 (n - i) i = sameR T T2 V V2 n n2) → lv_has ls 3 [(0, .ref h0), (1, .ref g0), (2, .int (nI i))] → W p l e R s m args below meth c s.heap [] 0 0 Q (F0 m 15 ls []) := by
      intro fu
      induction fu with
      | zero => intros; exact absurd (by assumption) (Nat.not_lt_zero _)
      | succ fu ihlp =>
        intro i ls hfu hi hq hl
        refine lv_iload_n hx hb dX0_hasTheRowsOf_15 rfl (lv_at hl 2 rfl) ?_
        refine lv_aload_n hx hb dX0_hasTheRowsOf_16 rfl (lv_at hl 0 rfl) ?_
        refine va_get (D := E.1) (ci := 1) (C := RX0) (T := TX0) (N := 4) hx hb hts hiX0 hown hK.1 hP 0 rfl rfl 3 (by decide) hf19 (fun _ h9 => h9) rfl dX0_hasTheRowsOf_17 ?_
        refine zn_icmp_ge (tgt := 51) hx hb dX0_hasTheRowsOf_20 (by decide) (by omega) (by omega) (fun c_2 => ?_) (fun c_2 => ?_)
        · obtain rfl : i = n := by omega
          refine lv_iconst (v := nI 1) hx hb dX0_hasTheRowsOf_51 (by decide) ?_
          exact z_reti (by rw [← hq, same_end]; rfl) (ret _ _ dX0_hasTheRowsOf_52)
        · refine lv_aload_n hx hb dX0_hasTheRowsOf_23 rfl (lv_at hl 1 rfl) ?_
          refine lv_iload_n hx hb dX0_hasTheRowsOf_24 rfl (lv_at hl 2 rfl) ?_
          refine lv_aload_n hx hb dX0_hasTheRowsOf_25 rfl (lv_at hl 0 rfl) ?_
          refine va_get (D := E.1) (ci := 1) (C := RX0) (T := TX0) (N := 4) hx hb hts hiX0 hown hK.1 hP 0 rfl rfl 1 (by decide) hf9 (fun _ h9 => h9) rfl dX0_hasTheRowsOf_26 ?_
          refine lv_iload_n hx hb dX0_hasTheRowsOf_29 rfl (lv_at hl 2 rfl) ?_
          refine zn_iald hx hb hK.1 hP 1 0 rfl rfl (by omega) (by decide) dX0_hasTheRowsOf_30 ?_
          refine lv_aload_n hx hb dX0_hasTheRowsOf_31 rfl (lv_at hl 0 rfl) ?_
          refine va_get (D := E.1) (ci := 1) (C := RX0) (T := TX0) (N := 4) hx hb hts hiX0 hown hK.1 hP 0 rfl rfl 2 (by decide) hf15 (fun _ h9 => h9) rfl dX0_hasTheRowsOf_32 ?_
          refine lv_iload_n hx hb dX0_hasTheRowsOf_35 rfl (lv_at hl 2 rfl) ?_
          refine zn_lald hx hb hK.1 hP 2 1 rfl rfl (by omega) (by decide) dX0_hasTheRowsOf_36 ?_
          refine zc_i (W.runV ⟨hx, hb, hml, hown, hts⟩ (kX0_isRow l E g0 b1 b2 k2 n2 T2 V2 hn2 i (by omega) (T i) (V i)) (cwV 3 hts gX0_hasTheRowsOf_X0_isRow rfl rfl rfl (by decide +kernel) ⟨Nat.le_trans (Nat.le_of_ble_eq_true rfl) hRf, Nat.le_trans (Nat.le_of_ble_eq_true rfl) hRl⟩) (z_preV (As := [.int (nI i), .int (T i), .long (V i)]) (hP.sub (ws' := [(g0, .inr (1, [.int k2, .ref b1, .ref b2, .int (nI n2)])), (b1, .inl (E.2.1, 64, .inl T2)), (b2, .inl (E.2.2.1, 64, .inr (.inl V2)))]) [3, 4, 5] rfl) hK 0 rfl rfl) rfl rfl hl.1 rfl (lv_room (Nat.le_of_ble_eq_true rfl)) dX0_hasTheRowsOf_37 ⟨Nat.zero_le _, Nat.zero_le _⟩) ?_
          refine zb_if_ne (tgt := 45) hx hb dX0_hasTheRowsOf_40 (by decide) (fun c_3 => ?_) (fun c_3 => ?_)
          · have hq2 : sameF T T2 V V2 n2 (n - (i + 1)) (i + 1) = sameR T T2 V V2 n n2 := by rw [← same_step c_2 c_3]; exact hq
            refine lv_iinc (v := nI (i + 1)) (lv' := [(2, .int (nI (i + 1))), (0, .ref h0), (1, .ref g0)]) hx hb dX0_hasTheRowsOf_45 hl (k := 2) rfl (z_inc _ 1) (by decide) rfl (fun ls hl => ?_)
            refine lv_goto (tgt := 15) hx hb dX0_hasTheRowsOf_48 (by decide) ?_
            exact ihlp (i + 1) ls (by omega) (by omega) (hq2) (lv_sub hl [1, 2, 0] rfl)
          · refine lv_iconst (v := nI 0) hx hb dX0_hasTheRowsOf_43 (by decide) ?_
            exact z_reti (by rw [← hq, same_hit c_2 c_3]; rfl) (ret _ _ dX0_hasTheRowsOf_44)
    exact lp _ 0 ls (Nat.lt_succ_self _) (by omega) (by unfold sameR; rw [if_pos c_1]; rfl) (lv_sub hl [1, 2, 0] rfl)
  · refine lv_iconst (v := nI 0) hx hb dX0_hasTheRowsOf_11 (by decide) ?_
    exact z_reti (by unfold sameR; rw [if_neg c_1]; rfl) (ret _ _ dX0_hasTheRowsOf_12)
set_option maxHeartbeats 4000000 in
set_option maxRecDepth 100000 in
theorem kX0_insert (l : Launch) (E : zE) (sz : Nat) (h0 a1 a2 : Nat) (k : Int32) (n : Nat) (T : Nat → Int32) (V : Nat → Int64) (hn : n < 64) (t : Int32) (w : Int64) : Met l yX0_insert wsX0_insert (rmL 1) (va_Pc [.ref h0, .int t, .long w] (zS E [(h0, .inr (1, [.int k, .ref a1, .ref a2, .int (nI n)])), (a1, .inl (E.2.1, 64, .inl T)), (a2, .inl (E.2.2.1, 64, .inr (.inl V)))] sz)) (va_Qv (fun (_ : Unit) => True) (fun _ t9 => zW E [(h0, .inr (1, [.int k, .ref a1, .ref a2, .int (nI (n + 1))])), (a1, .inl (E.2.1, 64, .inl (insT T (plc T V t w n) n t))), (a2, .inl (E.2.2.1, 64, .inr (.inl (insT V (plc T V t w n) n w))))] t9) (va_A [(h0, .inr (1, [.int k, .ref a1, .ref a2, .int (nI n)])), (a1, .inl (E.2.1, 64, .inl T)), (a2, .inl (E.2.2.1, 64, .inr (.inl V)))] sz)) 0 0 (va_A [(h0, .inr (1, [.int k, .ref a1, .ref a2, .int (nI n)])), (a1, .inl (E.2.1, 64, .inl T)), (a2, .inl (E.2.2.1, 64, .inr (.inl V)))] sz) := by
  refine z_ofWv (cc := cX0_insert) (maxL := 6) (own := RX0) (by decide) rfl rfl (Nat.le_of_ble_eq_true rfl) ?_
  intro p e s m args below meth c R Q A B hP hD hA ret ls hl
  obtain ⟨hx, hb, hml, hown, hts, hK, hRf, hRl⟩ := B
  have hiX0 : ∀ w ∈ wsX00, w ∈ wsX0_insert := by decide +kernel
  have hf9 := hts (.fieldLink RX0 9 "ExactFolds$Fold" "times" "[I") (by decide +kernel)
  have hf15 := hts (.fieldLink RX0 15 "ExactFolds$Fold" "values" "[J") (by decide +kernel)
  have hf19 := hts (.fieldLink RX0 19 "ExactFolds$Fold" "size" "I") (by decide +kernel)
  have hS : va_S A s.heap s.heap [] := va_S.rf
  have hl : lv_has ls 6 [(0, .ref h0), (1, .int t), (2, .long w)] := hl
  have hpl := plc_le T V t w n
  refine lv_aload_n hx hb dX0_insert_0 rfl (lv_at hl 0 rfl) ?_
  refine va_get (D := E.1) (ci := 1) (C := RX0) (T := TX0) (N := 4) hx hb hts hiX0 hown hK.1 hP 0 rfl rfl 3 (by decide) hf19 (fun _ h9 => h9) rfl dX0_insert_1 ?_
  refine lv_bipush (v := nI 64) hx hb dX0_insert_4 (by decide) ?_
  refine zn_icmp_lt (tgt := 10) hx hb dX0_insert_6 (by decide) (by omega) (by omega) (fun c_1 => ?_) (fun c_1 => ?_)
  · refine lv_aload_n hx hb dX0_insert_10 rfl (lv_at hl 0 rfl) ?_
    refine lv_iload_n hx hb dX0_insert_11 rfl (lv_at hl 1 rfl) ?_
    refine lv_lload_n hx hb dX0_insert_12 rfl (lv_at hl 2 rfl) ?_
    refine zc_i (W.runV ⟨hx, hb, hml, hown, hts⟩ (kX0_placeOf l E h0 a1 a2 k n T V (by omega) t w) (cwV 2 hts gX0_insert_X0_placeOf rfl rfl rfl (by decide +kernel) ⟨Nat.le_trans (Nat.le_of_ble_eq_true rfl) hRf, Nat.le_trans (Nat.le_of_ble_eq_true rfl) hRl⟩) (z_preV (As := [.int t, .long w]) hP hK 0 rfl rfl) rfl rfl hl.1 rfl (lv_room (Nat.le_of_ble_eq_true rfl)) dX0_insert_13 ⟨Nat.zero_le _, Nat.zero_le _⟩) ?_
    refine lv_istore (lv' := [(4, .int (nI (plc T V t w n))), (0, .ref h0), (1, .int t), (2, .long w)]) hx hb dX0_insert_16 hl (by decide) rfl (fun ls hl => ?_)
    refine lv_aload_n hx hb dX0_insert_18 rfl (lv_at hl 1 rfl) ?_
    refine va_get (D := E.1) (ci := 1) (C := RX0) (T := TX0) (N := 4) hx hb hts hiX0 hown hK.1 hP 0 rfl rfl 3 (by decide) hf19 (fun _ h9 => h9) rfl dX0_insert_19 ?_
    refine lv_istore (lv' := [(5, .int (nI n)), (4, .int (nI (plc T V t w n))), (0, .ref h0), (1, .int t), (2, .long w)]) hx hb dX0_insert_22 hl (by decide) rfl (fun ls hl => ?_)
    have lp : ∀ (fu : Nat) (i : Nat) (T1 : Nat → Int32) (V1 : Nat → Int64) (ls : Array Slot) (H : Heap) (locs : List Loc), i < fu → (plc T V t w n ≤ i) → (i ≤ n) → (∀ j, T1 j = if i < j ∧ j ≤ n then T (j - 1) else T j) → (∀ j, V1 j = if i < j ∧ j ≤ n then V (j - 1) else V j) → lv_has ls 6 [(0, .ref h0), (1, .int t), (2, .long w), (4, .int (nI (plc T V t w n))), (5, .int (nI i))] → va_P E.1 vwCl [(h0, .inr (1, [.int k, .ref a1, .ref a2, .int (nI n)])), (a1, .inl (E.2.1, 64, .inl T1)), (a2, .inl (E.2.2.1, 64, .inr (.inl V1)))] H → va_D A [(h0, .inr (1, [.int k, .ref a1, .ref a2, .int (nI n)])), (a1, .inl (E.2.1, 64, .inl T1)), (a2, .inl (E.2.2.1, 64, .inr (.inl V1)))] → va_S A s.heap H locs → W p l e R s m args below meth c H locs 0 0 Q (F0 m 24 ls []) := by
      intro fu
      induction fu with
      | zero => intros; exact absurd (by assumption) (Nat.not_lt_zero _)
      | succ fu ihlp =>
        intro i T1 V1 ls H locs hfu hi1 hi2 hT hV hl hP hD hS
        refine lv_iload hx hb dX0_insert_24 (lv_at hl 4 rfl) ?_
        refine lv_iload hx hb dX0_insert_26 (lv_at hl 3 rfl) ?_
        refine zn_icmp_le (tgt := 69) hx hb dX0_insert_28 (by decide) (by omega) (by omega) (fun c_2 => ?_) (fun c_2 => ?_)
        · obtain rfl : i = plc T V t w n := by omega
          refine lv_aload_n hx hb dX0_insert_69 rfl (lv_at hl 0 rfl) ?_
          refine va_get (D := E.1) (ci := 1) (C := RX0) (T := TX0) (N := 4) hx hb hts hiX0 hown hK.1 hP 0 rfl rfl 1 (by decide) hf9 (fun _ h9 => h9) rfl dX0_insert_70 ?_
          refine lv_iload hx hb dX0_insert_73 (lv_at hl 3 rfl) ?_
          refine lv_iload_n hx hb dX0_insert_75 rfl (lv_at hl 1 rfl) ?_
          refine zn_iast hx hb hK.1 hP hD hS 1 0 rfl rfl (by omega) (by decide) dX0_insert_76 (fun H locs hP hD hS => ?_)
          have hP : va_P E.1 vwCl [(h0, .inr (1, [.int k, .ref a1, .ref a2, .int (nI n)])), (a1, .inl (E.2.1, 64, .inl (upd T1 (plc T V t w n) t))), (a2, .inl (E.2.2.1, 64, .inr (.inl V1)))] H := hP
          have hD : va_D A [(h0, .inr (1, [.int k, .ref a1, .ref a2, .int (nI n)])), (a1, .inl (E.2.1, 64, .inl (upd T1 (plc T V t w n) t))), (a2, .inl (E.2.2.1, 64, .inr (.inl V1)))] := hD
          refine lv_aload_n hx hb dX0_insert_77 rfl (lv_at hl 0 rfl) ?_
          refine va_get (D := E.1) (ci := 1) (C := RX0) (T := TX0) (N := 4) hx hb hts hiX0 hown hK.1 hP 0 rfl rfl 2 (by decide) hf15 (fun _ h9 => h9) rfl dX0_insert_78 ?_
          refine lv_iload hx hb dX0_insert_81 (lv_at hl 3 rfl) ?_
          refine lv_lload_n hx hb dX0_insert_83 rfl (lv_at hl 2 rfl) ?_
          refine zn_last hx hb hK.1 hP hD hS 2 1 rfl rfl (by omega) (by decide) dX0_insert_84 (fun H locs hP hD hS => ?_)
          have hP : va_P E.1 vwCl [(h0, .inr (1, [.int k, .ref a1, .ref a2, .int (nI n)])), (a1, .inl (E.2.1, 64, .inl (upd T1 (plc T V t w n) t))), (a2, .inl (E.2.2.1, 64, .inr (.inl (vp_updL V1 (plc T V t w n) w))))] H := hP
          have hD : va_D A [(h0, .inr (1, [.int k, .ref a1, .ref a2, .int (nI n)])), (a1, .inl (E.2.1, 64, .inl (upd T1 (plc T V t w n) t))), (a2, .inl (E.2.2.1, 64, .inr (.inl (vp_updL V1 (plc T V t w n) w))))] := hD
          refine lv_aload_n hx hb dX0_insert_85 rfl (lv_at hl 0 rfl) ?_
          refine lv_dup hx hb dX0_insert_86 rfl ?_
          refine va_get (D := E.1) (ci := 1) (C := RX0) (T := TX0) (N := 4) hx hb hts hiX0 hown hK.1 hP 0 rfl rfl 3 (by decide) hf19 (fun _ h9 => h9) rfl dX0_insert_87 ?_
          refine lv_iconst (v := nI 1) hx hb dX0_insert_90 (by decide) ?_
          refine zn_iadd hx hb dX0_insert_91 ?_
          refine va_put (D := E.1) (ci := 1) (v := .int (nI (n + 1))) (ty := .int) (C := RX0) (T := TX0) (N := 4) hx hb hts hiX0 tyX0 tyX0_ok nmX0 hown hK.1 hP hD hS 0 rfl rfl 3 (by decide) hf19 (fun _ h9 => h9) rfl (by decide +kernel) rfl rfl (Nat.le_of_ble_eq_true rfl) dX0_insert_92 (fun H locs hP hD hS => ?_)
          have hP : va_P E.1 vwCl [(h0, .inr (1, [.int k, .ref a1, .ref a2, .int (nI (n + 1))])), (a1, .inl (E.2.1, 64, .inl (upd T1 (plc T V t w n) t))), (a2, .inl (E.2.2.1, 64, .inr (.inl (vp_updL V1 (plc T V t w n) w))))] H := hP
          have hD : va_D A [(h0, .inr (1, [.int k, .ref a1, .ref a2, .int (nI (n + 1))])), (a1, .inl (E.2.1, 64, .inl (upd T1 (plc T V t w n) t))), (a2, .inl (E.2.2.1, 64, .inr (.inl (vp_updL V1 (plc T V t w n) w))))] := hD
          exact ret _ _ _ _ (by rw [← ins_end t hT, ← ins_end w hV]; exact hP) hS dX0_insert_95
        · refine lv_aload_n hx hb dX0_insert_31 rfl (lv_at hl 0 rfl) ?_
          refine va_get (D := E.1) (ci := 1) (C := RX0) (T := TX0) (N := 4) hx hb hts hiX0 hown hK.1 hP 0 rfl rfl 1 (by decide) hf9 (fun _ h9 => h9) rfl dX0_insert_32 ?_
          refine lv_iload hx hb dX0_insert_35 (lv_at hl 4 rfl) ?_
          refine lv_aload_n hx hb dX0_insert_37 rfl (lv_at hl 0 rfl) ?_
          refine va_get (D := E.1) (ci := 1) (C := RX0) (T := TX0) (N := 4) hx hb hts hiX0 hown hK.1 hP 0 rfl rfl 1 (by decide) hf9 (fun _ h9 => h9) rfl dX0_insert_38 ?_
          refine lv_iload hx hb dX0_insert_41 (lv_at hl 4 rfl) ?_
          refine lv_iconst (v := nI 1) hx hb dX0_insert_43 (by decide) ?_
          refine zn_isub hx hb (by omega) dX0_insert_44 ?_
          refine zn_iald hx hb hK.1 hP 1 0 rfl rfl (by omega) (by decide) dX0_insert_45 ?_
          refine zn_iast hx hb hK.1 hP hD hS 1 0 rfl rfl (by omega) (by decide) dX0_insert_46 (fun H locs hP hD hS => ?_)
          have hP : va_P E.1 vwCl [(h0, .inr (1, [.int k, .ref a1, .ref a2, .int (nI n)])), (a1, .inl (E.2.1, 64, .inl (upd T1 i (T1 (i - 1))))), (a2, .inl (E.2.2.1, 64, .inr (.inl V1)))] H := hP
          have hD : va_D A [(h0, .inr (1, [.int k, .ref a1, .ref a2, .int (nI n)])), (a1, .inl (E.2.1, 64, .inl (upd T1 i (T1 (i - 1))))), (a2, .inl (E.2.2.1, 64, .inr (.inl V1)))] := hD
          refine lv_aload_n hx hb dX0_insert_47 rfl (lv_at hl 0 rfl) ?_
          refine va_get (D := E.1) (ci := 1) (C := RX0) (T := TX0) (N := 4) hx hb hts hiX0 hown hK.1 hP 0 rfl rfl 2 (by decide) hf15 (fun _ h9 => h9) rfl dX0_insert_48 ?_
          refine lv_iload hx hb dX0_insert_51 (lv_at hl 4 rfl) ?_
          refine lv_aload_n hx hb dX0_insert_53 rfl (lv_at hl 0 rfl) ?_
          refine va_get (D := E.1) (ci := 1) (C := RX0) (T := TX0) (N := 4) hx hb hts hiX0 hown hK.1 hP 0 rfl rfl 2 (by decide) hf15 (fun _ h9 => h9) rfl dX0_insert_54 ?_
          refine lv_iload hx hb dX0_insert_57 (lv_at hl 4 rfl) ?_
          refine lv_iconst (v := nI 1) hx hb dX0_insert_59 (by decide) ?_
          refine zn_isub hx hb (by omega) dX0_insert_60 ?_
          refine zn_lald hx hb hK.1 hP 2 1 rfl rfl (by omega) (by decide) dX0_insert_61 ?_
          refine zn_last hx hb hK.1 hP hD hS 2 1 rfl rfl (by omega) (by decide) dX0_insert_62 (fun H locs hP hD hS => ?_)
          have hP : va_P E.1 vwCl [(h0, .inr (1, [.int k, .ref a1, .ref a2, .int (nI n)])), (a1, .inl (E.2.1, 64, .inl (upd T1 i (T1 (i - 1))))), (a2, .inl (E.2.2.1, 64, .inr (.inl (vp_updL V1 i (V1 (i - 1))))))] H := hP
          have hD : va_D A [(h0, .inr (1, [.int k, .ref a1, .ref a2, .int (nI n)])), (a1, .inl (E.2.1, 64, .inl (upd T1 i (T1 (i - 1))))), (a2, .inl (E.2.2.1, 64, .inr (.inl (vp_updL V1 i (V1 (i - 1))))))] := hD
          refine lv_iinc (v := nI (i - 1)) (lv' := [(5, .int (nI (i - 1))), (0, .ref h0), (1, .int t), (2, .long w), (4, .int (nI (plc T V t w n)))]) hx hb dX0_insert_63 hl (k := 4) rfl (z_dec 1 (by omega)) (by decide) rfl (fun ls hl => ?_)
          refine lv_goto (tgt := 24) hx hb dX0_insert_66 (by decide) ?_
          exact ihlp (i - 1) (upd T1 i (T1 (i - 1))) (vp_updL V1 i (V1 (i - 1))) ls _ _ (by omega) (by omega) (by omega) (ins_step (by omega) hi2 hT) (ins_step (by omega) hi2 hV) (lv_sub hl [1, 2, 3, 4, 0] rfl) hP hD hS
    exact lp _ n T V ls _ _ (Nat.lt_succ_self _) (hpl) (Nat.le_refl _) (fun j => (if_neg (by omega)).symm) (fun j => (if_neg (by omega)).symm) (lv_sub hl [2, 3, 4, 1, 0] rfl) hP hD hS
  · exact absurd c_1 (by omega)
set_option maxHeartbeats 4000000 in
set_option maxRecDepth 100000 in
theorem kX0_takeOut (l : Launch) (E : zE) (sz : Nat) (h0 a1 a2 : Nat) (k : Int32) (n : Nat) (T : Nat → Int32) (V : Nat → Int64) (hn : n ≤ 64) (p_ : Nat) (hp : p_ < n) : Met l yX0_takeOut wsX0_takeOut (rmL 0) (va_Pc [.ref h0, .int (nI p_)] (zS E [(h0, .inr (1, [.int k, .ref a1, .ref a2, .int (nI n)])), (a1, .inl (E.2.1, 64, .inl T)), (a2, .inl (E.2.2.1, 64, .inr (.inl V)))] sz)) (va_Qv (fun (_ : Unit) => True) (fun _ t9 => zW E [(h0, .inr (1, [.int k, .ref a1, .ref a2, .int (nI (n - 1))])), (a1, .inl (E.2.1, 64, .inl (delT T p_ n))), (a2, .inl (E.2.2.1, 64, .inr (.inl (delT V p_ n))))] t9) (va_A [(h0, .inr (1, [.int k, .ref a1, .ref a2, .int (nI n)])), (a1, .inl (E.2.1, 64, .inl T)), (a2, .inl (E.2.2.1, 64, .inr (.inl V)))] sz)) 0 0 (va_A [(h0, .inr (1, [.int k, .ref a1, .ref a2, .int (nI n)])), (a1, .inl (E.2.1, 64, .inl T)), (a2, .inl (E.2.2.1, 64, .inr (.inl V)))] sz) := by
  refine z_ofWv (cc := cX0_takeOut) (maxL := 3) (own := RX0) (by decide) rfl rfl (Nat.le_of_ble_eq_true rfl) ?_
  intro p e s m args below meth c R Q A B hP hD hA ret ls hl
  obtain ⟨hx, hb, hml, hown, hts, hK, hRf, hRl⟩ := B
  have hiX0 : ∀ w ∈ wsX00, w ∈ wsX0_takeOut := by decide +kernel
  have hf9 := hts (.fieldLink RX0 9 "ExactFolds$Fold" "times" "[I") (by decide +kernel)
  have hf15 := hts (.fieldLink RX0 15 "ExactFolds$Fold" "values" "[J") (by decide +kernel)
  have hf19 := hts (.fieldLink RX0 19 "ExactFolds$Fold" "size" "I") (by decide +kernel)
  have hS : va_S A s.heap s.heap [] := va_S.rf
  have hl : lv_has ls 3 [(0, .ref h0), (1, .int (nI p_))] := hl
  refine lv_iload_n hx hb dX0_takeOut_0 rfl (lv_at hl 1 rfl) ?_
  refine zn_if_lt (tgt := 12) hx hb dX0_takeOut_1 (by decide) (by omega) ?_
  refine lv_iload_n hx hb dX0_takeOut_4 rfl (lv_at hl 1 rfl) ?_
  refine lv_aload_n hx hb dX0_takeOut_5 rfl (lv_at hl 0 rfl) ?_
  refine va_get (D := E.1) (ci := 1) (C := RX0) (T := TX0) (N := 4) hx hb hts hiX0 hown hK.1 hP 0 rfl rfl 3 (by decide) hf19 (fun _ h9 => h9) rfl dX0_takeOut_6 ?_
  refine zn_icmp_lt (tgt := 13) hx hb dX0_takeOut_9 (by decide) (by omega) (by omega) (fun c_1 => ?_) (fun c_1 => ?_)
  · refine lv_aload_n hx hb dX0_takeOut_13 rfl (lv_at hl 0 rfl) ?_
    refine lv_dup hx hb dX0_takeOut_14 rfl ?_
    refine va_get (D := E.1) (ci := 1) (C := RX0) (T := TX0) (N := 4) hx hb hts hiX0 hown hK.1 hP 0 rfl rfl 3 (by decide) hf19 (fun _ h9 => h9) rfl dX0_takeOut_15 ?_
    refine lv_iconst (v := nI 1) hx hb dX0_takeOut_18 (by decide) ?_
    refine zn_isub hx hb (by omega) dX0_takeOut_19 ?_
    refine va_put (D := E.1) (ci := 1) (v := .int (nI (n - 1))) (ty := .int) (C := RX0) (T := TX0) (N := 4) hx hb hts hiX0 tyX0 tyX0_ok nmX0 hown hK.1 hP hD hS 0 rfl rfl 3 (by decide) hf19 (fun _ h9 => h9) rfl (by decide +kernel) rfl rfl (Nat.le_of_ble_eq_true rfl) dX0_takeOut_20 (fun H locs hP hD hS => ?_)
    have hP : va_P E.1 vwCl [(h0, .inr (1, [.int k, .ref a1, .ref a2, .int (nI (n - 1))])), (a1, .inl (E.2.1, 64, .inl T)), (a2, .inl (E.2.2.1, 64, .inr (.inl V)))] H := hP
    have hD : va_D A [(h0, .inr (1, [.int k, .ref a1, .ref a2, .int (nI (n - 1))])), (a1, .inl (E.2.1, 64, .inl T)), (a2, .inl (E.2.2.1, 64, .inr (.inl V)))] := hD
    refine lv_iload_n hx hb dX0_takeOut_23 rfl (lv_at hl 1 rfl) ?_
    refine lv_istore_n (lv' := [(2, .int (nI p_)), (0, .ref h0), (1, .int (nI p_))]) hx hb dX0_takeOut_24 rfl hl (by decide) rfl (fun ls hl => ?_)
    have lp : ∀ (fu : Nat) (i : Nat) (T1 : Nat → Int32) (V1 : Nat → Int64) (ls : Array Slot) (H : Heap) (locs : List Loc), n - i < fu → (p_ ≤ i) → (i ≤ n - 1) → (∀ j, T1 j = if p_ ≤ j ∧ j < i then T (j + 1) else T j) → (∀ j, V1 j = if p_ ≤ j ∧ j < i then V (j + 1) else V j) → lv_has ls 3 [(0, .ref h0), (1, .int (nI p_)), (2, .int (nI i))] → va_P E.1 vwCl [(h0, .inr (1, [.int k, .ref a1, .ref a2, .int (nI (n - 1))])), (a1, .inl (E.2.1, 64, .inl T1)), (a2, .inl (E.2.2.1, 64, .inr (.inl V1)))] H → va_D A [(h0, .inr (1, [.int k, .ref a1, .ref a2, .int (nI (n - 1))])), (a1, .inl (E.2.1, 64, .inl T1)), (a2, .inl (E.2.2.1, 64, .inr (.inl V1)))] → va_S A s.heap H locs → W p l e R s m args below meth c H locs 0 0 Q (F0 m 25 ls []) := by
      intro fu
      induction fu with
      | zero => intros; exact absurd (by assumption) (Nat.not_lt_zero _)
      | succ fu ihlp =>
        intro i T1 V1 ls H locs hfu hi1 hi2 hT hV hl hP hD hS
        refine lv_iload_n hx hb dX0_takeOut_25 rfl (lv_at hl 2 rfl) ?_
        refine lv_aload_n hx hb dX0_takeOut_26 rfl (lv_at hl 0 rfl) ?_
        refine va_get (D := E.1) (ci := 1) (C := RX0) (T := TX0) (N := 4) hx hb hts hiX0 hown hK.1 hP 0 rfl rfl 3 (by decide) hf19 (fun _ h9 => h9) rfl dX0_takeOut_27 ?_
        refine zn_icmp_ge (tgt := 67) hx hb dX0_takeOut_30 (by decide) (by omega) (by omega) (fun c_2 => ?_) (fun c_2 => ?_)
        · obtain rfl : i = n - 1 := by omega
          exact ret _ _ _ _ (by rw [← del_end hT, ← del_end hV]; exact hP) hS dX0_takeOut_67
        · refine lv_aload_n hx hb dX0_takeOut_33 rfl (lv_at hl 0 rfl) ?_
          refine va_get (D := E.1) (ci := 1) (C := RX0) (T := TX0) (N := 4) hx hb hts hiX0 hown hK.1 hP 0 rfl rfl 1 (by decide) hf9 (fun _ h9 => h9) rfl dX0_takeOut_34 ?_
          refine lv_iload_n hx hb dX0_takeOut_37 rfl (lv_at hl 2 rfl) ?_
          refine lv_aload_n hx hb dX0_takeOut_38 rfl (lv_at hl 0 rfl) ?_
          refine va_get (D := E.1) (ci := 1) (C := RX0) (T := TX0) (N := 4) hx hb hts hiX0 hown hK.1 hP 0 rfl rfl 1 (by decide) hf9 (fun _ h9 => h9) rfl dX0_takeOut_39 ?_
          refine lv_iload_n hx hb dX0_takeOut_42 rfl (lv_at hl 2 rfl) ?_
          refine lv_iconst (v := nI 1) hx hb dX0_takeOut_43 (by decide) ?_
          refine zn_iadd hx hb dX0_takeOut_44 ?_
          refine zn_iald hx hb hK.1 hP 1 0 rfl rfl (by omega) (by decide) dX0_takeOut_45 ?_
          refine zn_iast hx hb hK.1 hP hD hS 1 0 rfl rfl (by omega) (by decide) dX0_takeOut_46 (fun H locs hP hD hS => ?_)
          have hP : va_P E.1 vwCl [(h0, .inr (1, [.int k, .ref a1, .ref a2, .int (nI (n - 1))])), (a1, .inl (E.2.1, 64, .inl (upd T1 i (T1 (i + 1))))), (a2, .inl (E.2.2.1, 64, .inr (.inl V1)))] H := hP
          have hD : va_D A [(h0, .inr (1, [.int k, .ref a1, .ref a2, .int (nI (n - 1))])), (a1, .inl (E.2.1, 64, .inl (upd T1 i (T1 (i + 1))))), (a2, .inl (E.2.2.1, 64, .inr (.inl V1)))] := hD
          refine lv_aload_n hx hb dX0_takeOut_47 rfl (lv_at hl 0 rfl) ?_
          refine va_get (D := E.1) (ci := 1) (C := RX0) (T := TX0) (N := 4) hx hb hts hiX0 hown hK.1 hP 0 rfl rfl 2 (by decide) hf15 (fun _ h9 => h9) rfl dX0_takeOut_48 ?_
          refine lv_iload_n hx hb dX0_takeOut_51 rfl (lv_at hl 2 rfl) ?_
          refine lv_aload_n hx hb dX0_takeOut_52 rfl (lv_at hl 0 rfl) ?_
          refine va_get (D := E.1) (ci := 1) (C := RX0) (T := TX0) (N := 4) hx hb hts hiX0 hown hK.1 hP 0 rfl rfl 2 (by decide) hf15 (fun _ h9 => h9) rfl dX0_takeOut_53 ?_
          refine lv_iload_n hx hb dX0_takeOut_56 rfl (lv_at hl 2 rfl) ?_
          refine lv_iconst (v := nI 1) hx hb dX0_takeOut_57 (by decide) ?_
          refine zn_iadd hx hb dX0_takeOut_58 ?_
          refine zn_lald hx hb hK.1 hP 2 1 rfl rfl (by omega) (by decide) dX0_takeOut_59 ?_
          refine zn_last hx hb hK.1 hP hD hS 2 1 rfl rfl (by omega) (by decide) dX0_takeOut_60 (fun H locs hP hD hS => ?_)
          have hP : va_P E.1 vwCl [(h0, .inr (1, [.int k, .ref a1, .ref a2, .int (nI (n - 1))])), (a1, .inl (E.2.1, 64, .inl (upd T1 i (T1 (i + 1))))), (a2, .inl (E.2.2.1, 64, .inr (.inl (vp_updL V1 i (V1 (i + 1))))))] H := hP
          have hD : va_D A [(h0, .inr (1, [.int k, .ref a1, .ref a2, .int (nI (n - 1))])), (a1, .inl (E.2.1, 64, .inl (upd T1 i (T1 (i + 1))))), (a2, .inl (E.2.2.1, 64, .inr (.inl (vp_updL V1 i (V1 (i + 1))))))] := hD
          refine lv_iinc (v := nI (i + 1)) (lv' := [(2, .int (nI (i + 1))), (0, .ref h0), (1, .int (nI p_))]) hx hb dX0_takeOut_61 hl (k := 2) rfl (z_inc _ 1) (by decide) rfl (fun ls hl => ?_)
          refine lv_goto (tgt := 25) hx hb dX0_takeOut_64 (by decide) ?_
          exact ihlp (i + 1) (upd T1 i (T1 (i + 1))) (vp_updL V1 i (V1 (i + 1))) ls _ _ (by omega) (by omega) (by omega) (del_step hi1 hT) (del_step hi1 hV) (lv_sub hl [1, 2, 0] rfl) hP hD hS
    exact lp _ p_ T V ls _ _ (Nat.lt_succ_self _) (Nat.le_refl _) (by omega) (fun j => (if_neg (by omega)).symm) (fun j => (if_neg (by omega)).symm) (lv_sub hl [1, 2, 0] rfl) hP hD hS
  · exact absurd c_1 (by omega)
set_option maxHeartbeats 4000000 in
set_option maxRecDepth 100000 in
theorem kX0_takeAllOf (l : Launch) (E : zE) (sz : Nat) (h0 a1 a2 : Nat) (k : Int32) (n : Nat) (T : Nat → Int32) (V : Nat → Int64) (hn : n ≤ 64) (g0 b1 b2 : Nat) (k2 : Int32) (n2 : Nat) (T2 : Nat → Int32) (V2 : Nat → Int64) (hn2 : n2 ≤ 64) (hs : n + n2 ≤ 64) : Met l yX0_takeAllOf wsX0_takeAllOf (rmL 2) (va_Pc [.ref h0, .ref g0] (zS E [(h0, .inr (1, [.int k, .ref a1, .ref a2, .int (nI n)])), (a1, .inl (E.2.1, 64, .inl T)), (a2, .inl (E.2.2.1, 64, .inr (.inl V))), (g0, .inr (1, [.int k2, .ref b1, .ref b2, .int (nI n2)])), (b1, .inl (E.2.1, 64, .inl T2)), (b2, .inl (E.2.2.1, 64, .inr (.inl V2)))] sz)) (va_Qv (fun (_ : Unit) => True) (fun _ t9 => zW E [(h0, .inr (1, [.int k, .ref a1, .ref a2, .int (nI (n + n2))])), (a1, .inl (E.2.1, 64, .inl ((insN T V n T2 V2 n2).1))), (a2, .inl (E.2.2.1, 64, .inr (.inl ((insN T V n T2 V2 n2).2)))), (g0, .inr (1, [.int k2, .ref b1, .ref b2, .int (nI 0)])), (b1, .inl (E.2.1, 64, .inl T2)), (b2, .inl (E.2.2.1, 64, .inr (.inl V2)))] t9) (va_A [(h0, .inr (1, [.int k, .ref a1, .ref a2, .int (nI n)])), (a1, .inl (E.2.1, 64, .inl T)), (a2, .inl (E.2.2.1, 64, .inr (.inl V))), (g0, .inr (1, [.int k2, .ref b1, .ref b2, .int (nI n2)])), (b1, .inl (E.2.1, 64, .inl T2)), (b2, .inl (E.2.2.1, 64, .inr (.inl V2)))] sz)) 0 0 (va_A [(h0, .inr (1, [.int k, .ref a1, .ref a2, .int (nI n)])), (a1, .inl (E.2.1, 64, .inl T)), (a2, .inl (E.2.2.1, 64, .inr (.inl V))), (g0, .inr (1, [.int k2, .ref b1, .ref b2, .int (nI n2)])), (b1, .inl (E.2.1, 64, .inl T2)), (b2, .inl (E.2.2.1, 64, .inr (.inl V2)))] sz) := by
  refine z_ofWv (cc := cX0_takeAllOf) (maxL := 3) (own := RX0) (by decide) rfl rfl (Nat.le_of_ble_eq_true rfl) ?_
  intro p e s m args below meth c R Q A B hP hD hA ret ls hl
  obtain ⟨hx, hb, hml, hown, hts, hK, hRf, hRl⟩ := B
  have hiX0 : ∀ w ∈ wsX00, w ∈ wsX0_takeAllOf := by decide +kernel
  have hf9 := hts (.fieldLink RX0 9 "ExactFolds$Fold" "times" "[I") (by decide +kernel)
  have hf15 := hts (.fieldLink RX0 15 "ExactFolds$Fold" "values" "[J") (by decide +kernel)
  have hf19 := hts (.fieldLink RX0 19 "ExactFolds$Fold" "size" "I") (by decide +kernel)
  have hS : va_S A s.heap s.heap [] := va_S.rf
  have hl : lv_has ls 3 [(0, .ref h0), (1, .ref g0)] := hl
  refine lv_iconst (v := nI 0) hx hb dX0_takeAllOf_0 (by decide) ?_
  refine lv_istore_n (lv' := [(2, .int (nI 0)), (0, .ref h0), (1, .ref g0)]) hx hb dX0_takeAllOf_1 rfl hl (by decide) rfl (fun ls hl => ?_)
  have lp : ∀ (fu : Nat) (i : Nat) (ls : Array Slot) (H : Heap) (locs : List Loc), n2 - i < fu → (i ≤ n2) → lv_has ls 3 [(0, .ref h0), (1, .ref g0), (2, .int (nI i))] → va_P E.1 vwCl [(h0, .inr (1, [.int k, .ref a1, .ref a2, .int (nI (n + i))])), (a1, .inl (E.2.1, 64, .inl ((insN T V n T2 V2 i).1))), (a2, .inl (E.2.2.1, 64, .inr (.inl ((insN T V n T2 V2 i).2)))), (g0, .inr (1, [.int k2, .ref b1, .ref b2, .int (nI n2)])), (b1, .inl (E.2.1, 64, .inl T2)), (b2, .inl (E.2.2.1, 64, .inr (.inl V2)))] H → va_D A [(h0, .inr (1, [.int k, .ref a1, .ref a2, .int (nI (n + i))])), (a1, .inl (E.2.1, 64, .inl ((insN T V n T2 V2 i).1))), (a2, .inl (E.2.2.1, 64, .inr (.inl ((insN T V n T2 V2 i).2)))), (g0, .inr (1, [.int k2, .ref b1, .ref b2, .int (nI n2)])), (b1, .inl (E.2.1, 64, .inl T2)), (b2, .inl (E.2.2.1, 64, .inr (.inl V2)))] → va_S A s.heap H locs → W p l e R s m args below meth c H locs 0 0 Q (F0 m 2 ls []) := by
    intro fu
    induction fu with
    | zero => intros; exact absurd (by assumption) (Nat.not_lt_zero _)
    | succ fu ihlp =>
      intro i ls H locs hfu hi hl hP hD hS
      refine lv_iload_n hx hb dX0_takeAllOf_2 rfl (lv_at hl 2 rfl) ?_
      refine lv_aload_n hx hb dX0_takeAllOf_3 rfl (lv_at hl 1 rfl) ?_
      refine va_get (D := E.1) (ci := 1) (C := RX0) (T := TX0) (N := 4) hx hb hts hiX0 hown hK.1 hP 3 rfl rfl 3 (by decide) hf19 (fun _ h9 => h9) rfl dX0_takeAllOf_4 ?_
      refine zn_icmp_ge (tgt := 32) hx hb dX0_takeAllOf_7 (by decide) (by omega) (by omega) (fun c_1 => ?_) (fun c_1 => ?_)
      · obtain rfl : i = n2 := by omega
        refine lv_aload_n hx hb dX0_takeAllOf_32 rfl (lv_at hl 1 rfl) ?_
        refine lv_iconst (v := nI 0) hx hb dX0_takeAllOf_33 (by decide) ?_
        refine va_put (D := E.1) (ci := 1) (v := .int (nI 0)) (ty := .int) (C := RX0) (T := TX0) (N := 4) hx hb hts hiX0 tyX0 tyX0_ok nmX0 hown hK.1 hP hD hS 3 rfl rfl 3 (by decide) hf19 (fun _ h9 => h9) rfl (by decide +kernel) rfl rfl (Nat.le_of_ble_eq_true rfl) dX0_takeAllOf_34 (fun H locs hP hD hS => ?_)
        have hP : va_P E.1 vwCl [(h0, .inr (1, [.int k, .ref a1, .ref a2, .int (nI (n + i))])), (a1, .inl (E.2.1, 64, .inl ((insN T V n T2 V2 i).1))), (a2, .inl (E.2.2.1, 64, .inr (.inl ((insN T V n T2 V2 i).2)))), (g0, .inr (1, [.int k2, .ref b1, .ref b2, .int (nI 0)])), (b1, .inl (E.2.1, 64, .inl T2)), (b2, .inl (E.2.2.1, 64, .inr (.inl V2)))] H := hP
        have hD : va_D A [(h0, .inr (1, [.int k, .ref a1, .ref a2, .int (nI (n + i))])), (a1, .inl (E.2.1, 64, .inl ((insN T V n T2 V2 i).1))), (a2, .inl (E.2.2.1, 64, .inr (.inl ((insN T V n T2 V2 i).2)))), (g0, .inr (1, [.int k2, .ref b1, .ref b2, .int (nI 0)])), (b1, .inl (E.2.1, 64, .inl T2)), (b2, .inl (E.2.2.1, 64, .inr (.inl V2)))] := hD
        exact ret _ _ _ _ (hP) hS dX0_takeAllOf_37
      · refine lv_aload_n hx hb dX0_takeAllOf_10 rfl (lv_at hl 0 rfl) ?_
        refine lv_aload_n hx hb dX0_takeAllOf_11 rfl (lv_at hl 1 rfl) ?_
        refine va_get (D := E.1) (ci := 1) (C := RX0) (T := TX0) (N := 4) hx hb hts hiX0 hown hK.1 hP 3 rfl rfl 1 (by decide) hf9 (fun _ h9 => h9) rfl dX0_takeAllOf_12 ?_
        refine lv_iload_n hx hb dX0_takeAllOf_15 rfl (lv_at hl 2 rfl) ?_
        refine zn_iald hx hb hK.1 hP 4 0 rfl rfl (by omega) (by decide) dX0_takeAllOf_16 ?_
        refine lv_aload_n hx hb dX0_takeAllOf_17 rfl (lv_at hl 1 rfl) ?_
        refine va_get (D := E.1) (ci := 1) (C := RX0) (T := TX0) (N := 4) hx hb hts hiX0 hown hK.1 hP 3 rfl rfl 2 (by decide) hf15 (fun _ h9 => h9) rfl dX0_takeAllOf_18 ?_
        refine lv_iload_n hx hb dX0_takeAllOf_21 rfl (lv_at hl 2 rfl) ?_
        refine zn_lald hx hb hK.1 hP 5 1 rfl rfl (by omega) (by decide) dX0_takeAllOf_22 ?_
        have hPc := hP.sub (ws' := [(h0, .inr (1, [.int k, .ref a1, .ref a2, .int (nI (n + i))])), (a1, .inl (E.2.1, 64, .inl ((insN T V n T2 V2 i).1))), (a2, .inl (E.2.2.1, 64, .inr (.inl ((insN T V n T2 V2 i).2))))]) [0, 1, 2] rfl
        have hDc := hD.sub (ws' := [(h0, .inr (1, [.int k, .ref a1, .ref a2, .int (nI (n + i))])), (a1, .inl (E.2.1, 64, .inl ((insN T V n T2 V2 i).1))), (a2, .inl (E.2.2.1, 64, .inr (.inl ((insN T V n T2 V2 i).2))))]) [0, 1, 2] (by decide) rfl
        refine zw_v (E := E) (wc := [(h0, .inr (1, [.int k, .ref a1, .ref a2, .int (nI (n + i))])), (a1, .inl (E.2.1, 64, .inl ((insN T V n T2 V2 i).1))), (a2, .inl (E.2.2.1, 64, .inr (.inl ((insN T V n T2 V2 i).2))))]) (wc' := [(h0, .inr (1, [.int k, .ref a1, .ref a2, .int (nI (n + i + 1))])), (a1, .inl (E.2.1, 64, .inl (insT (insN T V n T2 V2 i).1 (plc (insN T V n T2 V2 i).1 (insN T V n T2 V2 i).2 (T2 i) (V2 i) (n + i)) (n + i) (T2 i)))), (a2, .inl (E.2.2.1, 64, .inr (.inl (insT (insN T V n T2 V2 i).2 (plc (insN T V n T2 V2 i).1 (insN T V n T2 V2 i).2 (T2 i) (V2 i) (n + i)) (n + i) (V2 i)))))]) (wr := [(g0, .inr (1, [.int k2, .ref b1, .ref b2, .int (nI n2)])), (b1, .inl (E.2.1, 64, .inl T2)), (b2, .inl (E.2.2.1, 64, .inr (.inl V2)))]) (va_runV ⟨hx, hb, hml, hown, hts⟩ (kX0_insert l E _ h0 a1 a2 k (n + i) (insN T V n T2 V2 i).1 (insN T V n T2 V2 i).2 (by omega) (T2 i) (V2 i)) (cwV 2 hts gX0_takeAllOf_X0_insert rfl rfl rfl (by decide +kernel) ⟨Nat.le_trans (Nat.le_of_ble_eq_true rfl) hRf, Nat.le_trans (Nat.le_of_ble_eq_true rfl) hRl⟩) (z_preWV (As := [.int (T2 i), .long (V2 i)]) hPc hDc hK 0 rfl rfl) rfl rfl hl.1 rfl (lv_room (Nat.le_of_ble_eq_true rfl)) dX0_takeAllOf_23 ⟨Nat.zero_le _, Nat.zero_le _⟩) hP hD hS hA [0, 1, 2] [3, 4, 5] rfl rfl (by decide) (by decide) (by decide) rfl (fun H locs hP hD hS => ?_)
        have hP := hP.sub (ws' := [(h0, .inr (1, [.int k, .ref a1, .ref a2, .int (nI (n + i + 1))])), (a1, .inl (E.2.1, 64, .inl (insT (insN T V n T2 V2 i).1 (plc (insN T V n T2 V2 i).1 (insN T V n T2 V2 i).2 (T2 i) (V2 i) (n + i)) (n + i) (T2 i)))), (a2, .inl (E.2.2.1, 64, .inr (.inl (insT (insN T V n T2 V2 i).2 (plc (insN T V n T2 V2 i).1 (insN T V n T2 V2 i).2 (T2 i) (V2 i) (n + i)) (n + i) (V2 i))))), (g0, .inr (1, [.int k2, .ref b1, .ref b2, .int (nI n2)])), (b1, .inl (E.2.1, 64, .inl T2)), (b2, .inl (E.2.2.1, 64, .inr (.inl V2)))]) [3, 4, 5, 0, 1, 2] rfl
        have hD := hD.sub (ws' := [(h0, .inr (1, [.int k, .ref a1, .ref a2, .int (nI (n + i + 1))])), (a1, .inl (E.2.1, 64, .inl (insT (insN T V n T2 V2 i).1 (plc (insN T V n T2 V2 i).1 (insN T V n T2 V2 i).2 (T2 i) (V2 i) (n + i)) (n + i) (T2 i)))), (a2, .inl (E.2.2.1, 64, .inr (.inl (insT (insN T V n T2 V2 i).2 (plc (insN T V n T2 V2 i).1 (insN T V n T2 V2 i).2 (T2 i) (V2 i) (n + i)) (n + i) (V2 i))))), (g0, .inr (1, [.int k2, .ref b1, .ref b2, .int (nI n2)])), (b1, .inl (E.2.1, 64, .inl T2)), (b2, .inl (E.2.2.1, 64, .inr (.inl V2)))]) [3, 4, 5, 0, 1, 2] (by decide) rfl
        refine lv_iinc (v := nI (i + 1)) (lv' := [(2, .int (nI (i + 1))), (0, .ref h0), (1, .ref g0)]) hx hb dX0_takeAllOf_26 hl (k := 2) rfl (z_inc _ 1) (by decide) rfl (fun ls hl => ?_)
        refine lv_goto (tgt := 2) hx hb dX0_takeAllOf_29 (by decide) ?_
        exact ihlp (i + 1) ls _ _ (by omega) (by omega) (lv_sub hl [1, 2, 0] rfl) hP hD hS
  exact lp _ 0 ls _ _ (Nat.lt_succ_self _) (Nat.zero_le _) (lv_sub hl [1, 2, 0] rfl) hP hD hS
