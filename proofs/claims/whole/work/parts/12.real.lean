/-! RealSum: the limbs L; D their numbers, where they are brought to 32 bits -/
def expN (x : Int64) : Nat := ((jushr x (nI 52)).toInt32).toBitVec.toNat % 2 ^ 11
theorem expN_i (x : Int64) : (jushr x (nI 52)).toInt32 &&& nI 2047 = nI (expN x) := pk_and _ 11 (by decide)
theorem expN_lt (x : Int64) : expN x < 2048 := Nat.mod_lt _ (by decide)
def dgt (x : Int64) : Int64 := if expN x = 0 then x &&& 4503599627370495 else (x &&& 4503599627370495) ||| 4503599627370496
def shN (x : Int64) : Nat := if expN x = 0 then 0 else expN x - 1
theorem shN_lt (x : Int64) : shN x < 2047 := by unfold shN; have := expN_lt x; split <;> omega
def sgN (x : Int64) : Int64 := if x < 0 then (-1) else 1
def loP (x : Int64) : Int64 := jshl (dgt x &&& 4294967295) (nI (shN x % 32))
def hiP (x : Int64) : Int64 := jshl (jushr (dgt x) (nI 32)) (nI (shN x % 32))
def put1 (L : Nat → Int64) (x : Int64) : Nat → Int64 := vp_updL L (shN x / 32) (L (shN x / 32) + sgN x * (loP x &&& 4294967295))
def put2 (L : Nat → Int64) (x : Int64) : Nat → Int64 := vp_updL (put1 L x) (shN x / 32 + 1) (put1 L x (shN x / 32 + 1) + sgN x * (jushr (loP x) (nI 32) + (hiP x &&& 4294967295)))
def put3 (L : Nat → Int64) (x : Int64) : Nat → Int64 := vp_updL (put2 L x) (shN x / 32 + 2) (put2 L x (shN x / 32 + 2) + sgN x * jushr (hiP x) (nI 32))
def putN (L : Nat → Int64) (V : Nat → Int64) : Nat → Nat → Int64
  | 0 => L
  | i + 1 => put3 (putN L V i) (V i)
def car (L : Nat → Int64) : Nat → Int64
  | 0 => 0
  | i + 1 => jshr (L i + car L i) (nI 32)
def carL (L : Nat → Int64) (n : Nat) : Nat → Int64 := fun j => if j < n then (L j + car L j) &&& 4294967295 else L j
theorem carL_step {L L1 : Nat → Int64} {i : Nat} (h : ∀ j, L1 j = if j < i then (L j + car L j) &&& 4294967295 else L j) : ∀ j, vp_updL L1 i ((L1 i + car L i) &&& 4294967295) j = if j < i + 1 then (L j + car L j) &&& 4294967295 else L j := by
  intro j
  unfold vp_updL
  by_cases e : j = i
  · subst e; rw [if_pos rfl, if_pos (by omega), h, if_neg (by omega)]
  · rw [if_neg e, h]
    by_cases e2 : j < i
    · rw [if_pos e2, if_pos (by omega)]
    · rw [if_neg e2, if_neg (by omega)]
def setL (L : Nat → Int64) (f : Nat → Int64) (n : Nat) : Nat → Int64 := fun j => if j < n then f j else L j
theorem setL_0 (L f : Nat → Int64) : setL L f 0 = L := by funext j; unfold setL; rw [if_neg (by omega)]
theorem setL_step {L f : Nat → Int64} {i : Nat} (x : Int64) (hx : x = f i) : vp_updL (setL L f i) i x = setL L f (i + 1) := by
  funext j
  unfold vp_updL setL
  by_cases e : j = i
  · subst e; rw [if_pos rfl, if_pos (by omega), hx]
  · rw [if_neg e]
    by_cases e2 : j < i
    · rw [if_pos e2, if_pos (by omega)]
    · rw [if_neg e2, if_neg (by omega)]
def negL (L : Nat → Int64) : Nat → Int64 := setL L (fun j => -(L j)) 67
theorem neg_at {L : Nat → Int64} {i : Nat} : setL L (fun j => -(L j)) i i = L i := by unfold setL; rw [if_neg (by omega)]
def sumL (L : Nat → Int64) (V : Nat → Int64) (n : Nat) : Nat → Int64 := putN (setL L (fun _ => 0) 67) V n
def isNeg (L : Nat → Int64) : Bool := decide (car L 67 < 0)
def endL (L : Nat → Int64) : Nat → Int64 := if isNeg L = true then carL (negL (carL L 67)) 67 else carL L 67
/-- the numbers that the limbs are -/
def limN (L : Nat → Int64) (j : Nat) : Nat := if j < 67 then (L j).toBitVec.toNat % 2 ^ 32 else 0
def isDg (L : Nat → Int64) (D : Nat → Nat) : Prop := (∀ j, j < 67 → L j = lN (D j) ∧ D j < 2 ^ 32) ∧ ∀ j, 67 ≤ j → D j = 0
theorem isDg_lt {L : Nat → Int64} {D : Nat → Nat} (h : isDg L D) (j : Nat) : D j < 2 ^ 32 := by
  by_cases e : j < 67
  · exact (h.1 j e).2
  · rw [h.2 j (by omega)]; decide
def setF (D : Nat → Nat) (b : Nat) : Bool := decide (¬ jushr (lN (D (b / 32))) (nI (b % 32)) &&& 1 = 0)
def dgF (D : Nat → Nat) (b : Nat) : Int64 := ((jushr (lN (D (b / 32)) ||| jshl (lN (D (b / 32 + 1))) (nI 32)) (nI (b % 32))) ||| jshl (jshl (lN (D (b / 32 + 2))) (nI (32 - b % 32))) (nI 32)) &&& 9007199254740991
def anyP (D : Nat → Nat) : Nat → Bool
  | 0 => false
  | i + 1 => anyP D i || decide (¬ lN (D i) = 0)
theorem any_hit {D : Nat → Nat} {i k : Nat} (h : i < k) (c : ¬ lN (D i) = 0) : anyP D k = true := by
  induction k with
  | zero => omega
  | succ k ih =>
    unfold anyP
    by_cases e : i = k
    · subst e; rw [decide_eq_true c]; exact Bool.or_true _
    · rw [ih (by omega)]; rfl
theorem any_step {D : Nat → Nat} {i : Nat} (h : anyP D i = false) (c : lN (D i) = 0) : anyP D (i + 1) = false := by
  unfold anyP; rw [h, decide_eq_false (fun q => q c)]; rfl
def anyF (D : Nat → Nat) (b : Nat) : Bool := anyP D (b / 32) || decide (¬ lN (D (b / 32)) &&& (jshl 1 (nI (b % 32)) - 1) = 0)
def rupF (D : Nat → Nat) (b : Nat) : Bool := setF D (b - 1) && (setF D b || anyF D (b - 1))
def hbK (D : Nat → Nat) : Nat → Nat
  | 0 => 0
  | k + 1 => if lN (D k) = 0 then hbK D k else k * 32 + Nat.log2 (D k) + 1
theorem hbK_le {D : Nat → Nat} (h : ∀ j, D j < 2 ^ 32) (k : Nat) : hbK D k ≤ k * 32 := by
  induction k with
  | zero => exact Nat.le_refl _
  | succ k ih =>
    unfold hbK
    split
    · omega
    · rename_i c
      have h0 : D k ≠ 0 := fun q => c (by rw [q]; rfl)
      have := (Nat.log2_lt h0).mpr (h k)
      omega
theorem hb_step {D : Nat → Nat} {k : Nat} (h : 0 < k) (c : lN (D (k - 1)) = 0) : hbK D k = hbK D (k - 1) := by
  obtain ⟨k2, rfl⟩ : ∃ k2, k = k2 + 1 := ⟨k - 1, by omega⟩
  show (if lN (D k2) = 0 then hbK D k2 else k2 * 32 + Nat.log2 (D k2) + 1) = hbK D k2
  rw [if_pos (show lN (D k2) = 0 from c)]
theorem hb_ret {D : Nat → Nat} {k : Nat} (h : 0 < k) (c : ¬ lN (D (k - 1)) = 0) (hq : hbK D k = hbK D 67) (h2 : Nat.log2 (D (k - 1)) < 32) : nI ((k - 1) * 32 + 63 - (63 - Nat.log2 (D (k - 1)))) = nI (hbK D 67) - nI 1 := by
  obtain ⟨k2, rfl⟩ : ∃ k2, k = k2 + 1 := ⟨k - 1, by omega⟩
  have e : hbK D (k2 + 1) = k2 * 32 + Nat.log2 (D k2) + 1 := by
    show (if lN (D k2) = 0 then hbK D k2 else k2 * 32 + Nat.log2 (D k2) + 1) = _
    rw [if_neg (show ¬ lN (D k2) = 0 from c)]
  rw [← hq, e, pk_sub (by omega)]
  exact congrArg nI (by simp only [Nat.add_sub_cancel] at *; omega)
theorem nI_neg {d : Nat} (h : 2 ^ 31 ≤ d) (h2 : d < 2 ^ 32) : nI d < 0 := by
  rw [Int32.lt_iff_toInt_lt, Int32.toInt_zero]
  show (Int32.ofNat d).toInt < 0
  rw [Int32.toInt_ofNat']
  show Int.bmod (d : Int) 4294967296 < 0
  rw [Int.bmod_def]
  split <;> omega
theorem sh_pos {h : Nat} (h1 : 53 < h) : nI h - nI 1 - nI 52 = nI (h - 53) := by
  rw [pk_sub (show 1 ≤ h by omega), pk_sub (show 52 ≤ h - 1 by omega)]; exact congrArg nI (by omega)
theorem sh_gt {h : Nat} (hh : h < 2 ^ 30) (c : 0 < nI h - nI 1 - nI 52) : 53 < h := by
  rcases Nat.lt_or_ge 53 h with q | q
  · exact q
  · exfalso
    have e : nI h - nI 1 - nI 52 = nI h - nI 53 := by rw [Int32.sub_sub]; rfl
    rw [e, Int32.lt_iff_toInt_lt, Int32.toInt_zero, pk_sub_toInt hh (by decide)] at c
    omega
def rszF (D : Nat → Nat) : Int64 := if hbK D 67 ≤ 53 then dgF D 0 else if 2046 ≤ hbK D 67 - 53 then 9218868437227405312 else if rupF D (hbK D 67 - 53) = true then jshl (nI (hbK D 67 - 53)).toInt64 (nI 52) + dgF D (hbK D 67 - 53) + 1 else jshl (nI (hbK D 67 - 53)).toInt64 (nI 52) + dgF D (hbK D 67 - 53)
theorem carL_dg (L : Nat → Int64) : isDg (carL L 67) (limN (carL L 67)) := by
  refine ⟨fun j hj => ?_, fun j hj => ?_⟩
  · unfold limN carL
    rw [if_pos hj, if_pos hj]
    obtain ⟨m, h1, h2⟩ := pf_andw (L j + car L j)
    rw [h2, wb_tn (by omega), Nat.mod_eq_of_lt h1]
    exact ⟨rfl, h1⟩
  · unfold limN; rw [if_neg (by omega)]
theorem endL_dg (L : Nat → Int64) : isDg (endL L) (limN (endL L)) := by
  unfold endL; split <;> exact carL_dg _
def realF (L V : Nat → Int64) (n : Nat) : Int64 := if isNeg (sumL L V n) = true then rszF (limN (endL (sumL L V n))) ||| (-9223372036854775808) else rszF (limN (endL (sumL L V n)))
theorem nlz_fin {d k i : Nat} (h : d / 2 ^ k = i) (h1 : 0 < i) (h4 : i < 4) : Nat.log2 d = k + i / 2 := by
  have hd : d ≠ 0 := by intro q; subst q; rw [Nat.zero_div] at h; omega
  have hp : 0 < 2 ^ k := Nat.pos_of_ne_zero (by simp)
  have e1 := Nat.div_add_mod d (2 ^ k)
  have e2 := Nat.mod_lt d hp
  rw [h] at e1
  have lo : k + i / 2 ≤ Nat.log2 d := by
    rw [Nat.le_log2 hd, Nat.pow_add]
    rcases (show i = 1 ∨ i = 2 ∨ i = 3 by omega) with rfl | rfl | rfl <;> simp <;> omega
  have hi : Nat.log2 d < k + i / 2 + 1 := by
    rw [Nat.log2_lt hd, Nat.pow_add, Nat.pow_add]
    rcases (show i = 1 ∨ i = 2 ∨ i = 3 by omega) with rfl | rfl | rfl <;> simp <;> omega
  omega
set_option maxHeartbeats 4000000 in
set_option maxRecDepth 100000 in
theorem kX1_put (l : Launch) (E : zE) (sz : Nat) (h0 a1 : Nat) (L : Nat → Int64) (x : Int64) : Met l yX1_put wsX1_put (rmL 0) (va_Pc [.ref h0, .long x] (zS E [(h0, .inr (2, [.ref a1])), (a1, .inl (E.2.2.1, 67, .inr (.inl L)))] sz)) (va_Qv (fun (_ : Unit) => True) (fun _ t9 => zW E [(h0, .inr (2, [.ref a1])), (a1, .inl (E.2.2.1, 67, .inr (.inl (put3 L x))))] t9) (va_A [(h0, .inr (2, [.ref a1])), (a1, .inl (E.2.2.1, 67, .inr (.inl L)))] sz)) 0 0 (va_A [(h0, .inr (2, [.ref a1])), (a1, .inl (E.2.2.1, 67, .inr (.inl L)))] sz) := by
  refine z_ofWv (cc := cX1_put) (maxL := 14) (own := RX1) (by decide) rfl rfl (Nat.le_of_ble_eq_true rfl) ?_
  intro p e s m args below meth c R Q A B hP hD hA ret ls hl
  obtain ⟨hx, hb, hml, hown, hts, hK, hRf, hRl⟩ := B
  have hiX1 : ∀ w ∈ wsX10, w ∈ wsX1_put := by decide +kernel
  have hf11 := hts (.fieldLink RX1 11 "ExactFolds$RealSum" "limbs" "[J") (by decide +kernel)
  have hS : va_S A s.heap s.heap [] := va_S.rf
  have hl : lv_has ls 14 [(0, .ref h0), (1, .long x)] := hl
  have hex := expN_lt x
  have hsh := shN_lt x
  refine lv_lload_n hx hb dX1_put_0 rfl (lv_at hl 1 rfl) ?_
  refine lv_bipush (v := nI 52) hx hb dX1_put_1 (by decide) ?_
  refine lv_lushr (v := jushr x (nI 52)) hx hb dX1_put_3 rfl ?_
  refine lv_l2i hx hb dX1_put_4 rfl ?_
  refine lv_sipush (v := nI 2047) hx hb dX1_put_5 (by decide) ?_
  refine lv_iand hx hb dX1_put_8 ?_
  refine W.eq (g2 := F0 m 9 ls ([.int (nI (expN x))])) (by rw [show (((jushr x (nI 52)).toInt32) &&& (nI 2047) : Int32) = nI (expN x) from expN_i x]) ?_
  refine lv_istore_n (lv' := [(3, .int (nI (expN x))), (0, .ref h0), (1, .long x)]) hx hb dX1_put_9 rfl hl (by decide) rfl (fun ls hl => ?_)
  refine lv_lload_n hx hb dX1_put_10 rfl (lv_at hl 2 rfl) ?_
  refine lv_ldc2 (v := 4503599627370495) hx hb hown (hts (.constantLong RX1 42 (4503599627370495)) (by decide +kernel)) dX1_put_11 ?_
  refine lv_land hx hb dX1_put_14 ?_
  refine lv_lstore (lv' := [(4, .long (x &&& 4503599627370495)), (3, .int (nI (expN x))), (0, .ref h0), (1, .long x)]) hx hb dX1_put_15 hl (by decide) rfl (fun ls hl => ?_)
  refine lv_iconst (v := nI 0) hx hb dX1_put_17 (by decide) ?_
  refine lv_istore (lv' := [(6, .int (nI 0)), (4, .long (x &&& 4503599627370495)), (3, .int (nI (expN x))), (0, .ref h0), (1, .long x)]) hx hb dX1_put_18 hl (by decide) rfl (fun ls hl => ?_)
  have lp : ∀ (fu : Nat) (ls : Array Slot) (H : Heap) (locs : List Loc), 0 < fu → lv_has ls 14 [(0, .ref h0), (1, .long x), (3, .int (nI (expN x))), (4, .long (dgt x)), (6, .int (nI (shN x)))] → va_P E.1 vwCl [(h0, .inr (2, [.ref a1])), (a1, .inl (E.2.2.1, 67, .inr (.inl L)))] H → va_D A [(h0, .inr (2, [.ref a1])), (a1, .inl (E.2.2.1, 67, .inr (.inl L)))] → va_S A s.heap H locs → W p l e R s m args below meth c H locs 0 0 Q (F0 m 37 ls []) := by
    intro fu
    induction fu with
    | zero => intros; exact absurd (by assumption) (Nat.not_lt_zero _)
    | succ fu ihlp =>
      intro  ls H locs hfu hl hP hD hS
      refine lv_lload hx hb dX1_put_37 (lv_at hl 3 rfl) ?_
      refine lv_ldc2 (v := 4294967295) hx hb hown (hts (.constantLong RX1 46 (4294967295)) (by decide +kernel)) dX1_put_39 ?_
      refine lv_land hx hb dX1_put_42 ?_
      refine lv_iload hx hb dX1_put_43 (lv_at hl 4 rfl) ?_
      refine lv_bipush (v := nI 31) hx hb dX1_put_45 (by decide) ?_
      refine lv_iand hx hb dX1_put_47 ?_
      refine W.eq (g2 := F0 m 48 ls ([.int (nI ((shN x) % 32)), .long ((dgt x) &&& 4294967295)])) (by rw [show ((nI (shN x)) &&& (nI 31) : Int32) = nI ((shN x) % 32) from pk_andN (by omega) 5 (by decide)]) ?_
      refine lv_lshl (v := jshl ((dgt x) &&& 4294967295) (nI ((shN x) % 32))) hx hb dX1_put_48 rfl ?_
      refine lv_lstore (lv' := [(7, .long (jshl ((dgt x) &&& 4294967295) (nI ((shN x) % 32)))), (0, .ref h0), (1, .long x), (3, .int (nI (expN x))), (4, .long (dgt x)), (6, .int (nI (shN x)))]) hx hb dX1_put_49 hl (by decide) rfl (fun ls hl => ?_)
      refine lv_lload hx hb dX1_put_51 (lv_at hl 4 rfl) ?_
      refine lv_bipush (v := nI 32) hx hb dX1_put_53 (by decide) ?_
      refine lv_lushr (v := jushr (dgt x) (nI 32)) hx hb dX1_put_55 rfl ?_
      refine lv_iload hx hb dX1_put_56 (lv_at hl 5 rfl) ?_
      refine lv_bipush (v := nI 31) hx hb dX1_put_58 (by decide) ?_
      refine lv_iand hx hb dX1_put_60 ?_
      refine W.eq (g2 := F0 m 61 ls ([.int (nI ((shN x) % 32)), .long (jushr (dgt x) (nI 32))])) (by rw [show ((nI (shN x)) &&& (nI 31) : Int32) = nI ((shN x) % 32) from pk_andN (by omega) 5 (by decide)]) ?_
      refine lv_lshl (v := jshl (jushr (dgt x) (nI 32)) (nI ((shN x) % 32))) hx hb dX1_put_61 rfl ?_
      refine lv_lstore (lv' := [(9, .long (jshl (jushr (dgt x) (nI 32)) (nI ((shN x) % 32)))), (7, .long (jshl ((dgt x) &&& 4294967295) (nI ((shN x) % 32)))), (0, .ref h0), (1, .long x), (3, .int (nI (expN x))), (4, .long (dgt x)), (6, .int (nI (shN x)))]) hx hb dX1_put_62 hl (by decide) rfl (fun ls hl => ?_)
      have lq : ∀ (fu : Nat) (ls : Array Slot) (H : Heap) (locs : List Loc), 0 < fu → lv_has ls 14 [(0, .ref h0), (1, .long x), (3, .int (nI (expN x))), (4, .long (dgt x)), (6, .int (nI (shN x))), (7, .long (loP x)), (9, .long (hiP x)), (11, .long (sgN x))] → va_P E.1 vwCl [(h0, .inr (2, [.ref a1])), (a1, .inl (E.2.2.1, 67, .inr (.inl L)))] H → va_D A [(h0, .inr (2, [.ref a1])), (a1, .inl (E.2.2.1, 67, .inr (.inl L)))] → va_S A s.heap H locs → W p l e R s m args below meth c H locs 0 0 Q (F0 m 79 ls []) := by
        intro fu
        induction fu with
        | zero => intros; exact absurd (by assumption) (Nat.not_lt_zero _)
        | succ fu ihlq =>
          intro  ls H locs hfu hl hP hD hS
          refine lv_iload hx hb dX1_put_79 (lv_at hl 4 rfl) ?_
          refine lv_iconst (v := nI 5) hx hb dX1_put_81 (by decide) ?_
          refine lv_ishr hx hb dX1_put_82 ?_
          refine W.eq (g2 := F0 m 83 ls ([.int (nI ((shN x) / 32))])) (by rw [show ((nI (shN x)) >>> ((nI 5) &&& 31) : Int32) = nI ((shN x) / 32) from pk_shrN (by omega) _ 5 (by decide)]) ?_
          refine lv_istore (lv' := [(13, .int (nI ((shN x) / 32))), (0, .ref h0), (1, .long x), (3, .int (nI (expN x))), (4, .long (dgt x)), (6, .int (nI (shN x))), (7, .long (loP x)), (9, .long (hiP x)), (11, .long (sgN x))]) hx hb dX1_put_83 hl (by decide) rfl (fun ls hl => ?_)
          refine lv_iload hx hb dX1_put_85 (lv_at hl 0 rfl) ?_
          refine lv_iconst (v := nI 2) hx hb dX1_put_87 (by decide) ?_
          refine zn_iadd hx hb dX1_put_88 ?_
          refine lv_bipush (v := nI 67) hx hb dX1_put_89 (by decide) ?_
          refine zn_icmp_ge (tgt := 160) hx hb dX1_put_91 (by decide) (by omega) (by omega) (fun c_1 => ?_) (fun c_1 => ?_)
          · exact absurd c_1 (by omega)
          · refine lv_aload_n hx hb dX1_put_94 rfl (lv_at hl 1 rfl) ?_
            refine va_get (D := E.1) (ci := 2) (C := RX1) (T := TX1) (N := 1) hx hb hts hiX1 hown hK.1 hP 0 rfl rfl 0 (by decide) hf11 (fun _ h9 => h9) rfl dX1_put_95 ?_
            refine lv_iload hx hb dX1_put_98 (lv_at hl 0 rfl) ?_
            refine lv_dup2_11 hx hb dX1_put_100 rfl rfl ?_
            refine zn_lald hx hb hK.1 hP 1 1 rfl rfl (by omega) (by decide) dX1_put_101 ?_
            refine lv_lload hx hb dX1_put_102 (lv_at hl 8 rfl) ?_
            refine lv_lload hx hb dX1_put_104 (lv_at hl 6 rfl) ?_
            refine lv_ldc2 (v := 4294967295) hx hb hown (hts (.constantLong RX1 46 (4294967295)) (by decide +kernel)) dX1_put_106 ?_
            refine lv_land hx hb dX1_put_109 ?_
            refine lv_lmul hx hb dX1_put_110 ?_
            refine lv_ladd hx hb dX1_put_111 ?_
            refine zn_last hx hb hK.1 hP hD hS 1 1 rfl rfl (by omega) (by decide) dX1_put_112 (fun H locs hP hD hS => ?_)
            have hP : va_P E.1 vwCl [(h0, .inr (2, [.ref a1])), (a1, .inl (E.2.2.1, 67, .inr (.inl (vp_updL L ((shN x) / 32) ((L ((shN x) / 32)) + ((sgN x) * ((loP x) &&& 4294967295)))))))] H := hP
            have hD : va_D A [(h0, .inr (2, [.ref a1])), (a1, .inl (E.2.2.1, 67, .inr (.inl (vp_updL L ((shN x) / 32) ((L ((shN x) / 32)) + ((sgN x) * ((loP x) &&& 4294967295)))))))] := hD
            refine lv_aload_n hx hb dX1_put_113 rfl (lv_at hl 1 rfl) ?_
            refine va_get (D := E.1) (ci := 2) (C := RX1) (T := TX1) (N := 1) hx hb hts hiX1 hown hK.1 hP 0 rfl rfl 0 (by decide) hf11 (fun _ h9 => h9) rfl dX1_put_114 ?_
            refine lv_iload hx hb dX1_put_117 (lv_at hl 0 rfl) ?_
            refine lv_iconst (v := nI 1) hx hb dX1_put_119 (by decide) ?_
            refine zn_iadd hx hb dX1_put_120 ?_
            refine lv_dup2_11 hx hb dX1_put_121 rfl rfl ?_
            refine zn_lald hx hb hK.1 hP 1 1 rfl rfl (by omega) (by decide) dX1_put_122 ?_
            refine lv_lload hx hb dX1_put_123 (lv_at hl 8 rfl) ?_
            refine lv_lload hx hb dX1_put_125 (lv_at hl 6 rfl) ?_
            refine lv_bipush (v := nI 32) hx hb dX1_put_127 (by decide) ?_
            refine lv_lushr (v := jushr (loP x) (nI 32)) hx hb dX1_put_129 rfl ?_
            refine lv_lload hx hb dX1_put_130 (lv_at hl 7 rfl) ?_
            refine lv_ldc2 (v := 4294967295) hx hb hown (hts (.constantLong RX1 46 (4294967295)) (by decide +kernel)) dX1_put_132 ?_
            refine lv_land hx hb dX1_put_135 ?_
            refine lv_ladd hx hb dX1_put_136 ?_
            refine lv_lmul hx hb dX1_put_137 ?_
            refine lv_ladd hx hb dX1_put_138 ?_
            refine zn_last hx hb hK.1 hP hD hS 1 1 rfl rfl (by omega) (by decide) dX1_put_139 (fun H locs hP hD hS => ?_)
            have hP : va_P E.1 vwCl [(h0, .inr (2, [.ref a1])), (a1, .inl (E.2.2.1, 67, .inr (.inl (vp_updL (vp_updL L ((shN x) / 32) ((L ((shN x) / 32)) + ((sgN x) * ((loP x) &&& 4294967295)))) (((shN x) / 32) + 1) (((vp_updL L ((shN x) / 32) ((L ((shN x) / 32)) + ((sgN x) * ((loP x) &&& 4294967295)))) (((shN x) / 32) + 1)) + ((sgN x) * ((jushr (loP x) (nI 32)) + ((hiP x) &&& 4294967295))))))))] H := hP
            have hD : va_D A [(h0, .inr (2, [.ref a1])), (a1, .inl (E.2.2.1, 67, .inr (.inl (vp_updL (vp_updL L ((shN x) / 32) ((L ((shN x) / 32)) + ((sgN x) * ((loP x) &&& 4294967295)))) (((shN x) / 32) + 1) (((vp_updL L ((shN x) / 32) ((L ((shN x) / 32)) + ((sgN x) * ((loP x) &&& 4294967295)))) (((shN x) / 32) + 1)) + ((sgN x) * ((jushr (loP x) (nI 32)) + ((hiP x) &&& 4294967295))))))))] := hD
            refine lv_aload_n hx hb dX1_put_140 rfl (lv_at hl 1 rfl) ?_
            refine va_get (D := E.1) (ci := 2) (C := RX1) (T := TX1) (N := 1) hx hb hts hiX1 hown hK.1 hP 0 rfl rfl 0 (by decide) hf11 (fun _ h9 => h9) rfl dX1_put_141 ?_
            refine lv_iload hx hb dX1_put_144 (lv_at hl 0 rfl) ?_
            refine lv_iconst (v := nI 2) hx hb dX1_put_146 (by decide) ?_
            refine zn_iadd hx hb dX1_put_147 ?_
            refine lv_dup2_11 hx hb dX1_put_148 rfl rfl ?_
            refine zn_lald hx hb hK.1 hP 1 1 rfl rfl (by omega) (by decide) dX1_put_149 ?_
            refine lv_lload hx hb dX1_put_150 (lv_at hl 8 rfl) ?_
            refine lv_lload hx hb dX1_put_152 (lv_at hl 7 rfl) ?_
            refine lv_bipush (v := nI 32) hx hb dX1_put_154 (by decide) ?_
            refine lv_lushr (v := jushr (hiP x) (nI 32)) hx hb dX1_put_156 rfl ?_
            refine lv_lmul hx hb dX1_put_157 ?_
            refine lv_ladd hx hb dX1_put_158 ?_
            refine zn_last hx hb hK.1 hP hD hS 1 1 rfl rfl (by omega) (by decide) dX1_put_159 (fun H locs hP hD hS => ?_)
            have hP : va_P E.1 vwCl [(h0, .inr (2, [.ref a1])), (a1, .inl (E.2.2.1, 67, .inr (.inl (vp_updL (vp_updL (vp_updL L ((shN x) / 32) ((L ((shN x) / 32)) + ((sgN x) * ((loP x) &&& 4294967295)))) (((shN x) / 32) + 1) (((vp_updL L ((shN x) / 32) ((L ((shN x) / 32)) + ((sgN x) * ((loP x) &&& 4294967295)))) (((shN x) / 32) + 1)) + ((sgN x) * ((jushr (loP x) (nI 32)) + ((hiP x) &&& 4294967295))))) (((shN x) / 32) + 2) (((vp_updL (vp_updL L ((shN x) / 32) ((L ((shN x) / 32)) + ((sgN x) * ((loP x) &&& 4294967295)))) (((shN x) / 32) + 1) (((vp_updL L ((shN x) / 32) ((L ((shN x) / 32)) + ((sgN x) * ((loP x) &&& 4294967295)))) (((shN x) / 32) + 1)) + ((sgN x) * ((jushr (loP x) (nI 32)) + ((hiP x) &&& 4294967295))))) (((shN x) / 32) + 2)) + ((sgN x) * (jushr (hiP x) (nI 32))))))))] H := hP
            have hD : va_D A [(h0, .inr (2, [.ref a1])), (a1, .inl (E.2.2.1, 67, .inr (.inl (vp_updL (vp_updL (vp_updL L ((shN x) / 32) ((L ((shN x) / 32)) + ((sgN x) * ((loP x) &&& 4294967295)))) (((shN x) / 32) + 1) (((vp_updL L ((shN x) / 32) ((L ((shN x) / 32)) + ((sgN x) * ((loP x) &&& 4294967295)))) (((shN x) / 32) + 1)) + ((sgN x) * ((jushr (loP x) (nI 32)) + ((hiP x) &&& 4294967295))))) (((shN x) / 32) + 2) (((vp_updL (vp_updL L ((shN x) / 32) ((L ((shN x) / 32)) + ((sgN x) * ((loP x) &&& 4294967295)))) (((shN x) / 32) + 1) (((vp_updL L ((shN x) / 32) ((L ((shN x) / 32)) + ((sgN x) * ((loP x) &&& 4294967295)))) (((shN x) / 32) + 1)) + ((sgN x) * ((jushr (loP x) (nI 32)) + ((hiP x) &&& 4294967295))))) (((shN x) / 32) + 2)) + ((sgN x) * (jushr (hiP x) (nI 32))))))))] := hD
            exact ret _ _ _ _ (hP) hS dX1_put_160
      refine lv_lload_n hx hb dX1_put_64 rfl (lv_at hl 3 rfl) ?_
      refine lv_lconst (v := 0) hx hb dX1_put_65 rfl ?_
      refine zl_ge (tgt := 76) hx hb dX1_put_66 dX1_put_67 (by decide) (fun c_2 => ?_) (fun c_2 => ?_)
      · refine lv_lconst (v := 1) hx hb dX1_put_76 rfl ?_
        refine lv_lstore (lv' := [(11, .long 1), (9, .long (jshl (jushr (dgt x) (nI 32)) (nI ((shN x) % 32)))), (7, .long (jshl ((dgt x) &&& 4294967295) (nI ((shN x) % 32)))), (0, .ref h0), (1, .long x), (3, .int (nI (expN x))), (4, .long (dgt x)), (6, .int (nI (shN x)))]) hx hb dX1_put_77 hl (by decide) rfl (fun ls hl => ?_)
        exact lq _  ls _ _ (Nat.lt_succ_self _) (lv_sub hl [3, 4, 5, 6, 7, 2, 1, 0] (by unfold sgN; rw [if_neg c_2]; rfl)) hP hD hS
      · refine lv_ldc2 (v := (-1)) hx hb hown (hts (.constantLong RX1 48 (-1)) (by decide +kernel)) dX1_put_70 ?_
        refine lv_goto (tgt := 77) hx hb dX1_put_73 (by decide) ?_
        refine lv_lstore (lv' := [(11, .long (-1)), (9, .long (jshl (jushr (dgt x) (nI 32)) (nI ((shN x) % 32)))), (7, .long (jshl ((dgt x) &&& 4294967295) (nI ((shN x) % 32)))), (0, .ref h0), (1, .long x), (3, .int (nI (expN x))), (4, .long (dgt x)), (6, .int (nI (shN x)))]) hx hb dX1_put_77 hl (by decide) rfl (fun ls hl => ?_)
        exact lq _  ls _ _ (Nat.lt_succ_self _) (lv_sub hl [3, 4, 5, 6, 7, 2, 1, 0] (by unfold sgN; rw [if_pos c_2]; rfl)) hP hD hS
  refine lv_iload_n hx hb dX1_put_20 rfl (lv_at hl 2 rfl) ?_
  refine zn_if_le (tgt := 37) hx hb dX1_put_21 (by decide) (by omega) (fun c_3 => ?_) (fun c_3 => ?_)
  · exact lp _  ls _ _ (Nat.lt_succ_self _) (lv_sub hl [3, 4, 2, 1, 0] (by unfold dgt shN; rw [if_pos c_3, if_pos c_3]; rfl)) hP hD hS
  · refine lv_lload hx hb dX1_put_24 (lv_at hl 1 rfl) ?_
    refine lv_ldc2 (v := 4503599627370496) hx hb hown (hts (.constantLong RX1 44 (4503599627370496)) (by decide +kernel)) dX1_put_26 ?_
    refine lv_lor hx hb dX1_put_29 ?_
    refine lv_lstore (lv' := [(4, .long ((x &&& 4503599627370495) ||| 4503599627370496)), (6, .int (nI 0)), (3, .int (nI (expN x))), (0, .ref h0), (1, .long x)]) hx hb dX1_put_30 hl (by decide) rfl (fun ls hl => ?_)
    refine lv_iload_n hx hb dX1_put_32 rfl (lv_at hl 2 rfl) ?_
    refine lv_iconst (v := nI 1) hx hb dX1_put_33 (by decide) ?_
    refine zn_isub hx hb (by omega) dX1_put_34 ?_
    refine lv_istore (lv' := [(6, .int (nI ((expN x) - 1))), (4, .long ((x &&& 4503599627370495) ||| 4503599627370496)), (3, .int (nI (expN x))), (0, .ref h0), (1, .long x)]) hx hb dX1_put_35 hl (by decide) rfl (fun ls hl => ?_)
    exact lp _  ls _ _ (Nat.lt_succ_self _) (lv_sub hl [3, 4, 2, 1, 0] (by unfold dgt shN; rw [if_neg (by omega), if_neg (by omega)]; rfl)) hP hD hS
set_option maxHeartbeats 4000000 in
set_option maxRecDepth 100000 in
theorem kX1_carry (l : Launch) (E : zE) (sz : Nat) (h0 a1 : Nat) (L : Nat → Int64) : Met l yX1_carry wsX1_carry (rmL 0) (va_Pc [.ref h0] (zS E [(h0, .inr (2, [.ref a1])), (a1, .inl (E.2.2.1, 67, .inr (.inl L)))] sz)) (va_Ql (fun (r9 : Int64) (_ : Unit) => r9 = car L 67) (fun _ t9 => zW E [(h0, .inr (2, [.ref a1])), (a1, .inl (E.2.2.1, 67, .inr (.inl (carL L 67))))] t9) (va_A [(h0, .inr (2, [.ref a1])), (a1, .inl (E.2.2.1, 67, .inr (.inl L)))] sz)) 0 0 (va_A [(h0, .inr (2, [.ref a1])), (a1, .inl (E.2.2.1, 67, .inr (.inl L)))] sz) := by
  refine z_ofWl (cc := cX1_carry) (maxL := 6) (own := RX1) (by decide) rfl rfl (Nat.le_of_ble_eq_true rfl) ?_
  intro p e s m args below meth c R Q A B hP hD hA ret ls hl
  obtain ⟨hx, hb, hml, hown, hts, hK, hRf, hRl⟩ := B
  have hiX1 : ∀ w ∈ wsX10, w ∈ wsX1_carry := by decide +kernel
  have hf11 := hts (.fieldLink RX1 11 "ExactFolds$RealSum" "limbs" "[J") (by decide +kernel)
  have hS : va_S A s.heap s.heap [] := va_S.rf
  have hl : lv_has ls 6 [(0, .ref h0)] := hl
  refine lv_lconst (v := 0) hx hb dX1_carry_0 rfl ?_
  refine lv_lstore_n (lv' := [(1, .long 0), (0, .ref h0)]) hx hb dX1_carry_1 rfl hl (by decide) rfl (fun ls hl => ?_)
  refine lv_iconst (v := nI 0) hx hb dX1_carry_2 (by decide) ?_
  refine lv_istore_n (lv' := [(3, .int (nI 0)), (1, .long 0), (0, .ref h0)]) hx hb dX1_carry_3 rfl hl (by decide) rfl (fun ls hl => ?_)
  have lp : ∀ (fu : Nat) (i : Nat) (L1 : Nat → Int64) (ls : Array Slot) (H : Heap) (locs : List Loc), 67 - i < fu → (i ≤ 67) → (∀ j, L1 j = if j < i then (L j + car L j) &&& 4294967295 else L j) → lv_has ls 6 [(0, .ref h0), (1, .long (car L i)), (3, .int (nI i))] → va_P E.1 vwCl [(h0, .inr (2, [.ref a1])), (a1, .inl (E.2.2.1, 67, .inr (.inl L1)))] H → va_D A [(h0, .inr (2, [.ref a1])), (a1, .inl (E.2.2.1, 67, .inr (.inl L1)))] → va_S A s.heap H locs → W p l e R s m args below meth c H locs 0 0 Q (F0 m 4 ls []) := by
    intro fu
    induction fu with
    | zero => intros; exact absurd (by assumption) (Nat.not_lt_zero _)
    | succ fu ihlp =>
      intro i L1 ls H locs hfu hi hL hl hP hD hS
      refine lv_iload_n hx hb dX1_carry_4 rfl (lv_at hl 2 rfl) ?_
      refine lv_bipush (v := nI 67) hx hb dX1_carry_5 (by decide) ?_
      refine zn_icmp_ge (tgt := 44) hx hb dX1_carry_7 (by decide) (by omega) (by omega) (fun c_1 => ?_) (fun c_1 => ?_)
      · obtain rfl : i = 67 := by omega
        refine lv_lload_n hx hb dX1_carry_44 rfl (lv_at hl 1 rfl) ?_
        exact z_retl (rfl) (ret _ _ _ _ (by rw [show carL L 67 = L1 from funext (fun j => (hL j).symm)]; exact hP) hS dX1_carry_45)
      · have hLi : L1 i = L i := by rw [hL, if_neg (by omega)]
        refine lv_aload_n hx hb dX1_carry_10 rfl (lv_at hl 0 rfl) ?_
        refine va_get (D := E.1) (ci := 2) (C := RX1) (T := TX1) (N := 1) hx hb hts hiX1 hown hK.1 hP 0 rfl rfl 0 (by decide) hf11 (fun _ h9 => h9) rfl dX1_carry_11 ?_
        refine lv_iload_n hx hb dX1_carry_14 rfl (lv_at hl 2 rfl) ?_
        refine zn_lald hx hb hK.1 hP 1 1 rfl rfl (by omega) (by decide) dX1_carry_15 ?_
        refine lv_lload_n hx hb dX1_carry_16 rfl (lv_at hl 1 rfl) ?_
        refine lv_ladd hx hb dX1_carry_17 ?_
        refine lv_lstore (lv' := [(4, .long ((L1 i) + (car L i))), (0, .ref h0), (1, .long (car L i)), (3, .int (nI i))]) hx hb dX1_carry_18 hl (by decide) rfl (fun ls hl => ?_)
        refine lv_aload_n hx hb dX1_carry_20 rfl (lv_at hl 1 rfl) ?_
        refine va_get (D := E.1) (ci := 2) (C := RX1) (T := TX1) (N := 1) hx hb hts hiX1 hown hK.1 hP 0 rfl rfl 0 (by decide) hf11 (fun _ h9 => h9) rfl dX1_carry_21 ?_
        refine lv_iload_n hx hb dX1_carry_24 rfl (lv_at hl 3 rfl) ?_
        refine lv_lload hx hb dX1_carry_25 (lv_at hl 0 rfl) ?_
        refine lv_ldc2 (v := 4294967295) hx hb hown (hts (.constantLong RX1 46 (4294967295)) (by decide +kernel)) dX1_carry_27 ?_
        refine lv_land hx hb dX1_carry_30 ?_
        refine zn_last hx hb hK.1 hP hD hS 1 1 rfl rfl (by omega) (by decide) dX1_carry_31 (fun H locs hP hD hS => ?_)
        have hP : va_P E.1 vwCl [(h0, .inr (2, [.ref a1])), (a1, .inl (E.2.2.1, 67, .inr (.inl (vp_updL L1 i (((L1 i) + (car L i)) &&& 4294967295)))))] H := hP
        have hD : va_D A [(h0, .inr (2, [.ref a1])), (a1, .inl (E.2.2.1, 67, .inr (.inl (vp_updL L1 i (((L1 i) + (car L i)) &&& 4294967295)))))] := hD
        refine lv_lload hx hb dX1_carry_32 (lv_at hl 0 rfl) ?_
        refine lv_bipush (v := nI 32) hx hb dX1_carry_34 (by decide) ?_
        refine lv_lshr (v := jshr ((L1 i) + (car L i)) (nI 32)) hx hb dX1_carry_36 rfl ?_
        refine lv_lstore_n (lv' := [(1, .long (jshr ((L1 i) + (car L i)) (nI 32))), (4, .long ((L1 i) + (car L i))), (0, .ref h0), (3, .int (nI i))]) hx hb dX1_carry_37 rfl hl (by decide) rfl (fun ls hl => ?_)
        refine lv_iinc (v := nI (i + 1)) (lv' := [(3, .int (nI (i + 1))), (1, .long (jshr ((L1 i) + (car L i)) (nI 32))), (4, .long ((L1 i) + (car L i))), (0, .ref h0)]) hx hb dX1_carry_38 hl (k := 3) rfl (z_inc _ 1) (by decide) rfl (fun ls hl => ?_)
        refine lv_goto (tgt := 4) hx hb dX1_carry_41 (by decide) ?_
        exact ihlp (i + 1) (vp_updL L1 i (((L1 i) + (car L i)) &&& 4294967295)) ls _ _ (by omega) (by omega) (carL_step hL) (lv_sub hl [3, 1, 0] (by rw [show car L (i + 1) = jshr (L1 i + car L i) (nI 32) from by rw [hLi]; rfl]; rfl)) hP hD hS
  exact lp _ 0 L ls _ _ (Nat.lt_succ_self _) (Nat.zero_le _) (fun j => (if_neg (by omega)).symm) (lv_sub hl [2, 1, 0] rfl) hP hD hS
set_option maxHeartbeats 4000000 in
set_option maxRecDepth 100000 in
theorem kX1_turnSign (l : Launch) (E : zE) (sz : Nat) (h0 a1 : Nat) (L : Nat → Int64) : Met l yX1_turnSign wsX1_turnSign (rmL 1) (va_Pc [.ref h0] (zS E [(h0, .inr (2, [.ref a1])), (a1, .inl (E.2.2.1, 67, .inr (.inl L)))] sz)) (va_Qv (fun (_ : Unit) => True) (fun _ t9 => zW E [(h0, .inr (2, [.ref a1])), (a1, .inl (E.2.2.1, 67, .inr (.inl (carL (negL L) 67))))] t9) (va_A [(h0, .inr (2, [.ref a1])), (a1, .inl (E.2.2.1, 67, .inr (.inl L)))] sz)) 0 0 (va_A [(h0, .inr (2, [.ref a1])), (a1, .inl (E.2.2.1, 67, .inr (.inl L)))] sz) := by
  refine z_ofWv (cc := cX1_turnSign) (maxL := 2) (own := RX1) (by decide) rfl rfl (Nat.le_of_ble_eq_true rfl) ?_
  intro p e s m args below meth c R Q A B hP hD hA ret ls hl
  obtain ⟨hx, hb, hml, hown, hts, hK, hRf, hRl⟩ := B
  have hiX1 : ∀ w ∈ wsX10, w ∈ wsX1_turnSign := by decide +kernel
  have hf11 := hts (.fieldLink RX1 11 "ExactFolds$RealSum" "limbs" "[J") (by decide +kernel)
  have hS : va_S A s.heap s.heap [] := va_S.rf
  have hl : lv_has ls 2 [(0, .ref h0)] := hl
  refine lv_iconst (v := nI 0) hx hb dX1_turnSign_0 (by decide) ?_
  refine lv_istore_n (lv' := [(1, .int (nI 0)), (0, .ref h0)]) hx hb dX1_turnSign_1 rfl hl (by decide) rfl (fun ls hl => ?_)
  have lp : ∀ (fu : Nat) (i : Nat) (ls : Array Slot) (H : Heap) (locs : List Loc), 67 - i < fu → (i ≤ 67) → lv_has ls 2 [(0, .ref h0), (1, .int (nI i))] → va_P E.1 vwCl [(h0, .inr (2, [.ref a1])), (a1, .inl (E.2.2.1, 67, .inr (.inl (setL L (fun j => -(L j)) i))))] H → va_D A [(h0, .inr (2, [.ref a1])), (a1, .inl (E.2.2.1, 67, .inr (.inl (setL L (fun j => -(L j)) i))))] → va_S A s.heap H locs → W p l e R s m args below meth c H locs 0 0 Q (F0 m 2 ls []) := by
    intro fu
    induction fu with
    | zero => intros; exact absurd (by assumption) (Nat.not_lt_zero _)
    | succ fu ihlp =>
      intro i ls H locs hfu hi hl hP hD hS
      refine lv_iload_n hx hb dX1_turnSign_2 rfl (lv_at hl 1 rfl) ?_
      refine lv_bipush (v := nI 67) hx hb dX1_turnSign_3 (by decide) ?_
      refine zn_icmp_ge (tgt := 27) hx hb dX1_turnSign_5 (by decide) (by omega) (by omega) (fun c_1 => ?_) (fun c_1 => ?_)
      · obtain rfl : i = 67 := by omega
        refine lv_aload_n hx hb dX1_turnSign_27 rfl (lv_at hl 0 rfl) ?_
        have hPc := hP.sub (ws' := [(h0, .inr (2, [.ref a1])), (a1, .inl (E.2.2.1, 67, .inr (.inl (negL L))))]) [0, 1] rfl
        have hDc := hD.sub (ws' := [(h0, .inr (2, [.ref a1])), (a1, .inl (E.2.2.1, 67, .inr (.inl (negL L))))]) [0, 1] (by decide) rfl
        refine zw_l (E := E) (wc := [(h0, .inr (2, [.ref a1])), (a1, .inl (E.2.2.1, 67, .inr (.inl (negL L))))]) (wc' := [(h0, .inr (2, [.ref a1])), (a1, .inl (E.2.2.1, 67, .inr (.inl (carL (negL L) 67))))]) (wr := []) (va_runV ⟨hx, hb, hml, hown, hts⟩ (kX1_carry l E _ h0 a1 (negL L)) (cwV 0 hts gX1_turnSign_X1_carry rfl rfl rfl (by decide +kernel) ⟨Nat.le_trans (Nat.le_of_ble_eq_true rfl) hRf, Nat.le_trans (Nat.le_of_ble_eq_true rfl) hRl⟩) (z_preWV (As := []) hPc hDc hK 0 rfl rfl) rfl rfl hl.1 rfl (lv_room (Nat.le_of_ble_eq_true rfl)) dX1_turnSign_28 ⟨Nat.zero_le _, Nat.zero_le _⟩) hP hD hS hA [0, 1] [] rfl rfl (by decide) (by decide) (by decide) rfl (fun H locs hP hD hS => ?_)
        have hP : va_P E.1 vwCl [(h0, .inr (2, [.ref a1])), (a1, .inl (E.2.2.1, 67, .inr (.inl (carL (negL L) 67))))] H := hP
        have hD : va_D A [(h0, .inr (2, [.ref a1])), (a1, .inl (E.2.2.1, 67, .inr (.inl (carL (negL L) 67))))] := hD
        refine lv_pop2_2 hx hb dX1_turnSign_31 rfl ?_
        exact ret _ _ _ _ (hP) hS dX1_turnSign_32
      · refine lv_aload_n hx hb dX1_turnSign_8 rfl (lv_at hl 0 rfl) ?_
        refine va_get (D := E.1) (ci := 2) (C := RX1) (T := TX1) (N := 1) hx hb hts hiX1 hown hK.1 hP 0 rfl rfl 0 (by decide) hf11 (fun _ h9 => h9) rfl dX1_turnSign_9 ?_
        refine lv_iload_n hx hb dX1_turnSign_12 rfl (lv_at hl 1 rfl) ?_
        refine lv_aload_n hx hb dX1_turnSign_13 rfl (lv_at hl 0 rfl) ?_
        refine va_get (D := E.1) (ci := 2) (C := RX1) (T := TX1) (N := 1) hx hb hts hiX1 hown hK.1 hP 0 rfl rfl 0 (by decide) hf11 (fun _ h9 => h9) rfl dX1_turnSign_14 ?_
        refine lv_iload_n hx hb dX1_turnSign_17 rfl (lv_at hl 1 rfl) ?_
        refine zn_lald hx hb hK.1 hP 1 1 rfl rfl (by omega) (by decide) dX1_turnSign_18 ?_
        refine lv_lneg hx hb dX1_turnSign_19 ?_
        refine zn_last hx hb hK.1 hP hD hS 1 1 rfl rfl (by omega) (by decide) dX1_turnSign_20 (fun H locs hP hD hS => ?_)
        have hP : va_P E.1 vwCl [(h0, .inr (2, [.ref a1])), (a1, .inl (E.2.2.1, 67, .inr (.inl (vp_updL (setL L (fun j => -(L j)) i) i (-((setL L (fun j => -(L j)) i) i))))))] H := hP
        have hD : va_D A [(h0, .inr (2, [.ref a1])), (a1, .inl (E.2.2.1, 67, .inr (.inl (vp_updL (setL L (fun j => -(L j)) i) i (-((setL L (fun j => -(L j)) i) i))))))] := hD
        refine lv_iinc (v := nI (i + 1)) (lv' := [(1, .int (nI (i + 1))), (0, .ref h0)]) hx hb dX1_turnSign_21 hl (k := 1) rfl (z_inc _ 1) (by decide) rfl (fun ls hl => ?_)
        refine lv_goto (tgt := 2) hx hb dX1_turnSign_24 (by decide) ?_
        rw [setL_step (f := fun j => -(L j)) _ (congrArg (fun x => -x) neg_at)] at hP hD
        exact ihlp (i + 1) ls _ _ (by omega) (by omega) (lv_sub hl [1, 0] rfl) hP hD hS
  have hP : va_P E.1 vwCl [(h0, .inr (2, [.ref a1])), (a1, .inl (E.2.2.1, 67, .inr (.inl (setL L (fun j => -(L j)) 0))))] s.heap := by rw [setL_0]; exact hP
  have hD : va_D A [(h0, .inr (2, [.ref a1])), (a1, .inl (E.2.2.1, 67, .inr (.inl (setL L (fun j => -(L j)) 0))))] := by rw [setL_0]; exact hD
  exact lp _ 0 ls _ _ (Nat.lt_succ_self _) (Nat.zero_le _) (lv_sub hl [1, 0] rfl) hP hD hS
set_option maxHeartbeats 4000000 in
set_option maxRecDepth 100000 in
theorem kX1_limbAt (l : Launch) (E : zE) (h0 a1 : Nat) (L : Nat → Int64) (D : Nat → Nat) (hDg : isDg L D) (i_ : Nat) (hi : i_ < 2 ^ 31) : Met l yX1_limbAt wsX1_limbAt (rmL 0) (va_Pc [.ref h0, .int (nI i_)] (zW E [(h0, .inr (2, [.ref a1])), (a1, .inl (E.2.2.1, 67, .inr (.inl L)))])) (vp_Sl (fun r9 => r9 = lN (D i_))) 0 0 (fun _ => False) := by
  refine z_ofRl (cc := cX1_limbAt) (maxL := 2) (own := RX1) (by decide) rfl rfl (Nat.le_of_ble_eq_true rfl) ?_
  intro p e s m args below meth c R Q B hP ret ls hl
  obtain ⟨hx, hb, hml, hown, hts, hK, hRf, hRl⟩ := B
  have hiX1 : ∀ w ∈ wsX10, w ∈ wsX1_limbAt := by decide +kernel
  have hf11 := hts (.fieldLink RX1 11 "ExactFolds$RealSum" "limbs" "[J") (by decide +kernel)
  have hl : lv_has ls 2 [(0, .ref h0), (1, .int (nI i_))] := hl
  refine lv_iload_n hx hb dX1_limbAt_0 rfl (lv_at hl 1 rfl) ?_
  refine zn_if_lt (tgt := 19) hx hb dX1_limbAt_1 (by decide) (by omega) ?_
  refine lv_iload_n hx hb dX1_limbAt_4 rfl (lv_at hl 1 rfl) ?_
  refine lv_bipush (v := nI 67) hx hb dX1_limbAt_5 (by decide) ?_
  refine zn_icmp_ge (tgt := 19) hx hb dX1_limbAt_7 (by decide) (by omega) (by omega) (fun c_1 => ?_) (fun c_1 => ?_)
  · refine lv_lconst (v := 0) hx hb dX1_limbAt_19 rfl ?_
    exact z_retl (by rw [hDg.2 i_ c_1]; rfl) (ret _ _ dX1_limbAt_20)
  · refine lv_aload_n hx hb dX1_limbAt_10 rfl (lv_at hl 0 rfl) ?_
    refine va_get (D := E.1) (ci := 2) (C := RX1) (T := TX1) (N := 1) hx hb hts hiX1 hown hK.1 hP 0 rfl rfl 0 (by decide) hf11 (fun _ h9 => h9) rfl dX1_limbAt_11 ?_
    refine lv_iload_n hx hb dX1_limbAt_14 rfl (lv_at hl 1 rfl) ?_
    refine zn_lald hx hb hK.1 hP 1 1 rfl rfl (by omega) (by decide) dX1_limbAt_15 ?_
    refine lv_goto (tgt := 20) hx hb dX1_limbAt_16 (by decide) ?_
    exact z_retl ((hDg.1 i_ c_1).1) (ret _ _ dX1_limbAt_20)
set_option maxHeartbeats 4000000 in
set_option maxRecDepth 100000 in
theorem kX1_isSet (l : Launch) (E : zE) (h0 a1 : Nat) (L : Nat → Int64) (D : Nat → Nat) (hDg : isDg L D) (b : Nat) (hb0 : b < 100000) : Met l yX1_isSet wsX1_isSet (rmL 1) (va_Pc [.ref h0, .int (nI b)] (zW E [(h0, .inr (2, [.ref a1])), (a1, .inl (E.2.2.1, 67, .inr (.inl L)))])) (vp_Si (fun r9 => r9 = bI (setF D b))) 0 0 (fun _ => False) := by
  refine z_ofRz (cc := cX1_isSet) (maxL := 2) (own := RX1) (by decide) rfl rfl (Nat.le_of_ble_eq_true rfl) ?_
  intro p e s m args below meth c R Q B hP ret ls hl
  obtain ⟨hx, hb, hml, hown, hts, hK, hRf, hRl⟩ := B
  have hl : lv_has ls 2 [(0, .ref h0), (1, .int (nI b))] := hl
  refine lv_aload_n hx hb dX1_isSet_0 rfl (lv_at hl 0 rfl) ?_
  refine lv_iload_n hx hb dX1_isSet_1 rfl (lv_at hl 1 rfl) ?_
  refine lv_iconst (v := nI 5) hx hb dX1_isSet_2 (by decide) ?_
  refine lv_ishr hx hb dX1_isSet_3 ?_
  refine W.eq (g2 := F0 m 4 ls ([.int (nI (b / 32)), .ref h0])) (by rw [show ((nI b) >>> ((nI 5) &&& 31) : Int32) = nI (b / 32) from pk_shrN (by omega) _ 5 (by decide)]) ?_
  refine zc_l (W.runV ⟨hx, hb, hml, hown, hts⟩ (kX1_limbAt l E h0 a1 L D hDg (b / 32) (by omega)) (cwV 1 hts gX1_isSet_X1_limbAt rfl rfl rfl (by decide +kernel) ⟨Nat.le_trans (Nat.le_of_ble_eq_true rfl) hRf, Nat.le_trans (Nat.le_of_ble_eq_true rfl) hRl⟩) (z_preV (As := [.int (nI (b / 32))]) hP hK 0 rfl rfl) rfl rfl hl.1 rfl (lv_room (Nat.le_of_ble_eq_true rfl)) dX1_isSet_4 ⟨Nat.zero_le _, Nat.zero_le _⟩) ?_
  refine lv_iload_n hx hb dX1_isSet_7 rfl (lv_at hl 1 rfl) ?_
  refine lv_bipush (v := nI 31) hx hb dX1_isSet_8 (by decide) ?_
  refine lv_iand hx hb dX1_isSet_10 ?_
  refine W.eq (g2 := F0 m 11 ls ([.int (nI (b % 32)), .long (lN (D (b / 32)))])) (by rw [show ((nI b) &&& (nI 31) : Int32) = nI (b % 32) from pk_andN (by omega) 5 (by decide)]) ?_
  refine lv_lushr (v := jushr (lN (D (b / 32))) (nI (b % 32))) hx hb dX1_isSet_11 rfl ?_
  refine lv_lconst (v := 1) hx hb dX1_isSet_12 rfl ?_
  refine lv_land hx hb dX1_isSet_13 ?_
  refine lv_lconst (v := 0) hx hb dX1_isSet_14 rfl ?_
  refine zl_eq (tgt := 23) hx hb dX1_isSet_15 dX1_isSet_16 (by decide) (fun c_1 => ?_) (fun c_1 => ?_)
  · refine lv_iconst (v := nI 0) hx hb dX1_isSet_23 (by decide) ?_
    exact z_reti (by rw [show setF D b = false from by unfold setF; simp [c_1]]; rfl) (ret _ _ dX1_isSet_24)
  · refine lv_iconst (v := nI 1) hx hb dX1_isSet_19 (by decide) ?_
    refine lv_goto (tgt := 24) hx hb dX1_isSet_20 (by decide) ?_
    exact z_reti (by rw [show setF D b = true from by unfold setF; simp [c_1]]; rfl) (ret _ _ dX1_isSet_24)
set_option maxHeartbeats 4000000 in
set_option maxRecDepth 100000 in
theorem kX1_digitsFrom (l : Launch) (E : zE) (h0 a1 : Nat) (L : Nat → Int64) (D : Nat → Nat) (hDg : isDg L D) (b : Nat) (hb0 : b < 100000) : Met l yX1_digitsFrom wsX1_digitsFrom (rmL 1) (va_Pc [.ref h0, .int (nI b)] (zW E [(h0, .inr (2, [.ref a1])), (a1, .inl (E.2.2.1, 67, .inr (.inl L)))])) (vp_Sl (fun r9 => r9 = dgF D b)) 0 0 (fun _ => False) := by
  refine z_ofRl (cc := cX1_digitsFrom) (maxL := 10) (own := RX1) (by decide) rfl rfl (Nat.le_of_ble_eq_true rfl) ?_
  intro p e s m args below meth c R Q B hP ret ls hl
  obtain ⟨hx, hb, hml, hown, hts, hK, hRf, hRl⟩ := B
  have hl : lv_has ls 10 [(0, .ref h0), (1, .int (nI b))] := hl
  refine lv_iload_n hx hb dX1_digitsFrom_0 rfl (lv_at hl 1 rfl) ?_
  refine lv_iconst (v := nI 5) hx hb dX1_digitsFrom_1 (by decide) ?_
  refine lv_ishr hx hb dX1_digitsFrom_2 ?_
  refine W.eq (g2 := F0 m 3 ls ([.int (nI (b / 32))])) (by rw [show ((nI b) >>> ((nI 5) &&& 31) : Int32) = nI (b / 32) from pk_shrN (by omega) _ 5 (by decide)]) ?_
  refine lv_istore_n (lv' := [(2, .int (nI (b / 32))), (0, .ref h0), (1, .int (nI b))]) hx hb dX1_digitsFrom_3 rfl hl (by decide) rfl (fun ls hl => ?_)
  refine lv_iload_n hx hb dX1_digitsFrom_4 rfl (lv_at hl 2 rfl) ?_
  refine lv_bipush (v := nI 31) hx hb dX1_digitsFrom_5 (by decide) ?_
  refine lv_iand hx hb dX1_digitsFrom_7 ?_
  refine W.eq (g2 := F0 m 8 ls ([.int (nI (b % 32))])) (by rw [show ((nI b) &&& (nI 31) : Int32) = nI (b % 32) from pk_andN (by omega) 5 (by decide)]) ?_
  refine lv_istore_n (lv' := [(3, .int (nI (b % 32))), (2, .int (nI (b / 32))), (0, .ref h0), (1, .int (nI b))]) hx hb dX1_digitsFrom_8 rfl hl (by decide) rfl (fun ls hl => ?_)
  refine lv_aload_n hx hb dX1_digitsFrom_9 rfl (lv_at hl 2 rfl) ?_
  refine lv_iload_n hx hb dX1_digitsFrom_10 rfl (lv_at hl 1 rfl) ?_
  refine zc_l (W.runV ⟨hx, hb, hml, hown, hts⟩ (kX1_limbAt l E h0 a1 L D hDg (b / 32) (by omega)) (cwV 1 hts gX1_digitsFrom_X1_limbAt rfl rfl rfl (by decide +kernel) ⟨Nat.le_trans (Nat.le_of_ble_eq_true rfl) hRf, Nat.le_trans (Nat.le_of_ble_eq_true rfl) hRl⟩) (z_preV (As := [.int (nI (b / 32))]) hP hK 0 rfl rfl) rfl rfl hl.1 rfl (lv_room (Nat.le_of_ble_eq_true rfl)) dX1_digitsFrom_11 ⟨Nat.zero_le _, Nat.zero_le _⟩) ?_
  refine lv_aload_n hx hb dX1_digitsFrom_14 rfl (lv_at hl 2 rfl) ?_
  refine lv_iload_n hx hb dX1_digitsFrom_15 rfl (lv_at hl 1 rfl) ?_
  refine lv_iconst (v := nI 1) hx hb dX1_digitsFrom_16 (by decide) ?_
  refine zn_iadd hx hb dX1_digitsFrom_17 ?_
  refine zc_l (W.runV ⟨hx, hb, hml, hown, hts⟩ (kX1_limbAt l E h0 a1 L D hDg ((b / 32) + 1) (by omega)) (cwV 1 hts gX1_digitsFrom_X1_limbAt rfl rfl rfl (by decide +kernel) ⟨Nat.le_trans (Nat.le_of_ble_eq_true rfl) hRf, Nat.le_trans (Nat.le_of_ble_eq_true rfl) hRl⟩) (z_preV (As := [.int (nI ((b / 32) + 1))]) hP hK 0 rfl rfl) rfl rfl hl.1 rfl (lv_room (Nat.le_of_ble_eq_true rfl)) dX1_digitsFrom_18 ⟨Nat.zero_le _, Nat.zero_le _⟩) ?_
  refine lv_bipush (v := nI 32) hx hb dX1_digitsFrom_21 (by decide) ?_
  refine lv_lshl (v := jshl (lN (D ((b / 32) + 1))) (nI 32)) hx hb dX1_digitsFrom_23 rfl ?_
  refine lv_lor hx hb dX1_digitsFrom_24 ?_
  refine lv_lstore (lv' := [(4, .long ((lN (D (b / 32))) ||| (jshl (lN (D ((b / 32) + 1))) (nI 32)))), (3, .int (nI (b % 32))), (2, .int (nI (b / 32))), (0, .ref h0), (1, .int (nI b))]) hx hb dX1_digitsFrom_25 hl (by decide) rfl (fun ls hl => ?_)
  refine lv_aload_n hx hb dX1_digitsFrom_27 rfl (lv_at hl 3 rfl) ?_
  refine lv_iload_n hx hb dX1_digitsFrom_28 rfl (lv_at hl 2 rfl) ?_
  refine lv_iconst (v := nI 2) hx hb dX1_digitsFrom_29 (by decide) ?_
  refine zn_iadd hx hb dX1_digitsFrom_30 ?_
  refine zc_l (W.runV ⟨hx, hb, hml, hown, hts⟩ (kX1_limbAt l E h0 a1 L D hDg ((b / 32) + 2) (by omega)) (cwV 1 hts gX1_digitsFrom_X1_limbAt rfl rfl rfl (by decide +kernel) ⟨Nat.le_trans (Nat.le_of_ble_eq_true rfl) hRf, Nat.le_trans (Nat.le_of_ble_eq_true rfl) hRl⟩) (z_preV (As := [.int (nI ((b / 32) + 2))]) hP hK 0 rfl rfl) rfl rfl hl.1 rfl (lv_room (Nat.le_of_ble_eq_true rfl)) dX1_digitsFrom_31 ⟨Nat.zero_le _, Nat.zero_le _⟩) ?_
  refine lv_lstore (lv' := [(6, .long (lN (D ((b / 32) + 2)))), (4, .long ((lN (D (b / 32))) ||| (jshl (lN (D ((b / 32) + 1))) (nI 32)))), (3, .int (nI (b % 32))), (2, .int (nI (b / 32))), (0, .ref h0), (1, .int (nI b))]) hx hb dX1_digitsFrom_34 hl (by decide) rfl (fun ls hl => ?_)
  refine lv_lload hx hb dX1_digitsFrom_36 (lv_at hl 1 rfl) ?_
  refine lv_iload_n hx hb dX1_digitsFrom_38 rfl (lv_at hl 2 rfl) ?_
  refine lv_lushr (v := jushr ((lN (D (b / 32))) ||| (jshl (lN (D ((b / 32) + 1))) (nI 32))) (nI (b % 32))) hx hb dX1_digitsFrom_39 rfl ?_
  refine lv_lload hx hb dX1_digitsFrom_40 (lv_at hl 0 rfl) ?_
  refine lv_bipush (v := nI 32) hx hb dX1_digitsFrom_42 (by decide) ?_
  refine lv_iload_n hx hb dX1_digitsFrom_44 rfl (lv_at hl 2 rfl) ?_
  refine zn_isub hx hb (by omega) dX1_digitsFrom_45 ?_
  refine lv_lshl (v := jshl (lN (D ((b / 32) + 2))) (nI (32 - (b % 32)))) hx hb dX1_digitsFrom_46 rfl ?_
  refine lv_bipush (v := nI 32) hx hb dX1_digitsFrom_47 (by decide) ?_
  refine lv_lshl (v := jshl (jshl (lN (D ((b / 32) + 2))) (nI (32 - (b % 32)))) (nI 32)) hx hb dX1_digitsFrom_49 rfl ?_
  refine lv_lor hx hb dX1_digitsFrom_50 ?_
  refine lv_lstore (lv' := [(8, .long ((jushr ((lN (D (b / 32))) ||| (jshl (lN (D ((b / 32) + 1))) (nI 32))) (nI (b % 32))) ||| (jshl (jshl (lN (D ((b / 32) + 2))) (nI (32 - (b % 32)))) (nI 32)))), (6, .long (lN (D ((b / 32) + 2)))), (4, .long ((lN (D (b / 32))) ||| (jshl (lN (D ((b / 32) + 1))) (nI 32)))), (3, .int (nI (b % 32))), (2, .int (nI (b / 32))), (0, .ref h0), (1, .int (nI b))]) hx hb dX1_digitsFrom_51 hl (by decide) rfl (fun ls hl => ?_)
  refine lv_lload hx hb dX1_digitsFrom_53 (lv_at hl 0 rfl) ?_
  refine lv_ldc2 (v := 9007199254740991) hx hb hown (hts (.constantLong RX1 71 (9007199254740991)) (by decide +kernel)) dX1_digitsFrom_55 ?_
  refine lv_land hx hb dX1_digitsFrom_58 ?_
  exact z_retl (rfl) (ret _ _ dX1_digitsFrom_59)
set_option maxHeartbeats 4000000 in
set_option maxRecDepth 100000 in
theorem kX1_isAnySetBelow (l : Launch) (E : zE) (h0 a1 : Nat) (L : Nat → Int64) (D : Nat → Nat) (hDg : isDg L D) (b : Nat) (hb0 : b < 100000) : Met l yX1_isAnySetBelow wsX1_isAnySetBelow (rmL 1) (va_Pc [.ref h0, .int (nI b)] (zW E [(h0, .inr (2, [.ref a1])), (a1, .inl (E.2.2.1, 67, .inr (.inl L)))])) (vp_Si (fun r9 => r9 = bI (anyF D b))) 0 0 (fun _ => False) := by
  refine z_ofRz (cc := cX1_isAnySetBelow) (maxL := 3) (own := RX1) (by decide) rfl rfl (Nat.le_of_ble_eq_true rfl) ?_
  intro p e s m args below meth c R Q B hP ret ls hl
  obtain ⟨hx, hb, hml, hown, hts, hK, hRf, hRl⟩ := B
  have hl : lv_has ls 3 [(0, .ref h0), (1, .int (nI b))] := hl
  refine lv_iconst (v := nI 0) hx hb dX1_isAnySetBelow_0 (by decide) ?_
  refine lv_istore_n (lv' := [(2, .int (nI 0)), (0, .ref h0), (1, .int (nI b))]) hx hb dX1_isAnySetBelow_1 rfl hl (by decide) rfl (fun ls hl => ?_)
  have lp : ∀ (fu : Nat) (i : Nat) (ls : Array Slot), b / 32 - i < fu → (i ≤ b / 32) → (anyP D i = false) → lv_has ls 3 [(0, .ref h0), (1, .int (nI b)), (2, .int (nI i))] → W p l e R s m args below meth c s.heap [] 0 0 Q (F0 m 2 ls []) := by
    intro fu
    induction fu with
    | zero => intros; exact absurd (by assumption) (Nat.not_lt_zero _)
    | succ fu ihlp =>
      intro i ls hfu hi hq hl
      refine lv_iload_n hx hb dX1_isAnySetBelow_2 rfl (lv_at hl 2 rfl) ?_
      refine lv_iload_n hx hb dX1_isAnySetBelow_3 rfl (lv_at hl 1 rfl) ?_
      refine lv_iconst (v := nI 5) hx hb dX1_isAnySetBelow_4 (by decide) ?_
      refine lv_ishr hx hb dX1_isAnySetBelow_5 ?_
      refine W.eq (g2 := F0 m 6 ls ([.int (nI (b / 32)), .int (nI i)])) (by rw [show ((nI b) >>> ((nI 5) &&& 31) : Int32) = nI (b / 32) from pk_shrN (by omega) _ 5 (by decide)]) ?_
      refine zn_icmp_ge (tgt := 27) hx hb dX1_isAnySetBelow_6 (by decide) (by omega) (by omega) (fun c_1 => ?_) (fun c_1 => ?_)
      · obtain rfl : i = b / 32 := by omega
        refine lv_aload_n hx hb dX1_isAnySetBelow_27 rfl (lv_at hl 0 rfl) ?_
        refine lv_iload_n hx hb dX1_isAnySetBelow_28 rfl (lv_at hl 1 rfl) ?_
        refine lv_iconst (v := nI 5) hx hb dX1_isAnySetBelow_29 (by decide) ?_
        refine lv_ishr hx hb dX1_isAnySetBelow_30 ?_
        refine W.eq (g2 := F0 m 31 ls ([.int (nI (b / 32)), .ref h0])) (by rw [show ((nI b) >>> ((nI 5) &&& 31) : Int32) = nI (b / 32) from pk_shrN (by omega) _ 5 (by decide)]) ?_
        refine zc_l (W.runV ⟨hx, hb, hml, hown, hts⟩ (kX1_limbAt l E h0 a1 L D hDg (b / 32) (by omega)) (cwV 1 hts gX1_isAnySetBelow_X1_limbAt rfl rfl rfl (by decide +kernel) ⟨Nat.le_trans (Nat.le_of_ble_eq_true rfl) hRf, Nat.le_trans (Nat.le_of_ble_eq_true rfl) hRl⟩) (z_preV (As := [.int (nI (b / 32))]) hP hK 0 rfl rfl) rfl rfl hl.1 rfl (lv_room (Nat.le_of_ble_eq_true rfl)) dX1_isAnySetBelow_31 ⟨Nat.zero_le _, Nat.zero_le _⟩) ?_
        refine lv_lconst (v := 1) hx hb dX1_isAnySetBelow_34 rfl ?_
        refine lv_iload_n hx hb dX1_isAnySetBelow_35 rfl (lv_at hl 1 rfl) ?_
        refine lv_bipush (v := nI 31) hx hb dX1_isAnySetBelow_36 (by decide) ?_
        refine lv_iand hx hb dX1_isAnySetBelow_38 ?_
        refine W.eq (g2 := F0 m 39 ls ([.int (nI (b % 32)), .long 1, .long (lN (D (b / 32)))])) (by rw [show ((nI b) &&& (nI 31) : Int32) = nI (b % 32) from pk_andN (by omega) 5 (by decide)]) ?_
        refine lv_lshl (v := jshl 1 (nI (b % 32))) hx hb dX1_isAnySetBelow_39 rfl ?_
        refine lv_lconst (v := 1) hx hb dX1_isAnySetBelow_40 rfl ?_
        refine lv_lsub hx hb dX1_isAnySetBelow_41 ?_
        refine lv_land hx hb dX1_isAnySetBelow_42 ?_
        refine lv_lconst (v := 0) hx hb dX1_isAnySetBelow_43 rfl ?_
        refine zl_eq (tgt := 52) hx hb dX1_isAnySetBelow_44 dX1_isAnySetBelow_45 (by decide) (fun c_2 => ?_) (fun c_2 => ?_)
        · refine lv_iconst (v := nI 0) hx hb dX1_isAnySetBelow_52 (by decide) ?_
          exact z_reti (by rw [show anyF D b = false from by unfold anyF; rw [hq]; simp [c_2]]; rfl) (ret _ _ dX1_isAnySetBelow_53)
        · refine lv_iconst (v := nI 1) hx hb dX1_isAnySetBelow_48 (by decide) ?_
          refine lv_goto (tgt := 53) hx hb dX1_isAnySetBelow_49 (by decide) ?_
          exact z_reti (by rw [show anyF D b = true from by unfold anyF; rw [hq]; simp [c_2]]; rfl) (ret _ _ dX1_isAnySetBelow_53)
      · refine lv_aload_n hx hb dX1_isAnySetBelow_9 rfl (lv_at hl 0 rfl) ?_
        refine lv_iload_n hx hb dX1_isAnySetBelow_10 rfl (lv_at hl 2 rfl) ?_
        refine zc_l (W.runV ⟨hx, hb, hml, hown, hts⟩ (kX1_limbAt l E h0 a1 L D hDg i (by omega)) (cwV 1 hts gX1_isAnySetBelow_X1_limbAt rfl rfl rfl (by decide +kernel) ⟨Nat.le_trans (Nat.le_of_ble_eq_true rfl) hRf, Nat.le_trans (Nat.le_of_ble_eq_true rfl) hRl⟩) (z_preV (As := [.int (nI i)]) hP hK 0 rfl rfl) rfl rfl hl.1 rfl (lv_room (Nat.le_of_ble_eq_true rfl)) dX1_isAnySetBelow_11 ⟨Nat.zero_le _, Nat.zero_le _⟩) ?_
        refine lv_lconst (v := 0) hx hb dX1_isAnySetBelow_14 rfl ?_
        refine zl_eq (tgt := 21) hx hb dX1_isAnySetBelow_15 dX1_isAnySetBelow_16 (by decide) (fun c_3 => ?_) (fun c_3 => ?_)
        · refine lv_iinc (v := nI (i + 1)) (lv' := [(2, .int (nI (i + 1))), (0, .ref h0), (1, .int (nI b))]) hx hb dX1_isAnySetBelow_21 hl (k := 2) rfl (z_inc _ 1) (by decide) rfl (fun ls hl => ?_)
          refine lv_goto (tgt := 2) hx hb dX1_isAnySetBelow_24 (by decide) ?_
          exact ihlp (i + 1) ls (by omega) (by omega) (any_step hq c_3) (lv_sub hl [1, 2, 0] rfl)
        · refine lv_iconst (v := nI 1) hx hb dX1_isAnySetBelow_19 (by decide) ?_
          exact z_reti (by rw [show anyF D b = true from by unfold anyF; rw [any_hit c_1 c_3]; rfl]; rfl) (ret _ _ dX1_isAnySetBelow_20)
  exact lp _ 0 ls (Nat.lt_succ_self _) (Nat.zero_le _) (rfl) (lv_sub hl [1, 2, 0] rfl)
set_option maxHeartbeats 4000000 in
set_option maxRecDepth 100000 in
theorem kX1_roundsUp (l : Launch) (E : zE) (h0 a1 : Nat) (L : Nat → Int64) (D : Nat → Nat) (hDg : isDg L D) (b : Nat) (hb0 : b < 100000) (hb1 : 0 < b) : Met l yX1_roundsUp wsX1_roundsUp (rmL 2) (va_Pc [.ref h0, .int (nI b)] (zW E [(h0, .inr (2, [.ref a1])), (a1, .inl (E.2.2.1, 67, .inr (.inl L)))])) (vp_Si (fun r9 => r9 = bI (rupF D b))) 0 0 (fun _ => False) := by
  refine z_ofRz (cc := cX1_roundsUp) (maxL := 2) (own := RX1) (by decide) rfl rfl (Nat.le_of_ble_eq_true rfl) ?_
  intro p e s m args below meth c R Q B hP ret ls hl
  obtain ⟨hx, hb, hml, hown, hts, hK, hRf, hRl⟩ := B
  have hl : lv_has ls 2 [(0, .ref h0), (1, .int (nI b))] := hl
  refine lv_aload_n hx hb dX1_roundsUp_0 rfl (lv_at hl 0 rfl) ?_
  refine lv_iload_n hx hb dX1_roundsUp_1 rfl (lv_at hl 1 rfl) ?_
  refine lv_iconst (v := nI 1) hx hb dX1_roundsUp_2 (by decide) ?_
  refine zn_isub hx hb (by omega) dX1_roundsUp_3 ?_
  refine zc_i (W.runV ⟨hx, hb, hml, hown, hts⟩ (kX1_isSet l E h0 a1 L D hDg (b - 1) (by omega)) (cwV 1 hts gX1_roundsUp_X1_isSet rfl rfl rfl (by decide +kernel) ⟨Nat.le_trans (Nat.le_of_ble_eq_true rfl) hRf, Nat.le_trans (Nat.le_of_ble_eq_true rfl) hRl⟩) (z_preV (As := [.int (nI (b - 1))]) hP hK 0 rfl rfl) rfl rfl hl.1 rfl (lv_room (Nat.le_of_ble_eq_true rfl)) dX1_roundsUp_4 ⟨Nat.zero_le _, Nat.zero_le _⟩) ?_
  refine zb_if_ne (tgt := 12) hx hb dX1_roundsUp_7 (by decide) (fun c_1 => ?_) (fun c_1 => ?_)
  · refine lv_aload_n hx hb dX1_roundsUp_12 rfl (lv_at hl 0 rfl) ?_
    refine lv_iload_n hx hb dX1_roundsUp_13 rfl (lv_at hl 1 rfl) ?_
    refine zc_i (W.runV ⟨hx, hb, hml, hown, hts⟩ (kX1_isSet l E h0 a1 L D hDg b (by omega)) (cwV 1 hts gX1_roundsUp_X1_isSet rfl rfl rfl (by decide +kernel) ⟨Nat.le_trans (Nat.le_of_ble_eq_true rfl) hRf, Nat.le_trans (Nat.le_of_ble_eq_true rfl) hRl⟩) (z_preV (As := [.int (nI b)]) hP hK 0 rfl rfl) rfl rfl hl.1 rfl (lv_room (Nat.le_of_ble_eq_true rfl)) dX1_roundsUp_14 ⟨Nat.zero_le _, Nat.zero_le _⟩) ?_
    refine zb_if_ne (tgt := 30) hx hb dX1_roundsUp_17 (by decide) (fun c_2 => ?_) (fun c_2 => ?_)
    · refine lv_iconst (v := nI 1) hx hb dX1_roundsUp_30 (by decide) ?_
      refine lv_goto (tgt := 35) hx hb dX1_roundsUp_31 (by decide) ?_
      exact z_reti (by rw [show rupF D b = true from by unfold rupF; simp [c_1, c_2]]; rfl) (ret _ _ dX1_roundsUp_35)
    · refine lv_aload_n hx hb dX1_roundsUp_20 rfl (lv_at hl 0 rfl) ?_
      refine lv_iload_n hx hb dX1_roundsUp_21 rfl (lv_at hl 1 rfl) ?_
      refine lv_iconst (v := nI 1) hx hb dX1_roundsUp_22 (by decide) ?_
      refine zn_isub hx hb (by omega) dX1_roundsUp_23 ?_
      refine zc_i (W.runV ⟨hx, hb, hml, hown, hts⟩ (kX1_isAnySetBelow l E h0 a1 L D hDg (b - 1) (by omega)) (cwV 1 hts gX1_roundsUp_X1_isAnySetBelow rfl rfl rfl (by decide +kernel) ⟨Nat.le_trans (Nat.le_of_ble_eq_true rfl) hRf, Nat.le_trans (Nat.le_of_ble_eq_true rfl) hRl⟩) (z_preV (As := [.int (nI (b - 1))]) hP hK 0 rfl rfl) rfl rfl hl.1 rfl (lv_room (Nat.le_of_ble_eq_true rfl)) dX1_roundsUp_24 ⟨Nat.zero_le _, Nat.zero_le _⟩) ?_
      refine zb_if_eq (tgt := 34) hx hb dX1_roundsUp_27 (by decide) (fun c_3 => ?_) (fun c_3 => ?_)
      · refine lv_iconst (v := nI 0) hx hb dX1_roundsUp_34 (by decide) ?_
        exact z_reti (by rw [show rupF D b = false from by unfold rupF; simp [c_1, c_2, c_3]]; rfl) (ret _ _ dX1_roundsUp_35)
      · refine lv_iconst (v := nI 1) hx hb dX1_roundsUp_30 (by decide) ?_
        refine lv_goto (tgt := 35) hx hb dX1_roundsUp_31 (by decide) ?_
        exact z_reti (by rw [show rupF D b = true from by unfold rupF; simp [c_1, c_2, c_3]]; rfl) (ret _ _ dX1_roundsUp_35)
  · refine lv_iconst (v := nI 0) hx hb dX1_roundsUp_10 (by decide) ?_
    exact z_reti (by rw [show rupF D b = false from by unfold rupF; simp [c_1]]; rfl) (ret _ _ dX1_roundsUp_11)
set_option maxHeartbeats 4000000 in
set_option maxRecDepth 100000 in
theorem kJ6_numberOfLeadingZeros_0f7a4 (l : Launch) (E : zE) (d : Nat) (hd0 : 0 < d) (hd : d < 2 ^ 31) : Met l yJ6_numberOfLeadingZeros_0f7a4 wsJ6_numberOfLeadingZeros_0f7a4 (rmL 0) (va_Pc [.int (nI d)] (zW E [])) (vp_Si (fun r9 => r9 = nI (31 - Nat.log2 d))) 0 0 (fun _ => False) := by
  refine z_ofRi (cc := cJ6_numberOfLeadingZeros_0f7a4) (maxL := 2) (own := RJ6) (by decide) rfl rfl (Nat.le_of_ble_eq_true rfl) ?_
  intro p e s m args below meth c R Q B hP ret ls hl
  obtain ⟨hx, hb, hml, hown, hts, hK, hRf, hRl⟩ := B
  have hl : lv_has ls 2 [(0, .int (nI d))] := hl
  refine lv_iload_n hx hb dJ6_numberOfLeadingZeros_0f7a4_0 rfl (lv_at hl 0 rfl) ?_
  refine zn_if_gt (tgt := 15) hx hb dJ6_numberOfLeadingZeros_0f7a4_1 (by decide) (by omega) (fun c_1 => ?_) (fun c_1 => ?_)
  · refine lv_bipush (v := nI 31) hx hb dJ6_numberOfLeadingZeros_0f7a4_15 (by decide) ?_
    refine lv_istore_n (lv' := [(1, .int (nI 31)), (0, .int (nI d))]) hx hb dJ6_numberOfLeadingZeros_0f7a4_17 rfl hl (by decide) rfl (fun ls hl => ?_)
    refine lv_iload_n hx hb dJ6_numberOfLeadingZeros_0f7a4_18 rfl (lv_at hl 1 rfl) ?_
    refine lv_ldcw (v := 65536) hx hb hown (hts (.constant RJ6 264 (65536)) (by decide +kernel)) dJ6_numberOfLeadingZeros_0f7a4_19 ?_
    refine W.eq (g2 := F0 m 22 ls ([.int (nI 65536), .int (nI d)])) rfl ?_
    refine zn_icmp_lt (tgt := 33) hx hb dJ6_numberOfLeadingZeros_0f7a4_22 (by decide) (by omega) (by omega) (fun c_2 => ?_) (fun c_2 => ?_)
    · refine lv_iload_n hx hb dJ6_numberOfLeadingZeros_0f7a4_33 rfl (lv_at hl 1 rfl) ?_
      refine lv_sipush (v := nI 256) hx hb dJ6_numberOfLeadingZeros_0f7a4_34 (by decide) ?_
      refine zn_icmp_lt (tgt := 48) hx hb dJ6_numberOfLeadingZeros_0f7a4_37 (by decide) (by omega) (by omega) (fun c_3 => ?_) (fun c_3 => ?_)
      · refine lv_iload_n hx hb dJ6_numberOfLeadingZeros_0f7a4_48 rfl (lv_at hl 1 rfl) ?_
        refine lv_bipush (v := nI 16) hx hb dJ6_numberOfLeadingZeros_0f7a4_49 (by decide) ?_
        refine zn_icmp_lt (tgt := 61) hx hb dJ6_numberOfLeadingZeros_0f7a4_51 (by decide) (by omega) (by omega) (fun c_4 => ?_) (fun c_4 => ?_)
        · refine lv_iload_n hx hb dJ6_numberOfLeadingZeros_0f7a4_61 rfl (lv_at hl 1 rfl) ?_
          refine lv_iconst (v := nI 4) hx hb dJ6_numberOfLeadingZeros_0f7a4_62 (by decide) ?_
          refine zn_icmp_lt (tgt := 73) hx hb dJ6_numberOfLeadingZeros_0f7a4_63 (by decide) (by omega) (by omega) (fun c_5 => ?_) (fun c_5 => ?_)
          · refine lv_iload_n hx hb dJ6_numberOfLeadingZeros_0f7a4_73 rfl (lv_at hl 0 rfl) ?_
            refine lv_iload_n hx hb dJ6_numberOfLeadingZeros_0f7a4_74 rfl (lv_at hl 1 rfl) ?_
            refine lv_iconst (v := nI 1) hx hb dJ6_numberOfLeadingZeros_0f7a4_75 (by decide) ?_
            refine lv_iushr (v := nI (d / 2)) hx hb dJ6_numberOfLeadingZeros_0f7a4_76 (pk_ushrN (by omega) _ 1 (by decide)) ?_
            refine zn_isub hx hb (by omega) dJ6_numberOfLeadingZeros_0f7a4_77 ?_
            exact z_reti (congrArg nI (by rw [nlz_fin (d := d) (k := 0) (i := d) (by omega) (by omega) (by omega)]; omega)) (ret _ _ dJ6_numberOfLeadingZeros_0f7a4_78)
          · refine lv_iinc (v := nI (31 - 2)) (lv' := [(1, .int (nI (31 - 2))), (0, .int (nI d))]) hx hb dJ6_numberOfLeadingZeros_0f7a4_66 hl (k := 0) rfl (z_dec 2 (by omega)) (by decide) rfl (fun ls hl => ?_)
            refine lv_iload_n hx hb dJ6_numberOfLeadingZeros_0f7a4_69 rfl (lv_at hl 1 rfl) ?_
            refine lv_iconst (v := nI 2) hx hb dJ6_numberOfLeadingZeros_0f7a4_70 (by decide) ?_
            refine lv_iushr (v := nI (d / 4)) hx hb dJ6_numberOfLeadingZeros_0f7a4_71 (pk_ushrN (by omega) _ 2 (by decide)) ?_
            refine lv_istore_n (lv' := [(0, .int (nI (d / 4))), (1, .int (nI (31 - 2)))]) hx hb dJ6_numberOfLeadingZeros_0f7a4_72 rfl hl (by decide) rfl (fun ls hl => ?_)
            refine lv_iload_n hx hb dJ6_numberOfLeadingZeros_0f7a4_73 rfl (lv_at hl 1 rfl) ?_
            refine lv_iload_n hx hb dJ6_numberOfLeadingZeros_0f7a4_74 rfl (lv_at hl 0 rfl) ?_
            refine lv_iconst (v := nI 1) hx hb dJ6_numberOfLeadingZeros_0f7a4_75 (by decide) ?_
            refine lv_iushr (v := nI ((d / 4) / 2)) hx hb dJ6_numberOfLeadingZeros_0f7a4_76 (pk_ushrN (by omega) _ 1 (by decide)) ?_
            refine zn_isub hx hb (by omega) dJ6_numberOfLeadingZeros_0f7a4_77 ?_
            exact z_reti (congrArg nI (by rw [nlz_fin (d := d) (k := 2) (i := d / 4) (by omega) (by omega) (by omega)]; omega)) (ret _ _ dJ6_numberOfLeadingZeros_0f7a4_78)
        · refine lv_iinc (v := nI (31 - 4)) (lv' := [(1, .int (nI (31 - 4))), (0, .int (nI d))]) hx hb dJ6_numberOfLeadingZeros_0f7a4_54 hl (k := 0) rfl (z_dec 4 (by omega)) (by decide) rfl (fun ls hl => ?_)
          refine lv_iload_n hx hb dJ6_numberOfLeadingZeros_0f7a4_57 rfl (lv_at hl 1 rfl) ?_
          refine lv_iconst (v := nI 4) hx hb dJ6_numberOfLeadingZeros_0f7a4_58 (by decide) ?_
          refine lv_iushr (v := nI (d / 16)) hx hb dJ6_numberOfLeadingZeros_0f7a4_59 (pk_ushrN (by omega) _ 4 (by decide)) ?_
          refine lv_istore_n (lv' := [(0, .int (nI (d / 16))), (1, .int (nI (31 - 4)))]) hx hb dJ6_numberOfLeadingZeros_0f7a4_60 rfl hl (by decide) rfl (fun ls hl => ?_)
          refine lv_iload_n hx hb dJ6_numberOfLeadingZeros_0f7a4_61 rfl (lv_at hl 0 rfl) ?_
          refine lv_iconst (v := nI 4) hx hb dJ6_numberOfLeadingZeros_0f7a4_62 (by decide) ?_
          refine zn_icmp_lt (tgt := 73) hx hb dJ6_numberOfLeadingZeros_0f7a4_63 (by decide) (by omega) (by omega) (fun c_6 => ?_) (fun c_6 => ?_)
          · refine lv_iload_n hx hb dJ6_numberOfLeadingZeros_0f7a4_73 rfl (lv_at hl 1 rfl) ?_
            refine lv_iload_n hx hb dJ6_numberOfLeadingZeros_0f7a4_74 rfl (lv_at hl 0 rfl) ?_
            refine lv_iconst (v := nI 1) hx hb dJ6_numberOfLeadingZeros_0f7a4_75 (by decide) ?_
            refine lv_iushr (v := nI ((d / 16) / 2)) hx hb dJ6_numberOfLeadingZeros_0f7a4_76 (pk_ushrN (by omega) _ 1 (by decide)) ?_
            refine zn_isub hx hb (by omega) dJ6_numberOfLeadingZeros_0f7a4_77 ?_
            exact z_reti (congrArg nI (by rw [nlz_fin (d := d) (k := 4) (i := d / 16) (by omega) (by omega) (by omega)]; omega)) (ret _ _ dJ6_numberOfLeadingZeros_0f7a4_78)
          · refine lv_iinc (v := nI (31 - 4 - 2)) (lv' := [(1, .int (nI (31 - 4 - 2))), (0, .int (nI (d / 16)))]) hx hb dJ6_numberOfLeadingZeros_0f7a4_66 hl (k := 1) rfl (z_dec 2 (by omega)) (by decide) rfl (fun ls hl => ?_)
            refine lv_iload_n hx hb dJ6_numberOfLeadingZeros_0f7a4_69 rfl (lv_at hl 1 rfl) ?_
            refine lv_iconst (v := nI 2) hx hb dJ6_numberOfLeadingZeros_0f7a4_70 (by decide) ?_
            refine lv_iushr (v := nI ((d / 16) / 4)) hx hb dJ6_numberOfLeadingZeros_0f7a4_71 (pk_ushrN (by omega) _ 2 (by decide)) ?_
            refine lv_istore_n (lv' := [(0, .int (nI ((d / 16) / 4))), (1, .int (nI (31 - 4 - 2)))]) hx hb dJ6_numberOfLeadingZeros_0f7a4_72 rfl hl (by decide) rfl (fun ls hl => ?_)
            refine lv_iload_n hx hb dJ6_numberOfLeadingZeros_0f7a4_73 rfl (lv_at hl 1 rfl) ?_
            refine lv_iload_n hx hb dJ6_numberOfLeadingZeros_0f7a4_74 rfl (lv_at hl 0 rfl) ?_
            refine lv_iconst (v := nI 1) hx hb dJ6_numberOfLeadingZeros_0f7a4_75 (by decide) ?_
            refine lv_iushr (v := nI (((d / 16) / 4) / 2)) hx hb dJ6_numberOfLeadingZeros_0f7a4_76 (pk_ushrN (by omega) _ 1 (by decide)) ?_
            refine zn_isub hx hb (by omega) dJ6_numberOfLeadingZeros_0f7a4_77 ?_
            exact z_reti (congrArg nI (by rw [nlz_fin (d := d) (k := 6) (i := (d / 16) / 4) (by omega) (by omega) (by omega)]; omega)) (ret _ _ dJ6_numberOfLeadingZeros_0f7a4_78)
      · refine lv_iinc (v := nI (31 - 8)) (lv' := [(1, .int (nI (31 - 8))), (0, .int (nI d))]) hx hb dJ6_numberOfLeadingZeros_0f7a4_40 hl (k := 0) rfl (z_dec 8 (by omega)) (by decide) rfl (fun ls hl => ?_)
        refine lv_iload_n hx hb dJ6_numberOfLeadingZeros_0f7a4_43 rfl (lv_at hl 1 rfl) ?_
        refine lv_bipush (v := nI 8) hx hb dJ6_numberOfLeadingZeros_0f7a4_44 (by decide) ?_
        refine lv_iushr (v := nI (d / 256)) hx hb dJ6_numberOfLeadingZeros_0f7a4_46 (pk_ushrN (by omega) _ 8 (by decide)) ?_
        refine lv_istore_n (lv' := [(0, .int (nI (d / 256))), (1, .int (nI (31 - 8)))]) hx hb dJ6_numberOfLeadingZeros_0f7a4_47 rfl hl (by decide) rfl (fun ls hl => ?_)
        refine lv_iload_n hx hb dJ6_numberOfLeadingZeros_0f7a4_48 rfl (lv_at hl 0 rfl) ?_
        refine lv_bipush (v := nI 16) hx hb dJ6_numberOfLeadingZeros_0f7a4_49 (by decide) ?_
        refine zn_icmp_lt (tgt := 61) hx hb dJ6_numberOfLeadingZeros_0f7a4_51 (by decide) (by omega) (by omega) (fun c_7 => ?_) (fun c_7 => ?_)
        · refine lv_iload_n hx hb dJ6_numberOfLeadingZeros_0f7a4_61 rfl (lv_at hl 0 rfl) ?_
          refine lv_iconst (v := nI 4) hx hb dJ6_numberOfLeadingZeros_0f7a4_62 (by decide) ?_
          refine zn_icmp_lt (tgt := 73) hx hb dJ6_numberOfLeadingZeros_0f7a4_63 (by decide) (by omega) (by omega) (fun c_8 => ?_) (fun c_8 => ?_)
          · refine lv_iload_n hx hb dJ6_numberOfLeadingZeros_0f7a4_73 rfl (lv_at hl 1 rfl) ?_
            refine lv_iload_n hx hb dJ6_numberOfLeadingZeros_0f7a4_74 rfl (lv_at hl 0 rfl) ?_
            refine lv_iconst (v := nI 1) hx hb dJ6_numberOfLeadingZeros_0f7a4_75 (by decide) ?_
            refine lv_iushr (v := nI ((d / 256) / 2)) hx hb dJ6_numberOfLeadingZeros_0f7a4_76 (pk_ushrN (by omega) _ 1 (by decide)) ?_
            refine zn_isub hx hb (by omega) dJ6_numberOfLeadingZeros_0f7a4_77 ?_
            exact z_reti (congrArg nI (by rw [nlz_fin (d := d) (k := 8) (i := d / 256) (by omega) (by omega) (by omega)]; omega)) (ret _ _ dJ6_numberOfLeadingZeros_0f7a4_78)
          · refine lv_iinc (v := nI (31 - 8 - 2)) (lv' := [(1, .int (nI (31 - 8 - 2))), (0, .int (nI (d / 256)))]) hx hb dJ6_numberOfLeadingZeros_0f7a4_66 hl (k := 1) rfl (z_dec 2 (by omega)) (by decide) rfl (fun ls hl => ?_)
            refine lv_iload_n hx hb dJ6_numberOfLeadingZeros_0f7a4_69 rfl (lv_at hl 1 rfl) ?_
            refine lv_iconst (v := nI 2) hx hb dJ6_numberOfLeadingZeros_0f7a4_70 (by decide) ?_
            refine lv_iushr (v := nI ((d / 256) / 4)) hx hb dJ6_numberOfLeadingZeros_0f7a4_71 (pk_ushrN (by omega) _ 2 (by decide)) ?_
            refine lv_istore_n (lv' := [(0, .int (nI ((d / 256) / 4))), (1, .int (nI (31 - 8 - 2)))]) hx hb dJ6_numberOfLeadingZeros_0f7a4_72 rfl hl (by decide) rfl (fun ls hl => ?_)
            refine lv_iload_n hx hb dJ6_numberOfLeadingZeros_0f7a4_73 rfl (lv_at hl 1 rfl) ?_
            refine lv_iload_n hx hb dJ6_numberOfLeadingZeros_0f7a4_74 rfl (lv_at hl 0 rfl) ?_
            refine lv_iconst (v := nI 1) hx hb dJ6_numberOfLeadingZeros_0f7a4_75 (by decide) ?_
            refine lv_iushr (v := nI (((d / 256) / 4) / 2)) hx hb dJ6_numberOfLeadingZeros_0f7a4_76 (pk_ushrN (by omega) _ 1 (by decide)) ?_
            refine zn_isub hx hb (by omega) dJ6_numberOfLeadingZeros_0f7a4_77 ?_
            exact z_reti (congrArg nI (by rw [nlz_fin (d := d) (k := 10) (i := (d / 256) / 4) (by omega) (by omega) (by omega)]; omega)) (ret _ _ dJ6_numberOfLeadingZeros_0f7a4_78)
        · refine lv_iinc (v := nI (31 - 8 - 4)) (lv' := [(1, .int (nI (31 - 8 - 4))), (0, .int (nI (d / 256)))]) hx hb dJ6_numberOfLeadingZeros_0f7a4_54 hl (k := 1) rfl (z_dec 4 (by omega)) (by decide) rfl (fun ls hl => ?_)
          refine lv_iload_n hx hb dJ6_numberOfLeadingZeros_0f7a4_57 rfl (lv_at hl 1 rfl) ?_
          refine lv_iconst (v := nI 4) hx hb dJ6_numberOfLeadingZeros_0f7a4_58 (by decide) ?_
          refine lv_iushr (v := nI ((d / 256) / 16)) hx hb dJ6_numberOfLeadingZeros_0f7a4_59 (pk_ushrN (by omega) _ 4 (by decide)) ?_
          refine lv_istore_n (lv' := [(0, .int (nI ((d / 256) / 16))), (1, .int (nI (31 - 8 - 4)))]) hx hb dJ6_numberOfLeadingZeros_0f7a4_60 rfl hl (by decide) rfl (fun ls hl => ?_)
          refine lv_iload_n hx hb dJ6_numberOfLeadingZeros_0f7a4_61 rfl (lv_at hl 0 rfl) ?_
          refine lv_iconst (v := nI 4) hx hb dJ6_numberOfLeadingZeros_0f7a4_62 (by decide) ?_
          refine zn_icmp_lt (tgt := 73) hx hb dJ6_numberOfLeadingZeros_0f7a4_63 (by decide) (by omega) (by omega) (fun c_9 => ?_) (fun c_9 => ?_)
          · refine lv_iload_n hx hb dJ6_numberOfLeadingZeros_0f7a4_73 rfl (lv_at hl 1 rfl) ?_
            refine lv_iload_n hx hb dJ6_numberOfLeadingZeros_0f7a4_74 rfl (lv_at hl 0 rfl) ?_
            refine lv_iconst (v := nI 1) hx hb dJ6_numberOfLeadingZeros_0f7a4_75 (by decide) ?_
            refine lv_iushr (v := nI (((d / 256) / 16) / 2)) hx hb dJ6_numberOfLeadingZeros_0f7a4_76 (pk_ushrN (by omega) _ 1 (by decide)) ?_
            refine zn_isub hx hb (by omega) dJ6_numberOfLeadingZeros_0f7a4_77 ?_
            exact z_reti (congrArg nI (by rw [nlz_fin (d := d) (k := 12) (i := (d / 256) / 16) (by omega) (by omega) (by omega)]; omega)) (ret _ _ dJ6_numberOfLeadingZeros_0f7a4_78)
          · refine lv_iinc (v := nI (31 - 8 - 4 - 2)) (lv' := [(1, .int (nI (31 - 8 - 4 - 2))), (0, .int (nI ((d / 256) / 16)))]) hx hb dJ6_numberOfLeadingZeros_0f7a4_66 hl (k := 1) rfl (z_dec 2 (by omega)) (by decide) rfl (fun ls hl => ?_)
            refine lv_iload_n hx hb dJ6_numberOfLeadingZeros_0f7a4_69 rfl (lv_at hl 1 rfl) ?_
            refine lv_iconst (v := nI 2) hx hb dJ6_numberOfLeadingZeros_0f7a4_70 (by decide) ?_
            refine lv_iushr (v := nI (((d / 256) / 16) / 4)) hx hb dJ6_numberOfLeadingZeros_0f7a4_71 (pk_ushrN (by omega) _ 2 (by decide)) ?_
            refine lv_istore_n (lv' := [(0, .int (nI (((d / 256) / 16) / 4))), (1, .int (nI (31 - 8 - 4 - 2)))]) hx hb dJ6_numberOfLeadingZeros_0f7a4_72 rfl hl (by decide) rfl (fun ls hl => ?_)
            refine lv_iload_n hx hb dJ6_numberOfLeadingZeros_0f7a4_73 rfl (lv_at hl 1 rfl) ?_
            refine lv_iload_n hx hb dJ6_numberOfLeadingZeros_0f7a4_74 rfl (lv_at hl 0 rfl) ?_
            refine lv_iconst (v := nI 1) hx hb dJ6_numberOfLeadingZeros_0f7a4_75 (by decide) ?_
            refine lv_iushr (v := nI ((((d / 256) / 16) / 4) / 2)) hx hb dJ6_numberOfLeadingZeros_0f7a4_76 (pk_ushrN (by omega) _ 1 (by decide)) ?_
            refine zn_isub hx hb (by omega) dJ6_numberOfLeadingZeros_0f7a4_77 ?_
            exact z_reti (congrArg nI (by rw [nlz_fin (d := d) (k := 14) (i := ((d / 256) / 16) / 4) (by omega) (by omega) (by omega)]; omega)) (ret _ _ dJ6_numberOfLeadingZeros_0f7a4_78)
    · refine lv_iinc (v := nI (31 - 16)) (lv' := [(1, .int (nI (31 - 16))), (0, .int (nI d))]) hx hb dJ6_numberOfLeadingZeros_0f7a4_25 hl (k := 0) rfl (z_dec 16 (by omega)) (by decide) rfl (fun ls hl => ?_)
      refine lv_iload_n hx hb dJ6_numberOfLeadingZeros_0f7a4_28 rfl (lv_at hl 1 rfl) ?_
      refine lv_bipush (v := nI 16) hx hb dJ6_numberOfLeadingZeros_0f7a4_29 (by decide) ?_
      refine lv_iushr (v := nI (d / 65536)) hx hb dJ6_numberOfLeadingZeros_0f7a4_31 (pk_ushrN (by omega) _ 16 (by decide)) ?_
      refine lv_istore_n (lv' := [(0, .int (nI (d / 65536))), (1, .int (nI (31 - 16)))]) hx hb dJ6_numberOfLeadingZeros_0f7a4_32 rfl hl (by decide) rfl (fun ls hl => ?_)
      refine lv_iload_n hx hb dJ6_numberOfLeadingZeros_0f7a4_33 rfl (lv_at hl 0 rfl) ?_
      refine lv_sipush (v := nI 256) hx hb dJ6_numberOfLeadingZeros_0f7a4_34 (by decide) ?_
      refine zn_icmp_lt (tgt := 48) hx hb dJ6_numberOfLeadingZeros_0f7a4_37 (by decide) (by omega) (by omega) (fun c_10 => ?_) (fun c_10 => ?_)
      · refine lv_iload_n hx hb dJ6_numberOfLeadingZeros_0f7a4_48 rfl (lv_at hl 0 rfl) ?_
        refine lv_bipush (v := nI 16) hx hb dJ6_numberOfLeadingZeros_0f7a4_49 (by decide) ?_
        refine zn_icmp_lt (tgt := 61) hx hb dJ6_numberOfLeadingZeros_0f7a4_51 (by decide) (by omega) (by omega) (fun c_11 => ?_) (fun c_11 => ?_)
        · refine lv_iload_n hx hb dJ6_numberOfLeadingZeros_0f7a4_61 rfl (lv_at hl 0 rfl) ?_
          refine lv_iconst (v := nI 4) hx hb dJ6_numberOfLeadingZeros_0f7a4_62 (by decide) ?_
          refine zn_icmp_lt (tgt := 73) hx hb dJ6_numberOfLeadingZeros_0f7a4_63 (by decide) (by omega) (by omega) (fun c_12 => ?_) (fun c_12 => ?_)
          · refine lv_iload_n hx hb dJ6_numberOfLeadingZeros_0f7a4_73 rfl (lv_at hl 1 rfl) ?_
            refine lv_iload_n hx hb dJ6_numberOfLeadingZeros_0f7a4_74 rfl (lv_at hl 0 rfl) ?_
            refine lv_iconst (v := nI 1) hx hb dJ6_numberOfLeadingZeros_0f7a4_75 (by decide) ?_
            refine lv_iushr (v := nI ((d / 65536) / 2)) hx hb dJ6_numberOfLeadingZeros_0f7a4_76 (pk_ushrN (by omega) _ 1 (by decide)) ?_
            refine zn_isub hx hb (by omega) dJ6_numberOfLeadingZeros_0f7a4_77 ?_
            exact z_reti (congrArg nI (by rw [nlz_fin (d := d) (k := 16) (i := d / 65536) (by omega) (by omega) (by omega)]; omega)) (ret _ _ dJ6_numberOfLeadingZeros_0f7a4_78)
          · refine lv_iinc (v := nI (31 - 16 - 2)) (lv' := [(1, .int (nI (31 - 16 - 2))), (0, .int (nI (d / 65536)))]) hx hb dJ6_numberOfLeadingZeros_0f7a4_66 hl (k := 1) rfl (z_dec 2 (by omega)) (by decide) rfl (fun ls hl => ?_)
            refine lv_iload_n hx hb dJ6_numberOfLeadingZeros_0f7a4_69 rfl (lv_at hl 1 rfl) ?_
            refine lv_iconst (v := nI 2) hx hb dJ6_numberOfLeadingZeros_0f7a4_70 (by decide) ?_
            refine lv_iushr (v := nI ((d / 65536) / 4)) hx hb dJ6_numberOfLeadingZeros_0f7a4_71 (pk_ushrN (by omega) _ 2 (by decide)) ?_
            refine lv_istore_n (lv' := [(0, .int (nI ((d / 65536) / 4))), (1, .int (nI (31 - 16 - 2)))]) hx hb dJ6_numberOfLeadingZeros_0f7a4_72 rfl hl (by decide) rfl (fun ls hl => ?_)
            refine lv_iload_n hx hb dJ6_numberOfLeadingZeros_0f7a4_73 rfl (lv_at hl 1 rfl) ?_
            refine lv_iload_n hx hb dJ6_numberOfLeadingZeros_0f7a4_74 rfl (lv_at hl 0 rfl) ?_
            refine lv_iconst (v := nI 1) hx hb dJ6_numberOfLeadingZeros_0f7a4_75 (by decide) ?_
            refine lv_iushr (v := nI (((d / 65536) / 4) / 2)) hx hb dJ6_numberOfLeadingZeros_0f7a4_76 (pk_ushrN (by omega) _ 1 (by decide)) ?_
            refine zn_isub hx hb (by omega) dJ6_numberOfLeadingZeros_0f7a4_77 ?_
            exact z_reti (congrArg nI (by rw [nlz_fin (d := d) (k := 18) (i := (d / 65536) / 4) (by omega) (by omega) (by omega)]; omega)) (ret _ _ dJ6_numberOfLeadingZeros_0f7a4_78)
        · refine lv_iinc (v := nI (31 - 16 - 4)) (lv' := [(1, .int (nI (31 - 16 - 4))), (0, .int (nI (d / 65536)))]) hx hb dJ6_numberOfLeadingZeros_0f7a4_54 hl (k := 1) rfl (z_dec 4 (by omega)) (by decide) rfl (fun ls hl => ?_)
          refine lv_iload_n hx hb dJ6_numberOfLeadingZeros_0f7a4_57 rfl (lv_at hl 1 rfl) ?_
          refine lv_iconst (v := nI 4) hx hb dJ6_numberOfLeadingZeros_0f7a4_58 (by decide) ?_
          refine lv_iushr (v := nI ((d / 65536) / 16)) hx hb dJ6_numberOfLeadingZeros_0f7a4_59 (pk_ushrN (by omega) _ 4 (by decide)) ?_
          refine lv_istore_n (lv' := [(0, .int (nI ((d / 65536) / 16))), (1, .int (nI (31 - 16 - 4)))]) hx hb dJ6_numberOfLeadingZeros_0f7a4_60 rfl hl (by decide) rfl (fun ls hl => ?_)
          refine lv_iload_n hx hb dJ6_numberOfLeadingZeros_0f7a4_61 rfl (lv_at hl 0 rfl) ?_
          refine lv_iconst (v := nI 4) hx hb dJ6_numberOfLeadingZeros_0f7a4_62 (by decide) ?_
          refine zn_icmp_lt (tgt := 73) hx hb dJ6_numberOfLeadingZeros_0f7a4_63 (by decide) (by omega) (by omega) (fun c_13 => ?_) (fun c_13 => ?_)
          · refine lv_iload_n hx hb dJ6_numberOfLeadingZeros_0f7a4_73 rfl (lv_at hl 1 rfl) ?_
            refine lv_iload_n hx hb dJ6_numberOfLeadingZeros_0f7a4_74 rfl (lv_at hl 0 rfl) ?_
            refine lv_iconst (v := nI 1) hx hb dJ6_numberOfLeadingZeros_0f7a4_75 (by decide) ?_
            refine lv_iushr (v := nI (((d / 65536) / 16) / 2)) hx hb dJ6_numberOfLeadingZeros_0f7a4_76 (pk_ushrN (by omega) _ 1 (by decide)) ?_
            refine zn_isub hx hb (by omega) dJ6_numberOfLeadingZeros_0f7a4_77 ?_
            exact z_reti (congrArg nI (by rw [nlz_fin (d := d) (k := 20) (i := (d / 65536) / 16) (by omega) (by omega) (by omega)]; omega)) (ret _ _ dJ6_numberOfLeadingZeros_0f7a4_78)
          · refine lv_iinc (v := nI (31 - 16 - 4 - 2)) (lv' := [(1, .int (nI (31 - 16 - 4 - 2))), (0, .int (nI ((d / 65536) / 16)))]) hx hb dJ6_numberOfLeadingZeros_0f7a4_66 hl (k := 1) rfl (z_dec 2 (by omega)) (by decide) rfl (fun ls hl => ?_)
            refine lv_iload_n hx hb dJ6_numberOfLeadingZeros_0f7a4_69 rfl (lv_at hl 1 rfl) ?_
            refine lv_iconst (v := nI 2) hx hb dJ6_numberOfLeadingZeros_0f7a4_70 (by decide) ?_
            refine lv_iushr (v := nI (((d / 65536) / 16) / 4)) hx hb dJ6_numberOfLeadingZeros_0f7a4_71 (pk_ushrN (by omega) _ 2 (by decide)) ?_
            refine lv_istore_n (lv' := [(0, .int (nI (((d / 65536) / 16) / 4))), (1, .int (nI (31 - 16 - 4 - 2)))]) hx hb dJ6_numberOfLeadingZeros_0f7a4_72 rfl hl (by decide) rfl (fun ls hl => ?_)
            refine lv_iload_n hx hb dJ6_numberOfLeadingZeros_0f7a4_73 rfl (lv_at hl 1 rfl) ?_
            refine lv_iload_n hx hb dJ6_numberOfLeadingZeros_0f7a4_74 rfl (lv_at hl 0 rfl) ?_
            refine lv_iconst (v := nI 1) hx hb dJ6_numberOfLeadingZeros_0f7a4_75 (by decide) ?_
            refine lv_iushr (v := nI ((((d / 65536) / 16) / 4) / 2)) hx hb dJ6_numberOfLeadingZeros_0f7a4_76 (pk_ushrN (by omega) _ 1 (by decide)) ?_
            refine zn_isub hx hb (by omega) dJ6_numberOfLeadingZeros_0f7a4_77 ?_
            exact z_reti (congrArg nI (by rw [nlz_fin (d := d) (k := 22) (i := ((d / 65536) / 16) / 4) (by omega) (by omega) (by omega)]; omega)) (ret _ _ dJ6_numberOfLeadingZeros_0f7a4_78)
      · refine lv_iinc (v := nI (31 - 16 - 8)) (lv' := [(1, .int (nI (31 - 16 - 8))), (0, .int (nI (d / 65536)))]) hx hb dJ6_numberOfLeadingZeros_0f7a4_40 hl (k := 1) rfl (z_dec 8 (by omega)) (by decide) rfl (fun ls hl => ?_)
        refine lv_iload_n hx hb dJ6_numberOfLeadingZeros_0f7a4_43 rfl (lv_at hl 1 rfl) ?_
        refine lv_bipush (v := nI 8) hx hb dJ6_numberOfLeadingZeros_0f7a4_44 (by decide) ?_
        refine lv_iushr (v := nI ((d / 65536) / 256)) hx hb dJ6_numberOfLeadingZeros_0f7a4_46 (pk_ushrN (by omega) _ 8 (by decide)) ?_
        refine lv_istore_n (lv' := [(0, .int (nI ((d / 65536) / 256))), (1, .int (nI (31 - 16 - 8)))]) hx hb dJ6_numberOfLeadingZeros_0f7a4_47 rfl hl (by decide) rfl (fun ls hl => ?_)
        refine lv_iload_n hx hb dJ6_numberOfLeadingZeros_0f7a4_48 rfl (lv_at hl 0 rfl) ?_
        refine lv_bipush (v := nI 16) hx hb dJ6_numberOfLeadingZeros_0f7a4_49 (by decide) ?_
        refine zn_icmp_lt (tgt := 61) hx hb dJ6_numberOfLeadingZeros_0f7a4_51 (by decide) (by omega) (by omega) (fun c_14 => ?_) (fun c_14 => ?_)
        · refine lv_iload_n hx hb dJ6_numberOfLeadingZeros_0f7a4_61 rfl (lv_at hl 0 rfl) ?_
          refine lv_iconst (v := nI 4) hx hb dJ6_numberOfLeadingZeros_0f7a4_62 (by decide) ?_
          refine zn_icmp_lt (tgt := 73) hx hb dJ6_numberOfLeadingZeros_0f7a4_63 (by decide) (by omega) (by omega) (fun c_15 => ?_) (fun c_15 => ?_)
          · refine lv_iload_n hx hb dJ6_numberOfLeadingZeros_0f7a4_73 rfl (lv_at hl 1 rfl) ?_
            refine lv_iload_n hx hb dJ6_numberOfLeadingZeros_0f7a4_74 rfl (lv_at hl 0 rfl) ?_
            refine lv_iconst (v := nI 1) hx hb dJ6_numberOfLeadingZeros_0f7a4_75 (by decide) ?_
            refine lv_iushr (v := nI (((d / 65536) / 256) / 2)) hx hb dJ6_numberOfLeadingZeros_0f7a4_76 (pk_ushrN (by omega) _ 1 (by decide)) ?_
            refine zn_isub hx hb (by omega) dJ6_numberOfLeadingZeros_0f7a4_77 ?_
            exact z_reti (congrArg nI (by rw [nlz_fin (d := d) (k := 24) (i := (d / 65536) / 256) (by omega) (by omega) (by omega)]; omega)) (ret _ _ dJ6_numberOfLeadingZeros_0f7a4_78)
          · refine lv_iinc (v := nI (31 - 16 - 8 - 2)) (lv' := [(1, .int (nI (31 - 16 - 8 - 2))), (0, .int (nI ((d / 65536) / 256)))]) hx hb dJ6_numberOfLeadingZeros_0f7a4_66 hl (k := 1) rfl (z_dec 2 (by omega)) (by decide) rfl (fun ls hl => ?_)
            refine lv_iload_n hx hb dJ6_numberOfLeadingZeros_0f7a4_69 rfl (lv_at hl 1 rfl) ?_
            refine lv_iconst (v := nI 2) hx hb dJ6_numberOfLeadingZeros_0f7a4_70 (by decide) ?_
            refine lv_iushr (v := nI (((d / 65536) / 256) / 4)) hx hb dJ6_numberOfLeadingZeros_0f7a4_71 (pk_ushrN (by omega) _ 2 (by decide)) ?_
            refine lv_istore_n (lv' := [(0, .int (nI (((d / 65536) / 256) / 4))), (1, .int (nI (31 - 16 - 8 - 2)))]) hx hb dJ6_numberOfLeadingZeros_0f7a4_72 rfl hl (by decide) rfl (fun ls hl => ?_)
            refine lv_iload_n hx hb dJ6_numberOfLeadingZeros_0f7a4_73 rfl (lv_at hl 1 rfl) ?_
            refine lv_iload_n hx hb dJ6_numberOfLeadingZeros_0f7a4_74 rfl (lv_at hl 0 rfl) ?_
            refine lv_iconst (v := nI 1) hx hb dJ6_numberOfLeadingZeros_0f7a4_75 (by decide) ?_
            refine lv_iushr (v := nI ((((d / 65536) / 256) / 4) / 2)) hx hb dJ6_numberOfLeadingZeros_0f7a4_76 (pk_ushrN (by omega) _ 1 (by decide)) ?_
            refine zn_isub hx hb (by omega) dJ6_numberOfLeadingZeros_0f7a4_77 ?_
            exact z_reti (congrArg nI (by rw [nlz_fin (d := d) (k := 26) (i := ((d / 65536) / 256) / 4) (by omega) (by omega) (by omega)]; omega)) (ret _ _ dJ6_numberOfLeadingZeros_0f7a4_78)
        · refine lv_iinc (v := nI (31 - 16 - 8 - 4)) (lv' := [(1, .int (nI (31 - 16 - 8 - 4))), (0, .int (nI ((d / 65536) / 256)))]) hx hb dJ6_numberOfLeadingZeros_0f7a4_54 hl (k := 1) rfl (z_dec 4 (by omega)) (by decide) rfl (fun ls hl => ?_)
          refine lv_iload_n hx hb dJ6_numberOfLeadingZeros_0f7a4_57 rfl (lv_at hl 1 rfl) ?_
          refine lv_iconst (v := nI 4) hx hb dJ6_numberOfLeadingZeros_0f7a4_58 (by decide) ?_
          refine lv_iushr (v := nI (((d / 65536) / 256) / 16)) hx hb dJ6_numberOfLeadingZeros_0f7a4_59 (pk_ushrN (by omega) _ 4 (by decide)) ?_
          refine lv_istore_n (lv' := [(0, .int (nI (((d / 65536) / 256) / 16))), (1, .int (nI (31 - 16 - 8 - 4)))]) hx hb dJ6_numberOfLeadingZeros_0f7a4_60 rfl hl (by decide) rfl (fun ls hl => ?_)
          refine lv_iload_n hx hb dJ6_numberOfLeadingZeros_0f7a4_61 rfl (lv_at hl 0 rfl) ?_
          refine lv_iconst (v := nI 4) hx hb dJ6_numberOfLeadingZeros_0f7a4_62 (by decide) ?_
          refine zn_icmp_lt (tgt := 73) hx hb dJ6_numberOfLeadingZeros_0f7a4_63 (by decide) (by omega) (by omega) (fun c_16 => ?_) (fun c_16 => ?_)
          · refine lv_iload_n hx hb dJ6_numberOfLeadingZeros_0f7a4_73 rfl (lv_at hl 1 rfl) ?_
            refine lv_iload_n hx hb dJ6_numberOfLeadingZeros_0f7a4_74 rfl (lv_at hl 0 rfl) ?_
            refine lv_iconst (v := nI 1) hx hb dJ6_numberOfLeadingZeros_0f7a4_75 (by decide) ?_
            refine lv_iushr (v := nI ((((d / 65536) / 256) / 16) / 2)) hx hb dJ6_numberOfLeadingZeros_0f7a4_76 (pk_ushrN (by omega) _ 1 (by decide)) ?_
            refine zn_isub hx hb (by omega) dJ6_numberOfLeadingZeros_0f7a4_77 ?_
            exact z_reti (congrArg nI (by rw [nlz_fin (d := d) (k := 28) (i := ((d / 65536) / 256) / 16) (by omega) (by omega) (by omega)]; omega)) (ret _ _ dJ6_numberOfLeadingZeros_0f7a4_78)
          · refine lv_iinc (v := nI (31 - 16 - 8 - 4 - 2)) (lv' := [(1, .int (nI (31 - 16 - 8 - 4 - 2))), (0, .int (nI (((d / 65536) / 256) / 16)))]) hx hb dJ6_numberOfLeadingZeros_0f7a4_66 hl (k := 1) rfl (z_dec 2 (by omega)) (by decide) rfl (fun ls hl => ?_)
            refine lv_iload_n hx hb dJ6_numberOfLeadingZeros_0f7a4_69 rfl (lv_at hl 1 rfl) ?_
            refine lv_iconst (v := nI 2) hx hb dJ6_numberOfLeadingZeros_0f7a4_70 (by decide) ?_
            refine lv_iushr (v := nI ((((d / 65536) / 256) / 16) / 4)) hx hb dJ6_numberOfLeadingZeros_0f7a4_71 (pk_ushrN (by omega) _ 2 (by decide)) ?_
            refine lv_istore_n (lv' := [(0, .int (nI ((((d / 65536) / 256) / 16) / 4))), (1, .int (nI (31 - 16 - 8 - 4 - 2)))]) hx hb dJ6_numberOfLeadingZeros_0f7a4_72 rfl hl (by decide) rfl (fun ls hl => ?_)
            refine lv_iload_n hx hb dJ6_numberOfLeadingZeros_0f7a4_73 rfl (lv_at hl 1 rfl) ?_
            refine lv_iload_n hx hb dJ6_numberOfLeadingZeros_0f7a4_74 rfl (lv_at hl 0 rfl) ?_
            refine lv_iconst (v := nI 1) hx hb dJ6_numberOfLeadingZeros_0f7a4_75 (by decide) ?_
            refine lv_iushr (v := nI (((((d / 65536) / 256) / 16) / 4) / 2)) hx hb dJ6_numberOfLeadingZeros_0f7a4_76 (pk_ushrN (by omega) _ 1 (by decide)) ?_
            refine zn_isub hx hb (by omega) dJ6_numberOfLeadingZeros_0f7a4_77 ?_
            exact z_reti (congrArg nI (by rw [nlz_fin (d := d) (k := 30) (i := (((d / 65536) / 256) / 16) / 4) (by omega) (by omega) (by omega)]; omega)) (ret _ _ dJ6_numberOfLeadingZeros_0f7a4_78)
  · exact absurd c_1 (by omega)
set_option maxHeartbeats 4000000 in
set_option maxRecDepth 100000 in
theorem kJ13_numberOfLeadingZeros_95d88 (l : Launch) (E : zE) (d : Nat) (hd0 : 0 < d) (hd : d < 2 ^ 31) : Met l yJ13_numberOfLeadingZeros_95d88 wsJ13_numberOfLeadingZeros_95d88 (rmL 1) (va_Pc [.long (lN d)] (zW E [])) (vp_Si (fun r9 => r9 = nI (63 - Nat.log2 d))) 0 0 (fun _ => False) := by
  refine z_ofRi (cc := cJ13_numberOfLeadingZeros_95d88) (maxL := 3) (own := RJ13) (by decide) rfl rfl (Nat.le_of_ble_eq_true rfl) ?_
  intro p e s m args below meth c R Q B hP ret ls hl
  obtain ⟨hx, hb, hml, hown, hts, hK, hRf, hRl⟩ := B
  have hl : lv_has ls 3 [(0, .long (lN d))] := hl
  refine lv_lload_n hx hb dJ13_numberOfLeadingZeros_95d88_0 rfl (lv_at hl 0 rfl) ?_
  refine lv_bipush (v := nI 32) hx hb dJ13_numberOfLeadingZeros_95d88_1 (by decide) ?_
  refine lv_lushr (v := jushr (lN d) (nI 32)) hx hb dJ13_numberOfLeadingZeros_95d88_3 rfl ?_
  refine lv_l2i (v := nI 0) hx hb dJ13_numberOfLeadingZeros_95d88_4 (by rw [show jushr (lN d) (nI 32) = lN (d / 2 ^ 32) from wb_shr (by omega) (by omega), show d / 2 ^ 32 = 0 by omega]; rfl) ?_
  refine lv_istore_n (lv' := [(2, .int (nI 0)), (0, .long (lN d))]) hx hb dJ13_numberOfLeadingZeros_95d88_5 rfl hl (by decide) rfl (fun ls hl => ?_)
  refine lv_iload_n hx hb dJ13_numberOfLeadingZeros_95d88_6 rfl (lv_at hl 0 rfl) ?_
  refine zn_if_ne (tgt := 21) hx hb dJ13_numberOfLeadingZeros_95d88_7 (by decide) (by decide) (fun h => absurd h (by decide)) (fun _ => ?_)
  refine lv_bipush (v := nI 32) hx hb dJ13_numberOfLeadingZeros_95d88_10 (by decide) ?_
  refine lv_lload_n hx hb dJ13_numberOfLeadingZeros_95d88_12 rfl (lv_at hl 1 rfl) ?_
  refine lv_l2i (v := nI d) hx hb dJ13_numberOfLeadingZeros_95d88_13 (lN_i d) ?_
  refine zc_i (W.runS ⟨hx, hb, hml, hown, hts⟩ (kJ6_numberOfLeadingZeros_0f7a4 l E d (by omega) (by omega)) (va_cwS 1 hts gJ13_numberOfLeadingZeros_95d88_J6_numberOfLeadingZeros_0f7a4 rfl rfl rfl (by decide +kernel) ⟨Nat.le_trans (Nat.le_of_ble_eq_true rfl) hRf, Nat.le_trans (Nat.le_of_ble_eq_true rfl) hRl⟩) (z_preR (av := [.int (nI d)]) (hP.sub (ws' := []) [] rfl) hK) rfl rfl hl.1 rfl (lv_room (Nat.le_of_ble_eq_true rfl)) dJ13_numberOfLeadingZeros_95d88_14 ⟨Nat.zero_le _, Nat.zero_le _⟩) ?_
  refine zn_iadd hx hb dJ13_numberOfLeadingZeros_95d88_17 ?_
  refine lv_goto (tgt := 25) hx hb dJ13_numberOfLeadingZeros_95d88_18 (by decide) ?_
  exact z_reti (congrArg nI (by have := (Nat.log2_lt (Nat.ne_of_gt hd0)).mpr hd; omega)) (ret _ _ dJ13_numberOfLeadingZeros_95d88_25)
set_option maxHeartbeats 4000000 in
set_option maxRecDepth 100000 in
theorem kJ6_big (l : Launch) (E : zE) (d : Nat) (hd0 : 2 ^ 31 ≤ d) (hd : d < 2 ^ 32) : Met l yJ6_numberOfLeadingZeros_0f7a4 wsJ6_numberOfLeadingZeros_0f7a4 (rmL 0) (va_Pc [.int (nI d)] (zW E [])) (vp_Si (fun r9 => r9 = nI 0)) 0 0 (fun _ => False) := by
  refine z_ofRi (cc := cJ6_numberOfLeadingZeros_0f7a4) (maxL := 2) (own := RJ6) (by decide) rfl rfl (Nat.le_of_ble_eq_true rfl) ?_
  intro p e s m args below meth c R Q B hP ret ls hl
  obtain ⟨hx, hb, hml, hown, hts, hK, hRf, hRl⟩ := B
  have hl : lv_has ls 2 [(0, .int (nI d))] := hl
  have hng : nI d < 0 := nI_neg hd0 hd
  refine lv_iload_n hx hb dJ6_numberOfLeadingZeros_0f7a4_0 rfl (lv_at hl 0 rfl) ?_
  refine lv_if_gt (tgt := 15) hx hb dJ6_numberOfLeadingZeros_0f7a4_1 (by decide) (fun c_1 => ?_) (fun c_1 => ?_)
  · exact absurd c_1 (by rw [Int32.lt_iff_toInt_lt] at hng ⊢; omega)
  · refine lv_iload_n hx hb dJ6_numberOfLeadingZeros_0f7a4_4 rfl (lv_at hl 0 rfl) ?_
    refine lv_if_ne (tgt := 13) hx hb dJ6_numberOfLeadingZeros_0f7a4_5 (by decide) (fun c_2 => ?_) (fun c_2 => ?_)
    · refine lv_iconst (v := nI 0) hx hb dJ6_numberOfLeadingZeros_0f7a4_13 (by decide) ?_
      exact z_reti (rfl) (ret _ _ dJ6_numberOfLeadingZeros_0f7a4_14)
    · exact absurd hng (by rw [c_2]; decide)
set_option maxHeartbeats 4000000 in
set_option maxRecDepth 100000 in
theorem kJ13_big (l : Launch) (E : zE) (d : Nat) (hd0 : 2 ^ 31 ≤ d) (hd : d < 2 ^ 32) : Met l yJ13_numberOfLeadingZeros_95d88 wsJ13_numberOfLeadingZeros_95d88 (rmL 1) (va_Pc [.long (lN d)] (zW E [])) (vp_Si (fun r9 => r9 = nI 32)) 0 0 (fun _ => False) := by
  refine z_ofRi (cc := cJ13_numberOfLeadingZeros_95d88) (maxL := 3) (own := RJ13) (by decide) rfl rfl (Nat.le_of_ble_eq_true rfl) ?_
  intro p e s m args below meth c R Q B hP ret ls hl
  obtain ⟨hx, hb, hml, hown, hts, hK, hRf, hRl⟩ := B
  have hl : lv_has ls 3 [(0, .long (lN d))] := hl
  refine lv_lload_n hx hb dJ13_numberOfLeadingZeros_95d88_0 rfl (lv_at hl 0 rfl) ?_
  refine lv_bipush (v := nI 32) hx hb dJ13_numberOfLeadingZeros_95d88_1 (by decide) ?_
  refine lv_lushr (v := jushr (lN d) (nI 32)) hx hb dJ13_numberOfLeadingZeros_95d88_3 rfl ?_
  refine lv_l2i (v := nI 0) hx hb dJ13_numberOfLeadingZeros_95d88_4 (by rw [show jushr (lN d) (nI 32) = lN (d / 2 ^ 32) from wb_shr (by omega) (by omega), show d / 2 ^ 32 = 0 by omega]; rfl) ?_
  refine lv_istore_n (lv' := [(2, .int (nI 0)), (0, .long (lN d))]) hx hb dJ13_numberOfLeadingZeros_95d88_5 rfl hl (by decide) rfl (fun ls hl => ?_)
  refine lv_iload_n hx hb dJ13_numberOfLeadingZeros_95d88_6 rfl (lv_at hl 0 rfl) ?_
  refine zn_if_ne (tgt := 21) hx hb dJ13_numberOfLeadingZeros_95d88_7 (by decide) (by decide) (fun h => absurd h (by decide)) (fun _ => ?_)
  refine lv_bipush (v := nI 32) hx hb dJ13_numberOfLeadingZeros_95d88_10 (by decide) ?_
  refine lv_lload_n hx hb dJ13_numberOfLeadingZeros_95d88_12 rfl (lv_at hl 1 rfl) ?_
  refine lv_l2i (v := nI d) hx hb dJ13_numberOfLeadingZeros_95d88_13 (lN_i d) ?_
  refine zc_i (W.runS ⟨hx, hb, hml, hown, hts⟩ (kJ6_big l E d hd0 hd) (va_cwS 1 hts gJ13_numberOfLeadingZeros_95d88_J6_numberOfLeadingZeros_0f7a4 rfl rfl rfl (by decide +kernel) ⟨Nat.le_trans (Nat.le_of_ble_eq_true rfl) hRf, Nat.le_trans (Nat.le_of_ble_eq_true rfl) hRl⟩) (z_preR (av := [.int (nI d)]) (hP.sub (ws' := []) [] rfl) hK) rfl rfl hl.1 rfl (lv_room (Nat.le_of_ble_eq_true rfl)) dJ13_numberOfLeadingZeros_95d88_14 ⟨Nat.zero_le _, Nat.zero_le _⟩) ?_
  refine zn_iadd hx hb dJ13_numberOfLeadingZeros_95d88_17 ?_
  refine lv_goto (tgt := 25) hx hb dJ13_numberOfLeadingZeros_95d88_18 (by decide) ?_
  exact z_reti (rfl) (ret _ _ dJ13_numberOfLeadingZeros_95d88_25)
theorem kJ13 (l : Launch) (E : zE) (d : Nat) (hd0 : 0 < d) (hd : d < 2 ^ 32) : Met l yJ13_numberOfLeadingZeros_95d88 wsJ13_numberOfLeadingZeros_95d88 (rmL 1) (va_Pc [.long (lN d)] (zW E [])) (vp_Si (fun r => r = nI (63 - Nat.log2 d))) 0 0 (fun _ => False) := by
  rcases Nat.lt_or_ge d (2 ^ 31) with h | h
  · exact kJ13_numberOfLeadingZeros_95d88 l E d hd0 h
  · have e : Nat.log2 d = 31 := by
      have h0 : d ≠ 0 := by omega
      have h1 := (Nat.log2_lt h0).mpr hd
      have h2 := (Nat.le_log2 h0).mpr h
      omega
    rw [e]
    exact kJ13_big l E d h hd
set_option maxHeartbeats 4000000 in
set_option maxRecDepth 100000 in
theorem kX1_highestBit (l : Launch) (E : zE) (h0 a1 : Nat) (L : Nat → Int64) (D : Nat → Nat) (hDg : isDg L D) : Met l yX1_highestBit wsX1_highestBit (rmL 2) (va_Pc [.ref h0] (zW E [(h0, .inr (2, [.ref a1])), (a1, .inl (E.2.2.1, 67, .inr (.inl L)))])) (vp_Si (fun r9 => r9 = nI (hbK D 67) - nI 1)) 0 0 (fun _ => False) := by
  refine z_ofRi (cc := cX1_highestBit) (maxL := 2) (own := RX1) (by decide) rfl rfl (Nat.le_of_ble_eq_true rfl) ?_
  intro p e s m args below meth c R Q B hP ret ls hl
  obtain ⟨hx, hb, hml, hown, hts, hK, hRf, hRl⟩ := B
  have hiX1 : ∀ w ∈ wsX10, w ∈ wsX1_highestBit := by decide +kernel
  have hf11 := hts (.fieldLink RX1 11 "ExactFolds$RealSum" "limbs" "[J") (by decide +kernel)
  have hl : lv_has ls 2 [(0, .ref h0)] := hl
  refine lv_bipush (v := nI 66) hx hb dX1_highestBit_0 (by decide) ?_
  refine lv_istore_n (lv' := [(1, .int (nI 66)), (0, .ref h0)]) hx hb dX1_highestBit_2 rfl hl (by decide) rfl (fun ls hl => ?_)
  have lp : ∀ (fu : Nat) (k_ : Nat) (ls : Array Slot), k_ < fu → (k_ ≤ 67) → (hbK D k_ = hbK D 67) → lv_has ls 2 [(0, .ref h0), (1, .int (nI k_ - nI 1))] → W p l e R s m args below meth c s.heap [] 0 0 Q (F0 m 3 ls []) := by
    intro fu
    induction fu with
    | zero => intros; exact absurd (by assumption) (Nat.not_lt_zero _)
    | succ fu ihlp =>
      intro k_ ls hfu hk hq hl
      refine lv_iload_n hx hb dX1_highestBit_3 rfl (lv_at hl 1 rfl) ?_
      refine lv_if_lt (tgt := 42) hx hb dX1_highestBit_4 (by decide) (fun c_1 => ?_) (fun c_1 => ?_)
      · obtain rfl : k_ = 0 := by
          rcases Nat.eq_zero_or_pos k_ with h9 | h9
          · exact h9
          · exact absurd c_1 (by rw [pk_sub h9]; exact nI_pos (by omega))
        refine lv_iconst (v := (-1)) hx hb dX1_highestBit_42 (by decide) ?_
        exact z_reti (by rw [← hq]; rfl) (ret _ _ dX1_highestBit_43)
      · have hk0 : 0 < k_ := by
          rcases Nat.eq_zero_or_pos k_ with h9 | h9
          · subst h9; exact absurd (by decide) c_1
          · exact h9
        rw [pk_sub hk0] at hl
        have hlg := hDg.1 (k_ - 1) (by omega)
        refine lv_aload_n hx hb dX1_highestBit_7 rfl (lv_at hl 0 rfl) ?_
        refine va_get (D := E.1) (ci := 2) (C := RX1) (T := TX1) (N := 1) hx hb hts hiX1 hown hK.1 hP 0 rfl rfl 0 (by decide) hf11 (fun _ h9 => h9) rfl dX1_highestBit_8 ?_
        refine lv_iload_n hx hb dX1_highestBit_11 rfl (lv_at hl 1 rfl) ?_
        refine zn_lald hx hb hK.1 hP 1 1 rfl rfl (by omega) (by decide) dX1_highestBit_12 ?_
        rw [hlg.1]
        refine lv_lconst (v := 0) hx hb dX1_highestBit_13 rfl ?_
        refine zl_eq (tgt := 36) hx hb dX1_highestBit_14 dX1_highestBit_15 (by decide) (fun c_2 => ?_) (fun c_2 => ?_)
        · have hq2 : hbK D (k_ - 1) = hbK D 67 := by rw [← hq, hb_step hk0 c_2]
          refine lv_iinc (v := nI (k_ - 1) - nI 1) (lv' := [(1, .int (nI (k_ - 1) - nI 1)), (0, .ref h0)]) hx hb dX1_highestBit_36 hl (k := 1) rfl (by rw [show Int32.ofInt (-1) = -1 from by decide, Int32.sub_eq_add_neg]; rfl) (by decide) rfl (fun ls hl => ?_)
          refine lv_goto (tgt := 3) hx hb dX1_highestBit_39 (by decide) ?_
          exact ihlp (k_ - 1) ls (by omega) (by omega) (hq2) (lv_sub hl [1, 0] rfl)
        · have hlt2 := (Nat.log2_lt (n := D (k_ - 1)) (fun q9 => c_2 (by rw [q9]; rfl))).mpr hlg.2
          refine lv_iload_n hx hb dX1_highestBit_18 rfl (lv_at hl 1 rfl) ?_
          refine lv_bipush (v := nI 32) hx hb dX1_highestBit_19 (by decide) ?_
          refine zn_imul hx hb dX1_highestBit_21 ?_
          refine lv_bipush (v := nI 63) hx hb dX1_highestBit_22 (by decide) ?_
          refine zn_iadd hx hb dX1_highestBit_24 ?_
          refine lv_aload_n hx hb dX1_highestBit_25 rfl (lv_at hl 0 rfl) ?_
          refine va_get (D := E.1) (ci := 2) (C := RX1) (T := TX1) (N := 1) hx hb hts hiX1 hown hK.1 hP 0 rfl rfl 0 (by decide) hf11 (fun _ h9 => h9) rfl dX1_highestBit_26 ?_
          refine lv_iload_n hx hb dX1_highestBit_29 rfl (lv_at hl 1 rfl) ?_
          refine zn_lald hx hb hK.1 hP 1 1 rfl rfl (by omega) (by decide) dX1_highestBit_30 ?_
          rw [hlg.1]
          refine zc_i (W.runS ⟨hx, hb, hml, hown, hts⟩ (kJ13 l E (D (k_ - 1)) (by have h9 : D (k_ - 1) ≠ 0 := fun q9 => c_2 (by rw [q9]; rfl) ; omega) (isDg_lt hDg _)) (va_cwS 1 hts gX1_highestBit_J13_numberOfLeadingZeros_95d88 rfl rfl rfl (by decide +kernel) ⟨Nat.le_trans (Nat.le_of_ble_eq_true rfl) hRf, Nat.le_trans (Nat.le_of_ble_eq_true rfl) hRl⟩) (z_preR (av := [.long (lN (D (k_ - 1)))]) (hP.sub (ws' := []) [] rfl) hK) rfl rfl hl.1 rfl (lv_room (Nat.le_of_ble_eq_true rfl)) dX1_highestBit_31 ⟨Nat.zero_le _, Nat.zero_le _⟩) ?_
          refine zn_isub hx hb (by omega) dX1_highestBit_34 ?_
          exact z_reti (hb_ret hk0 c_2 hq hlt2) (ret _ _ dX1_highestBit_35)
  exact lp _ 67 ls (Nat.lt_succ_self _) (Nat.le_refl _) (rfl) (lv_sub hl [1, 0] rfl)
set_option maxHeartbeats 4000000 in
set_option maxRecDepth 100000 in
theorem kX1_roundedSize (l : Launch) (E : zE) (h0 a1 : Nat) (L : Nat → Int64) (D : Nat → Nat) (hDg : isDg L D) : Met l yX1_roundedSize wsX1_roundedSize (rmL 3) (va_Pc [.ref h0] (zW E [(h0, .inr (2, [.ref a1])), (a1, .inl (E.2.2.1, 67, .inr (.inl L)))])) (vp_Sl (fun r9 => r9 = rszF D)) 0 0 (fun _ => False) := by
  refine z_ofRl (cc := cX1_roundedSize) (maxL := 4) (own := RX1) (by decide) rfl rfl (Nat.le_of_ble_eq_true rfl) ?_
  intro p e s m args below meth c R Q B hP ret ls hl
  obtain ⟨hx, hb, hml, hown, hts, hK, hRf, hRl⟩ := B
  have hl : lv_has ls 4 [(0, .ref h0)] := hl
  have hle := hbK_le (isDg_lt hDg) 67
  refine lv_aload_n hx hb dX1_roundedSize_0 rfl (lv_at hl 0 rfl) ?_
  refine zc_i (W.runV ⟨hx, hb, hml, hown, hts⟩ (kX1_highestBit l E h0 a1 L D hDg) (cwV 0 hts gX1_roundedSize_X1_highestBit rfl rfl rfl (by decide +kernel) ⟨Nat.le_trans (Nat.le_of_ble_eq_true rfl) hRf, Nat.le_trans (Nat.le_of_ble_eq_true rfl) hRl⟩) (z_preV (As := []) hP hK 0 rfl rfl) rfl rfl hl.1 rfl (lv_room (Nat.le_of_ble_eq_true rfl)) dX1_roundedSize_1 ⟨Nat.zero_le _, Nat.zero_le _⟩) ?_
  refine lv_bipush (v := nI 52) hx hb dX1_roundedSize_4 (by decide) ?_
  refine lv_isub hx hb dX1_roundedSize_6 ?_
  refine lv_istore_n (lv' := [(1, .int ((nI (hbK D 67) - nI 1) - (nI 52))), (0, .ref h0)]) hx hb dX1_roundedSize_7 rfl hl (by decide) rfl (fun ls hl => ?_)
  refine lv_iload_n hx hb dX1_roundedSize_8 rfl (lv_at hl 0 rfl) ?_
  refine lv_if_gt (tgt := 18) hx hb dX1_roundedSize_9 (by decide) (fun c_1 => ?_) (fun c_1 => ?_)
  · have h53 : 53 < hbK D 67 := sh_gt (by omega) c_1
    rw [sh_pos h53] at hl
    refine lv_iload_n hx hb dX1_roundedSize_18 rfl (lv_at hl 0 rfl) ?_
    refine lv_sipush (v := nI 2046) hx hb dX1_roundedSize_19 (by decide) ?_
    refine zn_icmp_lt (tgt := 29) hx hb dX1_roundedSize_22 (by decide) (by omega) (by omega) (fun c_2 => ?_) (fun c_2 => ?_)
    · refine lv_iload_n hx hb dX1_roundedSize_29 rfl (lv_at hl 0 rfl) ?_
      refine lv_i2l hx hb dX1_roundedSize_30 rfl ?_
      refine lv_bipush (v := nI 52) hx hb dX1_roundedSize_31 (by decide) ?_
      refine lv_lshl (v := jshl ((nI (hbK D 67 - 53)).toInt64) (nI 52)) hx hb dX1_roundedSize_33 rfl ?_
      refine lv_aload_n hx hb dX1_roundedSize_34 rfl (lv_at hl 1 rfl) ?_
      refine lv_iload_n hx hb dX1_roundedSize_35 rfl (lv_at hl 0 rfl) ?_
      refine zc_l (W.runV ⟨hx, hb, hml, hown, hts⟩ (kX1_digitsFrom l E h0 a1 L D hDg (hbK D 67 - 53) (by omega)) (cwV 1 hts gX1_roundedSize_X1_digitsFrom rfl rfl rfl (by decide +kernel) ⟨Nat.le_trans (Nat.le_of_ble_eq_true rfl) hRf, Nat.le_trans (Nat.le_of_ble_eq_true rfl) hRl⟩) (z_preV (As := [.int (nI (hbK D 67 - 53))]) hP hK 0 rfl rfl) rfl rfl hl.1 rfl (lv_room (Nat.le_of_ble_eq_true rfl)) dX1_roundedSize_36 ⟨Nat.zero_le _, Nat.zero_le _⟩) ?_
      refine lv_ladd hx hb dX1_roundedSize_39 ?_
      refine lv_lstore_n (lv' := [(2, .long ((jshl ((nI (hbK D 67 - 53)).toInt64) (nI 52)) + (dgF D (hbK D 67 - 53)))), (1, .int (nI (hbK D 67 - 53))), (0, .ref h0)]) hx hb dX1_roundedSize_40 rfl hl (by decide) rfl (fun ls hl => ?_)
      refine lv_aload_n hx hb dX1_roundedSize_41 rfl (lv_at hl 2 rfl) ?_
      refine lv_iload_n hx hb dX1_roundedSize_42 rfl (lv_at hl 1 rfl) ?_
      refine zc_i (W.runV ⟨hx, hb, hml, hown, hts⟩ (kX1_roundsUp l E h0 a1 L D hDg (hbK D 67 - 53) (by omega) (by omega)) (cwV 1 hts gX1_roundedSize_X1_roundsUp rfl rfl rfl (by decide +kernel) ⟨Nat.le_trans (Nat.le_of_ble_eq_true rfl) hRf, Nat.le_trans (Nat.le_of_ble_eq_true rfl) hRl⟩) (z_preV (As := [.int (nI (hbK D 67 - 53))]) hP hK 0 rfl rfl) rfl rfl hl.1 rfl (lv_room (Nat.le_of_ble_eq_true rfl)) dX1_roundedSize_43 ⟨Nat.zero_le _, Nat.zero_le _⟩) ?_
      refine zb_if_eq (tgt := 55) hx hb dX1_roundedSize_46 (by decide) (fun c_3 => ?_) (fun c_3 => ?_)
      · refine lv_lload_n hx hb dX1_roundedSize_55 rfl (lv_at hl 0 rfl) ?_
        exact z_retl (by unfold rszF; rw [if_neg (by omega), if_neg (by omega), if_neg (by rw [c_3]; exact Bool.false_ne_true)]) (ret _ _ dX1_roundedSize_56)
      · refine lv_lload_n hx hb dX1_roundedSize_49 rfl (lv_at hl 0 rfl) ?_
        refine lv_lconst (v := 1) hx hb dX1_roundedSize_50 rfl ?_
        refine lv_ladd hx hb dX1_roundedSize_51 ?_
        refine lv_goto (tgt := 56) hx hb dX1_roundedSize_52 (by decide) ?_
        exact z_retl (by unfold rszF; rw [if_neg (by omega), if_neg (by omega), if_pos c_3]) (ret _ _ dX1_roundedSize_56)
    · refine lv_ldc2 (v := 9218868437227405312) hx hb hown (hts (.constantLong RX1 58 (9218868437227405312)) (by decide +kernel)) dX1_roundedSize_25 ?_
      exact z_retl (by unfold rszF; rw [if_neg (by omega), if_pos c_2]) (ret _ _ dX1_roundedSize_28)
  · have h53 : hbK D 67 ≤ 53 := by
      rcases Nat.lt_or_ge 53 (hbK D 67) with h9 | h9
      · exact absurd (by rw [sh_pos h9]; exact (z_p0 (by omega)).mpr (by omega)) c_1
      · exact h9
    refine lv_aload_n hx hb dX1_roundedSize_12 rfl (lv_at hl 1 rfl) ?_
    refine lv_iconst (v := nI 0) hx hb dX1_roundedSize_13 (by decide) ?_
    refine zc_l (W.runV ⟨hx, hb, hml, hown, hts⟩ (kX1_digitsFrom l E h0 a1 L D hDg 0 (by omega)) (cwV 1 hts gX1_roundedSize_X1_digitsFrom rfl rfl rfl (by decide +kernel) ⟨Nat.le_trans (Nat.le_of_ble_eq_true rfl) hRf, Nat.le_trans (Nat.le_of_ble_eq_true rfl) hRl⟩) (z_preV (As := [.int (nI 0)]) hP hK 0 rfl rfl) rfl rfl hl.1 rfl (lv_room (Nat.le_of_ble_eq_true rfl)) dX1_roundedSize_14 ⟨Nat.zero_le _, Nat.zero_le _⟩) ?_
    exact z_retl (by unfold rszF; rw [if_pos h53]) (ret _ _ dX1_roundedSize_17)
set_option maxHeartbeats 4000000 in
set_option maxRecDepth 100000 in
theorem kX1_roundedSumOf (l : Launch) (E : zE) (sz : Nat) (h0 a1 : Nat) (L : Nat → Int64) (g0 b1 b2 : Nat) (k2 : Int32) (n : Nat) (T2 : Nat → Int32) (V : Nat → Int64) (hn : n ≤ 64) : Met l yX1_roundedSumOf wsX1_roundedSumOf (rmL 4) (va_Pc [.ref h0, .ref g0] (zS E [(h0, .inr (2, [.ref a1])), (a1, .inl (E.2.2.1, 67, .inr (.inl L))), (g0, .inr (1, [.int k2, .ref b1, .ref b2, .int (nI n)])), (b1, .inl (E.2.1, 64, .inl T2)), (b2, .inl (E.2.2.1, 64, .inr (.inl V)))] sz)) (va_Ql (fun (r9 : Int64) (_ : Unit) => r9 = realF L V n) (fun _ t9 => zW E [(h0, .inr (2, [.ref a1])), (a1, .inl (E.2.2.1, 67, .inr (.inl (endL (sumL L V n))))), (g0, .inr (1, [.int k2, .ref b1, .ref b2, .int (nI n)])), (b1, .inl (E.2.1, 64, .inl T2)), (b2, .inl (E.2.2.1, 64, .inr (.inl V)))] t9) (va_A [(h0, .inr (2, [.ref a1])), (a1, .inl (E.2.2.1, 67, .inr (.inl L))), (g0, .inr (1, [.int k2, .ref b1, .ref b2, .int (nI n)])), (b1, .inl (E.2.1, 64, .inl T2)), (b2, .inl (E.2.2.1, 64, .inr (.inl V)))] sz)) 0 0 (va_A [(h0, .inr (2, [.ref a1])), (a1, .inl (E.2.2.1, 67, .inr (.inl L))), (g0, .inr (1, [.int k2, .ref b1, .ref b2, .int (nI n)])), (b1, .inl (E.2.1, 64, .inl T2)), (b2, .inl (E.2.2.1, 64, .inr (.inl V)))] sz) := by
  refine z_ofWl (cc := cX1_roundedSumOf) (maxL := 5) (own := RX1) (by decide) rfl rfl (Nat.le_of_ble_eq_true rfl) ?_
  intro p e s m args below meth c R Q A B hP hD hA ret ls hl
  obtain ⟨hx, hb, hml, hown, hts, hK, hRf, hRl⟩ := B
  have hiX0 : ∀ w ∈ wsX00, w ∈ wsX1_roundedSumOf := by decide +kernel
  have hiX1 : ∀ w ∈ wsX10, w ∈ wsX1_roundedSumOf := by decide +kernel
  have hf11 := hts (.fieldLink RX1 11 "ExactFolds$RealSum" "limbs" "[J") (by decide +kernel)
  have hf15 := hts (.fieldLink RX1 15 "ExactFolds$Fold" "size" "I") (by decide +kernel)
  have hf21 := hts (.fieldLink RX1 21 "ExactFolds$Fold" "values" "[J") (by decide +kernel)
  have hS : va_S A s.heap s.heap [] := va_S.rf
  have hl : lv_has ls 5 [(0, .ref h0), (1, .ref g0)] := hl
  refine lv_iconst (v := nI 0) hx hb dX1_roundedSumOf_0 (by decide) ?_
  refine lv_istore_n (lv' := [(2, .int (nI 0)), (0, .ref h0), (1, .ref g0)]) hx hb dX1_roundedSumOf_1 rfl hl (by decide) rfl (fun ls hl => ?_)
  have lp : ∀ (fu : Nat) (i : Nat) (ls : Array Slot) (H : Heap) (locs : List Loc), 67 - i < fu → (i ≤ 67) → lv_has ls 5 [(0, .ref h0), (1, .ref g0), (2, .int (nI i))] → va_P E.1 vwCl [(h0, .inr (2, [.ref a1])), (a1, .inl (E.2.2.1, 67, .inr (.inl (setL L (fun _ => 0) i)))), (g0, .inr (1, [.int k2, .ref b1, .ref b2, .int (nI n)])), (b1, .inl (E.2.1, 64, .inl T2)), (b2, .inl (E.2.2.1, 64, .inr (.inl V)))] H → va_D A [(h0, .inr (2, [.ref a1])), (a1, .inl (E.2.2.1, 67, .inr (.inl (setL L (fun _ => 0) i)))), (g0, .inr (1, [.int k2, .ref b1, .ref b2, .int (nI n)])), (b1, .inl (E.2.1, 64, .inl T2)), (b2, .inl (E.2.2.1, 64, .inr (.inl V)))] → va_S A s.heap H locs → W p l e R s m args below meth c H locs 0 0 Q (F0 m 2 ls []) := by
    intro fu
    induction fu with
    | zero => intros; exact absurd (by assumption) (Nat.not_lt_zero _)
    | succ fu ihlp =>
      intro i ls H locs hfu hi hl hP hD hS
      refine lv_iload_n hx hb dX1_roundedSumOf_2 rfl (lv_at hl 2 rfl) ?_
      refine lv_bipush (v := nI 67) hx hb dX1_roundedSumOf_3 (by decide) ?_
      refine zn_icmp_ge (tgt := 21) hx hb dX1_roundedSumOf_5 (by decide) (by omega) (by omega) (fun c_1 => ?_) (fun c_1 => ?_)
      · obtain rfl : i = 67 := by omega
        refine lv_iconst (v := nI 0) hx hb dX1_roundedSumOf_21 (by decide) ?_
        refine lv_istore_n (lv' := [(2, .int (nI 0)), (0, .ref h0), (1, .ref g0)]) hx hb dX1_roundedSumOf_22 rfl hl (by decide) rfl (fun ls hl => ?_)
        have lq : ∀ (fu : Nat) (i : Nat) (ls : Array Slot) (H : Heap) (locs : List Loc), n - i < fu → (i ≤ n) → lv_has ls 5 [(0, .ref h0), (1, .ref g0), (2, .int (nI i))] → va_P E.1 vwCl [(h0, .inr (2, [.ref a1])), (a1, .inl (E.2.2.1, 67, .inr (.inl (putN (setL L (fun _ => 0) 67) V i)))), (g0, .inr (1, [.int k2, .ref b1, .ref b2, .int (nI n)])), (b1, .inl (E.2.1, 64, .inl T2)), (b2, .inl (E.2.2.1, 64, .inr (.inl V)))] H → va_D A [(h0, .inr (2, [.ref a1])), (a1, .inl (E.2.2.1, 67, .inr (.inl (putN (setL L (fun _ => 0) 67) V i)))), (g0, .inr (1, [.int k2, .ref b1, .ref b2, .int (nI n)])), (b1, .inl (E.2.1, 64, .inl T2)), (b2, .inl (E.2.2.1, 64, .inr (.inl V)))] → va_S A s.heap H locs → W p l e R s m args below meth c H locs 0 0 Q (F0 m 23 ls []) := by
          intro fu
          induction fu with
          | zero => intros; exact absurd (by assumption) (Nat.not_lt_zero _)
          | succ fu ihlq =>
            intro i ls H locs hfu hi hl hP hD hS
            refine lv_iload_n hx hb dX1_roundedSumOf_23 rfl (lv_at hl 2 rfl) ?_
            refine lv_aload_n hx hb dX1_roundedSumOf_24 rfl (lv_at hl 1 rfl) ?_
            refine va_get (D := E.1) (ci := 1) (C := RX0) (T := TX0) (N := 4) hx hb hts hiX0 hown hK.1 hP 2 rfl rfl 3 (by decide) hf15 (fun _ h9 => h9) rfl dX1_roundedSumOf_25 ?_
            refine zn_icmp_ge (tgt := 47) hx hb dX1_roundedSumOf_28 (by decide) (by omega) (by omega) (fun c_2 => ?_) (fun c_2 => ?_)
            · obtain rfl : n = i := by omega
              refine lv_aload_n hx hb dX1_roundedSumOf_47 rfl (lv_at hl 0 rfl) ?_
              have hPc := hP.sub (ws' := [(h0, .inr (2, [.ref a1])), (a1, .inl (E.2.2.1, 67, .inr (.inl (sumL L V n))))]) [0, 1] rfl
              have hDc := hD.sub (ws' := [(h0, .inr (2, [.ref a1])), (a1, .inl (E.2.2.1, 67, .inr (.inl (sumL L V n))))]) [0, 1] (by decide) rfl
              refine zw_l (E := E) (wc := [(h0, .inr (2, [.ref a1])), (a1, .inl (E.2.2.1, 67, .inr (.inl (sumL L V n))))]) (wc' := [(h0, .inr (2, [.ref a1])), (a1, .inl (E.2.2.1, 67, .inr (.inl (carL (sumL L V n) 67))))]) (wr := [(g0, .inr (1, [.int k2, .ref b1, .ref b2, .int (nI n)])), (b1, .inl (E.2.1, 64, .inl T2)), (b2, .inl (E.2.2.1, 64, .inr (.inl V)))]) (va_runV ⟨hx, hb, hml, hown, hts⟩ (kX1_carry l E _ h0 a1 (sumL L V n)) (cwV 0 hts gX1_roundedSumOf_X1_carry rfl rfl rfl (by decide +kernel) ⟨Nat.le_trans (Nat.le_of_ble_eq_true rfl) hRf, Nat.le_trans (Nat.le_of_ble_eq_true rfl) hRl⟩) (z_preWV (As := []) hPc hDc hK 0 rfl rfl) rfl rfl hl.1 rfl (lv_room (Nat.le_of_ble_eq_true rfl)) dX1_roundedSumOf_48 ⟨Nat.zero_le _, Nat.zero_le _⟩) hP hD hS hA [0, 1] [2, 3, 4] rfl rfl (by decide) (by decide) (by decide) rfl (fun H locs hP hD hS => ?_)
              have hP := hP.sub (ws' := [(h0, .inr (2, [.ref a1])), (a1, .inl (E.2.2.1, 67, .inr (.inl (carL (sumL L V n) 67)))), (g0, .inr (1, [.int k2, .ref b1, .ref b2, .int (nI n)])), (b1, .inl (E.2.1, 64, .inl T2)), (b2, .inl (E.2.2.1, 64, .inr (.inl V)))]) [3, 4, 0, 1, 2] rfl
              have hD := hD.sub (ws' := [(h0, .inr (2, [.ref a1])), (a1, .inl (E.2.2.1, 67, .inr (.inl (carL (sumL L V n) 67)))), (g0, .inr (1, [.int k2, .ref b1, .ref b2, .int (nI n)])), (b1, .inl (E.2.1, 64, .inl T2)), (b2, .inl (E.2.2.1, 64, .inr (.inl V)))]) [3, 4, 0, 1, 2] (by decide) rfl
              refine lv_lconst (v := 0) hx hb dX1_roundedSumOf_51 rfl ?_
              refine zl_ge (tgt := 60) hx hb dX1_roundedSumOf_52 dX1_roundedSumOf_53 (by decide) (fun c_3 => ?_) (fun c_3 => ?_)
              · refine lv_iconst (v := nI 0) hx hb dX1_roundedSumOf_60 (by decide) ?_
                refine lv_istore_n (lv' := [(2, .int (nI 0)), (0, .ref h0), (1, .ref g0)]) hx hb dX1_roundedSumOf_61 rfl hl (by decide) rfl (fun ls hl => ?_)
                refine lv_iload_n hx hb dX1_roundedSumOf_62 rfl (lv_at hl 0 rfl) ?_
                refine zn_if_eq (tgt := 70) hx hb dX1_roundedSumOf_63 (by decide) (by decide) (fun _ => ?_) (fun h => absurd h (by decide))
                refine lv_aload_n hx hb dX1_roundedSumOf_70 rfl (lv_at hl 1 rfl) ?_
                have hng : isNeg (sumL L V n) = false := by unfold isNeg; simp [c_3]
                have hen : endL (sumL L V n) = carL (sumL L V n) 67 := by unfold endL; rw [if_neg (by rw [hng]; exact Bool.false_ne_true)]
                rw [← hen] at hP hD
                refine zc_l (W.runV ⟨hx, hb, hml, hown, hts⟩ (kX1_roundedSize l E h0 a1 (endL (sumL L V n)) (limN (endL (sumL L V n))) (endL_dg _)) (cwV 0 hts gX1_roundedSumOf_X1_roundedSize rfl rfl rfl (by decide +kernel) ⟨Nat.le_trans (Nat.le_of_ble_eq_true rfl) hRf, Nat.le_trans (Nat.le_of_ble_eq_true rfl) hRl⟩) (z_preV (As := []) (hP.sub (ws' := [(h0, .inr (2, [.ref a1])), (a1, .inl (E.2.2.1, 67, .inr (.inl (endL (sumL L V n)))))]) [0, 1] rfl) hK 0 rfl rfl) rfl rfl hl.1 rfl (lv_room (Nat.le_of_ble_eq_true rfl)) dX1_roundedSumOf_71 ⟨Nat.zero_le _, Nat.zero_le _⟩) ?_
                refine lv_lstore_n (lv' := [(3, .long (rszF (limN (endL (sumL L V n))))), (2, .int (nI 0)), (0, .ref h0), (1, .ref g0)]) hx hb dX1_roundedSumOf_74 rfl hl (by decide) rfl (fun ls hl => ?_)
                refine lv_iload_n hx hb dX1_roundedSumOf_75 rfl (lv_at hl 1 rfl) ?_
                refine zn_if_eq (tgt := 87) hx hb dX1_roundedSumOf_76 (by decide) (by decide) (fun _ => ?_) (fun h => absurd h (by decide))
                refine lv_lload_n hx hb dX1_roundedSumOf_87 rfl (lv_at hl 0 rfl) ?_
                exact z_retl (by unfold realF; rw [if_neg (by rw [hng]; exact Bool.false_ne_true)]) (ret _ _ _ _ (hP) hS dX1_roundedSumOf_88)
              · refine lv_iconst (v := nI 1) hx hb dX1_roundedSumOf_56 (by decide) ?_
                refine lv_goto (tgt := 61) hx hb dX1_roundedSumOf_57 (by decide) ?_
                refine lv_istore_n (lv' := [(2, .int (nI 1)), (0, .ref h0), (1, .ref g0)]) hx hb dX1_roundedSumOf_61 rfl hl (by decide) rfl (fun ls hl => ?_)
                refine lv_iload_n hx hb dX1_roundedSumOf_62 rfl (lv_at hl 0 rfl) ?_
                refine zn_if_eq (tgt := 70) hx hb dX1_roundedSumOf_63 (by decide) (by decide) (fun h => absurd h (by decide)) (fun _ => ?_)
                refine lv_aload_n hx hb dX1_roundedSumOf_66 rfl (lv_at hl 1 rfl) ?_
                have hPc := hP.sub (ws' := [(h0, .inr (2, [.ref a1])), (a1, .inl (E.2.2.1, 67, .inr (.inl (carL (sumL L V n) 67))))]) [0, 1] rfl
                have hDc := hD.sub (ws' := [(h0, .inr (2, [.ref a1])), (a1, .inl (E.2.2.1, 67, .inr (.inl (carL (sumL L V n) 67))))]) [0, 1] (by decide) rfl
                refine zw_v (E := E) (wc := [(h0, .inr (2, [.ref a1])), (a1, .inl (E.2.2.1, 67, .inr (.inl (carL (sumL L V n) 67))))]) (wc' := [(h0, .inr (2, [.ref a1])), (a1, .inl (E.2.2.1, 67, .inr (.inl (carL (negL (carL (sumL L V n) 67)) 67))))]) (wr := [(g0, .inr (1, [.int k2, .ref b1, .ref b2, .int (nI n)])), (b1, .inl (E.2.1, 64, .inl T2)), (b2, .inl (E.2.2.1, 64, .inr (.inl V)))]) (va_runV ⟨hx, hb, hml, hown, hts⟩ (kX1_turnSign l E _ h0 a1 (carL (sumL L V n) 67)) (cwV 0 hts gX1_roundedSumOf_X1_turnSign rfl rfl rfl (by decide +kernel) ⟨Nat.le_trans (Nat.le_of_ble_eq_true rfl) hRf, Nat.le_trans (Nat.le_of_ble_eq_true rfl) hRl⟩) (z_preWV (As := []) hPc hDc hK 0 rfl rfl) rfl rfl hl.1 rfl (lv_room (Nat.le_of_ble_eq_true rfl)) dX1_roundedSumOf_67 ⟨Nat.zero_le _, Nat.zero_le _⟩) hP hD hS hA [0, 1] [2, 3, 4] rfl rfl (by decide) (by decide) (by decide) rfl (fun H locs hP hD hS => ?_)
                have hP := hP.sub (ws' := [(h0, .inr (2, [.ref a1])), (a1, .inl (E.2.2.1, 67, .inr (.inl (carL (negL (carL (sumL L V n) 67)) 67)))), (g0, .inr (1, [.int k2, .ref b1, .ref b2, .int (nI n)])), (b1, .inl (E.2.1, 64, .inl T2)), (b2, .inl (E.2.2.1, 64, .inr (.inl V)))]) [3, 4, 0, 1, 2] rfl
                have hD := hD.sub (ws' := [(h0, .inr (2, [.ref a1])), (a1, .inl (E.2.2.1, 67, .inr (.inl (carL (negL (carL (sumL L V n) 67)) 67)))), (g0, .inr (1, [.int k2, .ref b1, .ref b2, .int (nI n)])), (b1, .inl (E.2.1, 64, .inl T2)), (b2, .inl (E.2.2.1, 64, .inr (.inl V)))]) [3, 4, 0, 1, 2] (by decide) rfl
                refine lv_aload_n hx hb dX1_roundedSumOf_70 rfl (lv_at hl 1 rfl) ?_
                have hng : isNeg (sumL L V n) = true := by unfold isNeg; simp [c_3]
                have hen : endL (sumL L V n) = carL (negL (carL (sumL L V n) 67)) 67 := by unfold endL; rw [if_pos hng]
                rw [← hen] at hP hD
                refine zc_l (W.runV ⟨hx, hb, hml, hown, hts⟩ (kX1_roundedSize l E h0 a1 (endL (sumL L V n)) (limN (endL (sumL L V n))) (endL_dg _)) (cwV 0 hts gX1_roundedSumOf_X1_roundedSize rfl rfl rfl (by decide +kernel) ⟨Nat.le_trans (Nat.le_of_ble_eq_true rfl) hRf, Nat.le_trans (Nat.le_of_ble_eq_true rfl) hRl⟩) (z_preV (As := []) (hP.sub (ws' := [(h0, .inr (2, [.ref a1])), (a1, .inl (E.2.2.1, 67, .inr (.inl (endL (sumL L V n)))))]) [0, 1] rfl) hK 0 rfl rfl) rfl rfl hl.1 rfl (lv_room (Nat.le_of_ble_eq_true rfl)) dX1_roundedSumOf_71 ⟨Nat.zero_le _, Nat.zero_le _⟩) ?_
                refine lv_lstore_n (lv' := [(3, .long (rszF (limN (endL (sumL L V n))))), (2, .int (nI 1)), (0, .ref h0), (1, .ref g0)]) hx hb dX1_roundedSumOf_74 rfl hl (by decide) rfl (fun ls hl => ?_)
                refine lv_iload_n hx hb dX1_roundedSumOf_75 rfl (lv_at hl 1 rfl) ?_
                refine zn_if_eq (tgt := 87) hx hb dX1_roundedSumOf_76 (by decide) (by decide) (fun h => absurd h (by decide)) (fun _ => ?_)
                refine lv_lload_n hx hb dX1_roundedSumOf_79 rfl (lv_at hl 0 rfl) ?_
                refine lv_ldc2 (v := (-9223372036854775808)) hx hb hown (hts (.constantLong RX1 40 (-9223372036854775808)) (by decide +kernel)) dX1_roundedSumOf_80 ?_
                refine lv_lor hx hb dX1_roundedSumOf_83 ?_
                refine lv_goto (tgt := 88) hx hb dX1_roundedSumOf_84 (by decide) ?_
                exact z_retl (by unfold realF; rw [if_pos hng]) (ret _ _ _ _ (hP) hS dX1_roundedSumOf_88)
            · refine lv_aload_n hx hb dX1_roundedSumOf_31 rfl (lv_at hl 0 rfl) ?_
              refine lv_aload_n hx hb dX1_roundedSumOf_32 rfl (lv_at hl 1 rfl) ?_
              refine va_get (D := E.1) (ci := 1) (C := RX0) (T := TX0) (N := 4) hx hb hts hiX0 hown hK.1 hP 2 rfl rfl 2 (by decide) hf21 (fun _ h9 => h9) rfl dX1_roundedSumOf_33 ?_
              refine lv_iload_n hx hb dX1_roundedSumOf_36 rfl (lv_at hl 2 rfl) ?_
              refine zn_lald hx hb hK.1 hP 4 1 rfl rfl (by omega) (by decide) dX1_roundedSumOf_37 ?_
              have hPc := hP.sub (ws' := [(h0, .inr (2, [.ref a1])), (a1, .inl (E.2.2.1, 67, .inr (.inl (putN (setL L (fun _ => 0) 67) V i))))]) [0, 1] rfl
              have hDc := hD.sub (ws' := [(h0, .inr (2, [.ref a1])), (a1, .inl (E.2.2.1, 67, .inr (.inl (putN (setL L (fun _ => 0) 67) V i))))]) [0, 1] (by decide) rfl
              refine zw_v (E := E) (wc := [(h0, .inr (2, [.ref a1])), (a1, .inl (E.2.2.1, 67, .inr (.inl (putN (setL L (fun _ => 0) 67) V i))))]) (wc' := [(h0, .inr (2, [.ref a1])), (a1, .inl (E.2.2.1, 67, .inr (.inl (put3 (putN (setL L (fun _ => 0) 67) V i) (V i)))))]) (wr := [(g0, .inr (1, [.int k2, .ref b1, .ref b2, .int (nI n)])), (b1, .inl (E.2.1, 64, .inl T2)), (b2, .inl (E.2.2.1, 64, .inr (.inl V)))]) (va_runV ⟨hx, hb, hml, hown, hts⟩ (kX1_put l E _ h0 a1 (putN (setL L (fun _ => 0) 67) V i) (V i)) (cwV 1 hts gX1_roundedSumOf_X1_put rfl rfl rfl (by decide +kernel) ⟨Nat.le_trans (Nat.le_of_ble_eq_true rfl) hRf, Nat.le_trans (Nat.le_of_ble_eq_true rfl) hRl⟩) (z_preWV (As := [.long (V i)]) hPc hDc hK 0 rfl rfl) rfl rfl hl.1 rfl (lv_room (Nat.le_of_ble_eq_true rfl)) dX1_roundedSumOf_38 ⟨Nat.zero_le _, Nat.zero_le _⟩) hP hD hS hA [0, 1] [2, 3, 4] rfl rfl (by decide) (by decide) (by decide) rfl (fun H locs hP hD hS => ?_)
              have hP := hP.sub (ws' := [(h0, .inr (2, [.ref a1])), (a1, .inl (E.2.2.1, 67, .inr (.inl (put3 (putN (setL L (fun _ => 0) 67) V i) (V i))))), (g0, .inr (1, [.int k2, .ref b1, .ref b2, .int (nI n)])), (b1, .inl (E.2.1, 64, .inl T2)), (b2, .inl (E.2.2.1, 64, .inr (.inl V)))]) [3, 4, 0, 1, 2] rfl
              have hD := hD.sub (ws' := [(h0, .inr (2, [.ref a1])), (a1, .inl (E.2.2.1, 67, .inr (.inl (put3 (putN (setL L (fun _ => 0) 67) V i) (V i))))), (g0, .inr (1, [.int k2, .ref b1, .ref b2, .int (nI n)])), (b1, .inl (E.2.1, 64, .inl T2)), (b2, .inl (E.2.2.1, 64, .inr (.inl V)))]) [3, 4, 0, 1, 2] (by decide) rfl
              refine lv_iinc (v := nI (i + 1)) (lv' := [(2, .int (nI (i + 1))), (0, .ref h0), (1, .ref g0)]) hx hb dX1_roundedSumOf_41 hl (k := 2) rfl (z_inc _ 1) (by decide) rfl (fun ls hl => ?_)
              refine lv_goto (tgt := 23) hx hb dX1_roundedSumOf_44 (by decide) ?_
              exact ihlq (i + 1) ls _ _ (by omega) (by omega) (lv_sub hl [1, 2, 0] rfl) hP hD hS
        exact lq _ 0 ls _ _ (Nat.lt_succ_self _) (Nat.zero_le _) (lv_sub hl [1, 2, 0] rfl) hP hD hS
      · refine lv_aload_n hx hb dX1_roundedSumOf_8 rfl (lv_at hl 0 rfl) ?_
        refine va_get (D := E.1) (ci := 2) (C := RX1) (T := TX1) (N := 1) hx hb hts hiX1 hown hK.1 hP 0 rfl rfl 0 (by decide) hf11 (fun _ h9 => h9) rfl dX1_roundedSumOf_9 ?_
        refine lv_iload_n hx hb dX1_roundedSumOf_12 rfl (lv_at hl 2 rfl) ?_
        refine lv_lconst (v := 0) hx hb dX1_roundedSumOf_13 rfl ?_
        refine zn_last hx hb hK.1 hP hD hS 1 1 rfl rfl (by omega) (by decide) dX1_roundedSumOf_14 (fun H locs hP hD hS => ?_)
        have hP : va_P E.1 vwCl [(h0, .inr (2, [.ref a1])), (a1, .inl (E.2.2.1, 67, .inr (.inl (vp_updL (setL L (fun _ => 0) i) i 0)))), (g0, .inr (1, [.int k2, .ref b1, .ref b2, .int (nI n)])), (b1, .inl (E.2.1, 64, .inl T2)), (b2, .inl (E.2.2.1, 64, .inr (.inl V)))] H := hP
        have hD : va_D A [(h0, .inr (2, [.ref a1])), (a1, .inl (E.2.2.1, 67, .inr (.inl (vp_updL (setL L (fun _ => 0) i) i 0)))), (g0, .inr (1, [.int k2, .ref b1, .ref b2, .int (nI n)])), (b1, .inl (E.2.1, 64, .inl T2)), (b2, .inl (E.2.2.1, 64, .inr (.inl V)))] := hD
        refine lv_iinc (v := nI (i + 1)) (lv' := [(2, .int (nI (i + 1))), (0, .ref h0), (1, .ref g0)]) hx hb dX1_roundedSumOf_15 hl (k := 2) rfl (z_inc _ 1) (by decide) rfl (fun ls hl => ?_)
        refine lv_goto (tgt := 2) hx hb dX1_roundedSumOf_18 (by decide) ?_
        rw [setL_step (f := fun _ => 0) _ rfl] at hP hD
        exact ihlp (i + 1) ls _ _ (by omega) (by omega) (lv_sub hl [1, 2, 0] rfl) hP hD hS
  have hP : va_P E.1 vwCl [(h0, .inr (2, [.ref a1])), (a1, .inl (E.2.2.1, 67, .inr (.inl (setL L (fun _ => 0) 0)))), (g0, .inr (1, [.int k2, .ref b1, .ref b2, .int (nI n)])), (b1, .inl (E.2.1, 64, .inl T2)), (b2, .inl (E.2.2.1, 64, .inr (.inl V)))] s.heap := by rw [setL_0]; exact hP
  have hD : va_D A [(h0, .inr (2, [.ref a1])), (a1, .inl (E.2.2.1, 67, .inr (.inl (setL L (fun _ => 0) 0)))), (g0, .inr (1, [.int k2, .ref b1, .ref b2, .int (nI n)])), (b1, .inl (E.2.1, 64, .inl T2)), (b2, .inl (E.2.2.1, 64, .inr (.inl V)))] := by rw [setL_0]; exact hD
  exact lp _ 0 ls _ _ (Nat.lt_succ_self _) (Nat.zero_le _) (lv_sub hl [1, 2, 0] rfl) hP hD hS
