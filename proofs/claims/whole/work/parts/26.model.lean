/-! the model's doubles -/
def mv1 (L : Nat → Int64) (m : Int64) (s : Nat) (g : Int64) : Nat → Int64 := vp_updL L (s / 32) (L (s / 32) + g * (jshl (m &&& 4294967295) (nI (s % 32)) &&& 4294967295))
def mv2 (L : Nat → Int64) (m : Int64) (s : Nat) (g : Int64) : Nat → Int64 := vp_updL (mv1 L m s g) (s / 32 + 1) (mv1 L m s g (s / 32 + 1) + g * (jushr (jshl (m &&& 4294967295) (nI (s % 32))) (nI 32) + (jshl (jushr m (nI 32)) (nI (s % 32)) &&& 4294967295)))
def mv3 (L : Nat → Int64) (m : Int64) (s : Nat) (g : Int64) : Nat → Int64 := vp_updL (mv2 L m s g) (s / 32 + 2) (mv2 L m s g (s / 32 + 2) + g * jushr (jshl (jushr m (nI 32)) (nI (s % 32))) (nI 32))
theorem put3_mv (L : Nat → Int64) (x : Int64) : put3 L x = mv3 L (dgt x) (shN x) (sgN x) := rfl
def dgM (x : Int64) : Int64 := if expN x = 0 then x &&& 4503599627370495 else (x &&& 4503599627370495) + 4503599627370496
theorem and_i (a b : Int64) : (a &&& b).toInt32 = a.toInt32 &&& b.toInt32 := Int64.toInt32_and a b
theorem expM_i (x : Int64) : (jushr x (nI 52) &&& 2047).toInt32 = nI (expN x) := by rw [and_i]; exact expN_i x
def sgM (t : Bool) (x : Int64) : Int64 := if decide (x < 0) = t then 1 else (-1)
def mpN (L : Nat → Int64) (t : Bool) (V : Nat → Int64) : Nat → Nat → Int64
  | 0 => L
  | i + 1 => mv3 (mpN L t V i) (dgM (V i)) (shN (V i)) (sgM t (V i))
def msL (L : Nat → Int64) (t : Bool) (V : Nat → Int64) (n : Nat) : Nat → Int64 := mpN (setL L (fun _ => 0) 70) t V n
def btF (C : Nat → Int64) (i : Nat) : Int64 := jushr (C (i / 32)) (nI (i % 32)) &&& 1
def bl (N : Nat) : Nat := if N = 0 then 0 else Nat.log2 N + 1
theorem bl_of {N k : Nat} (h1 : N < 2 ^ k) (h2 : k = 0 ∨ 2 ^ (k - 1) ≤ N) : k = bl N := by
  unfold bl
  by_cases c : N = 0
  · rw [if_pos c]
    rcases h2 with q | q
    · exact q
    · have := Nat.two_pow_pos (k - 1); omega
  · rw [if_neg c]
    have a1 := (Nat.log2_lt c).mpr h1
    rcases h2 with q | q
    · subst q; simp at h1; omega
    · have a2 := (Nat.le_log2 c).mpr q
      omega
theorem bl_lt (N : Nat) : N < 2 ^ bl N := by
  unfold bl
  split
  · rename_i c; rw [c]; decide
  · rename_i c; exact (Nat.log2_lt c).mp (by omega)
theorem bl_le {N k : Nat} (h : N < 2 ^ k) : bl N ≤ k := by
  unfold bl
  split
  · omega
  · rename_i c; have := (Nat.log2_lt c).mpr h; omega
def m2F (N : Nat) : Nat := if N / 2 ^ (bl N - 53 - 1) % 2 = 1 ∧ (¬ N % 2 ^ (bl N - 53 - 1) = 0 ∨ N / 2 ^ (bl N - 53) % 2 = 1) then N / 2 ^ (bl N - 53) + 1 else N / 2 ^ (bl N - 53)
def nrF (N : Nat) : Int64 := if bl N - 53 = 0 then lN N else if m2F N = 9007199254740992 then (if bl N - 53 + 1 ≤ 2045 then (lN (bl N - 53 + 1) + 1) * 4503599627370496 + 4503599627370496 - 4503599627370496 else 9218868437227405312) else (if bl N - 53 ≤ 2045 then (lN (bl N - 53) + 1) * 4503599627370496 + lN (m2F N) - 4503599627370496 else 9218868437227405312)
theorem dec_lt {k l : Nat} (hk : k < 2 ^ 30) (hl : l < 2 ^ 30) : nI k - nI 1 < nI l ↔ k ≤ l := by
  rw [Int32.lt_iff_toInt_lt, pk_sub_toInt hk (by decide), show (nI l).toInt = (l : Int) from nI_toInt (by omega)]; omega
theorem dec_le {k l : Nat} (hk : k < 2 ^ 30) (hl : l < 2 ^ 30) : nI k - nI 1 ≤ nI l ↔ k ≤ l + 1 := by
  rw [Int32.le_iff_toInt_le, pk_sub_toInt hk (by decide), show (nI l).toInt = (l : Int) from nI_toInt (by omega)]; omega
theorem top_step {N k : Nat} (hk : 0 < k) (h : N < 2 ^ k) (c : lN (N / 2 ^ (k - 1) % 2) = 0) : N < 2 ^ (k - 1) := by
  have h1 : N / 2 ^ (k - 1) < 2 := by
    rw [Nat.div_lt_iff_lt_mul (Nat.two_pow_pos _)]
    have : 2 ^ k = 2 * 2 ^ (k - 1) := by rw [← Nat.pow_succ']; congr 1; omega
    omega
  have h2 : N / 2 ^ (k - 1) % 2 = 0 := by
    rcases (show N / 2 ^ (k - 1) % 2 = 0 ∨ N / 2 ^ (k - 1) % 2 = 1 by omega) with q | q
    · exact q
    · rw [q] at c; exact absurd c (by decide)
  have h3 : N / 2 ^ (k - 1) = 0 := by generalize N / 2 ^ (k - 1) = z at h1 h2 ⊢; omega
  rcases (Nat.div_eq_zero_iff).mp h3 with q | q
  · exact absurd q (Nat.ne_of_gt (Nat.two_pow_pos _))
  · exact q
theorem top_end {N k : Nat} (c : ¬ lN (N / 2 ^ (k - 1) % 2) = 0) : 2 ^ (k - 1) ≤ N := by
  rcases Nat.lt_or_ge N (2 ^ (k - 1)) with q | q
  · rw [Nat.div_eq_of_lt q] at c; exact absurd rfl c
  · exact q
theorem m_step {N k : Nat} (hk : 0 < k) : 2 * lN (N / 2 ^ k) + lN (N / 2 ^ (k - 1) % 2) = lN (N / 2 ^ (k - 1)) := by
  have e : N / 2 ^ k = N / 2 ^ (k - 1) / 2 := by rw [Nat.div_div_eq_div_mul, ← Nat.pow_succ]; congr 2; omega
  rw [show (2 : Int64) = lN 2 from rfl, lN_mul, lN_add, e]
  exact congrArg lN (by omega)
theorem more_t {N i : Nat} (h : true = decide (¬ N % 2 ^ i = 0)) : true = decide (¬ N % 2 ^ (i + 1) = 0) := by
  have h := of_decide_eq_true h.symm
  refine (decide_eq_true ?_).symm
  rw [Nat.mod_pow_succ]; omega
theorem lN1 {a : Nat} : lN (a % 2) = 1 ↔ a % 2 = 1 := by
  constructor
  · intro h
    rcases (show a % 2 = 0 ∨ a % 2 = 1 by omega) with q | q
    · rw [q] at h; exact absurd h (by decide)
    · exact q
  · intro h; rw [h]; rfl
theorem more_1 {N i : Nat} (c : lN (N / 2 ^ i % 2) = 1) : true = decide (¬ N % 2 ^ (i + 1) = 0) := by
  refine (decide_eq_true ?_).symm
  rw [Nat.mod_pow_succ, lN1.mp c]
  have := Nat.two_pow_pos i; omega
theorem more_0 {N i : Nat} (h : false = decide (¬ N % 2 ^ i = 0)) (c : ¬ lN (N / 2 ^ i % 2) = 1) : false = decide (¬ N % 2 ^ (i + 1) = 0) := by
  have h := of_decide_eq_false h.symm
  refine (decide_eq_false ?_).symm
  rw [Nat.mod_pow_succ]
  have : N / 2 ^ i % 2 = 0 := by
    rcases (show N / 2 ^ i % 2 = 0 ∨ N / 2 ^ i % 2 = 1 by omega) with q | q
    · exact q
    · exact absurd (lN1.mpr q) c
  rw [this]; omega
theorem lrem2 {a : Nat} (h : a < 2 ^ 62) : lN a - lN a / 2 * 2 = lN (a % 2) := by
  have e : lN a / 2 = lN (a / 2) := by
    apply Int64.toInt_inj.mp
    rw [Int64.toInt_div, pf_lI (by omega), pf_lI (by omega), show (2 : Int64).toInt = 2 from rfl]
    have : Int.tdiv (a : Int) 2 = (a : Int) / 2 := Int.tdiv_eq_ediv_of_nonneg (by omega)
    rw [this, Int.bmod_def]
    omega
  rw [e, show (2 : Int64) = lN 2 from rfl, lN_mul]
  have : a = a % 2 + a / 2 * 2 := by omega
  have e2 : lN a = lN (a % 2) + lN (a / 2 * 2) := by rw [lN_add, ← this]
  rw [e2, Int64.add_sub_cancel]
theorem lNeq {a b : Nat} (ha : a < 2 ^ 64) (hb : b < 2 ^ 64) : lN a = lN b ↔ a = b := ⟨fun h => by have := congrArg (fun x => x.toBitVec.toNat) h; simpa [wb_tn ha, wb_tn hb] using this, fun h => by rw [h]⟩
theorem m53 {N : Nat} : N / 2 ^ (bl N - 53) < 2 ^ 53 := by
  rw [Nat.div_lt_iff_lt_mul (Nat.two_pow_pos _), ← Nat.pow_add]
  exact Nat.lt_of_lt_of_le (bl_lt N) (Nat.pow_le_pow_right (by decide) (by omega))
theorem m2_lt (N : Nat) : m2F N ≤ 2 ^ 53 := by unfold m2F; have := @m53 N; split <;> omega
/-- the number that digits are -/
def vaD (D : Nat → Nat) : Nat → Nat
  | 0 => 0
  | j + 1 => vaD D j + D j * 2 ^ (32 * j)
theorem vaD_lt {D : Nat → Nat} {n : Nat} (h : ∀ j, j < n → D j < 2 ^ 32) : vaD D n < 2 ^ (32 * n) := by
  induction n with
  | zero => exact Nat.lt_add_one 0
  | succ n ih =>
    have a := ih (fun j hj => h j (by omega))
    have b := h n (by omega)
    show vaD D n + D n * 2 ^ (32 * n) < _
    have e : 2 ^ (32 * (n + 1)) = 2 ^ 32 * 2 ^ (32 * n) := by rw [← Nat.pow_add]; congr 1; omega
    have c : (D n + 1) * 2 ^ (32 * n) ≤ 2 ^ 32 * 2 ^ (32 * n) := Nat.mul_le_mul_right _ (by omega)
    rw [Nat.add_mul, Nat.one_mul] at c
    omega
theorem vaD_bit {D : Nat → Nat} {n : Nat} (h : ∀ j, j < n → D j < 2 ^ 32) {i : Nat} (hi : i < 32 * n) : vaD D n / 2 ^ i % 2 = D (i / 32) / 2 ^ (i % 32) % 2 := by
  induction n with
  | zero => omega
  | succ n ih =>
    show (vaD D n + D n * 2 ^ (32 * n)) / 2 ^ i % 2 = _
    by_cases c : i < 32 * n
    · rw [← ih (fun j hj => h j (by omega)) c]
      have e : D n * 2 ^ (32 * n) = 2 ^ i * (2 * (D n * 2 ^ (32 * n - i - 1))) := by
        have : 2 ^ (32 * n) = 2 ^ i * (2 * 2 ^ (32 * n - i - 1)) := by rw [← Nat.pow_succ', ← Nat.pow_add]; congr 1; omega
        rw [this, Nat.mul_left_comm, Nat.mul_left_comm (D n) 2]
      rw [e, Nat.add_mul_div_left _ _ (Nat.two_pow_pos _)]
      omega
    · have hl := vaD_lt (n := n) (D := D) (fun j hj => h j (by omega))
      have e : i = 32 * n + i % 32 := by omega
      have e2 : i / 32 = n := by omega
      rw [e2, e, Nat.pow_add, ← Nat.div_div_eq_div_mul, Nat.add_mul_div_right _ _ (Nat.two_pow_pos _), Nat.div_eq_of_lt hl, Nat.zero_add]
      congr 2
      rw [show (32 * n + i % 32) % 32 = i % 32 by omega]
def cvN (L : Nat → Int64) : Nat := vaD (fun j => uN (L j) % 2 ^ 32) 70
theorem cvN_bl (L : Nat → Int64) : bl (cvN L) ≤ 32 * 70 := bl_le (vaD_lt (n := 70) (fun j _ => Nat.mod_lt _ (by decide)))
theorem cv_bit {L C : Nat → Int64} (hC : C = carL L 70) : ∀ i, i < 2240 → btF C i = lN (cvN C / 2 ^ i % 2) := by
  intro i hi
  unfold cvN
  rw [vaD_bit (n := 70) (fun j _ => Nat.mod_lt _ (by decide)) (by omega)]
  unfold btF
  obtain ⟨m, h1, h2⟩ : ∃ m, m < 2 ^ 32 ∧ C (i / 32) = lN m := by
    rw [hC]; unfold carL; rw [if_pos (by omega)]; exact pf_andw _
  show _ = lN (uN (C (i / 32)) % 2 ^ 32 / 2 ^ (i % 32) % 2)
  rw [h2, show uN (lN m) = m from wb_tn (by omega), Nat.mod_eq_of_lt h1]
  exact wb_bit (by omega) (by omega)
def nng (L : Nat → Int64) : Bool := decide (¬ car L 70 < 0)
def rlM (C V : Nat → Int64) (n : Nat) : Int64 := if nng (msL C false V n) = true then nrF (cvN (carL (msL C false V n) 70)) else if nng (msL (carL (msL C false V n) 70) true V n) = true then nrF (cvN (carL (msL (carL (msL C false V n) 70) true V n) 70)) ||| (-9223372036854775808) else nrF (cvN (carL (msL (carL (msL C false V n) 70) true V n) 70))
def rlC (C V : Nat → Int64) (n : Nat) : Nat → Int64 := if nng (msL C false V n) = true then carL (msL C false V n) 70 else carL (msL (carL (msL C false V n) 70) true V n) 70
def mrA (n : Nat) (K M : Nat → Nat) (V : Nat → Nat → Int64) (C : Nat → Int64) (f : Int32) : Int64 := (fok n K f 1).elim 0 (fun j => rlM C (V j) (M j))
def mrC (n : Nat) (K M : Nat → Nat) (V : Nat → Nat → Int64) (C : Nat → Int64) (f : Int32) : Nat → Int64 := (fok n K f 1).elim C (fun j => rlC C (V j) (M j))
theorem mrA_s {n : Nat} {K M : Nat → Nat} {V : Nat → Nat → Int64} {C : Nat → Int64} {f : Int32} {j : Nat} (h : fok n K f 1 = some j) : mrA n K M V C f = rlM C (V j) (M j) := by unfold mrA; rw [h]; simp only [Option.elim]
theorem mrC_s {n : Nat} {K M : Nat → Nat} {V : Nat → Nat → Int64} {C : Nat → Int64} {f : Int32} {j : Nat} (h : fok n K f 1 = some j) : mrC n K M V C f = rlC C (V j) (M j) := by unfold mrC; rw [h]; simp only [Option.elim]
theorem rlM_0 {C V : Nat → Int64} {n : Nat} (h : nng (msL C false V n) = true) : nrF (cvN (carL (msL C false V n) 70)) = rlM C V n := by unfold rlM; rw [if_pos h]
theorem rlM_1 {C V : Nat → Int64} {n : Nat} (h : nng (msL C false V n) = false) (h2 : nng (msL (carL (msL C false V n) 70) true V n) = true) : nrF (cvN (carL (msL (carL (msL C false V n) 70) true V n) 70)) ||| (-9223372036854775808) = rlM C V n := by unfold rlM; rw [if_neg (by rw [h]; exact Bool.false_ne_true), if_pos h2]
theorem rlM_2 {C V : Nat → Int64} {n : Nat} (h : nng (msL C false V n) = false) (h2 : nng (msL (carL (msL C false V n) 70) true V n) = false) : nrF (cvN (carL (msL (carL (msL C false V n) 70) true V n) 70)) = rlM C V n := by unfold rlM; rw [if_neg (by rw [h]; exact Bool.false_ne_true), if_neg (by rw [h2]; exact Bool.false_ne_true)]
theorem rlC_0 {C V : Nat → Int64} {n : Nat} (h : nng (msL C false V n) = true) : rlC C V n = carL (msL C false V n) 70 := by unfold rlC; rw [if_pos h]
theorem rlC_1 {C V : Nat → Int64} {n : Nat} (h : nng (msL C false V n) = false) : rlC C V n = carL (msL (carL (msL C false V n) 70) true V n) 70 := by unfold rlC; rw [if_neg (by rw [h]; exact Bool.false_ne_true)]
set_option maxHeartbeats 4000000 in
set_option maxRecDepth 100000 in
theorem kX4_move (l : Launch) (E : zE) (sz : Nat) (m0 k0 q0 t0 v0 c0 o0 s0 j0 r0 f0 g0 h0 : Nat) (cd : Int32) (n : Nat) (K M : Nat → Nat) (TT : Nat → Int32) (VV CC : Nat → Int64) (OO : Nat → Nat) (b : Nat) (S J : Nat → Nat) (RR : Nat → Bool) (w1 w2 w3 w4 : Int32) (SF SM FD : Nat → Nat) (hn : n ≤ 12) (m_ : Int64) (s_ : Nat) (hs_ : s_ < 2047) (g_ : Int64) : Met l yX4_move wsX4_move (rmL 0) (va_Pc [.ref m0, .long m_, .int (nI s_), .long g_] (zS E (mW E m0 k0 q0 t0 v0 c0 o0 s0 j0 r0 f0 g0 h0 cd n K M TT VV CC OO b S J RR w1 w2 w3 w4 SF SM FD) sz)) (va_Qv (fun (_ : Unit) => True) (fun _ t9 => zW E (mW E m0 k0 q0 t0 v0 c0 o0 s0 j0 r0 f0 g0 h0 cd n K M TT VV (mv3 CC m_ s_ g_) OO b S J RR w1 w2 w3 w4 SF SM FD) t9) (va_A (mW E m0 k0 q0 t0 v0 c0 o0 s0 j0 r0 f0 g0 h0 cd n K M TT VV CC OO b S J RR w1 w2 w3 w4 SF SM FD) sz)) 0 0 (va_A (mW E m0 k0 q0 t0 v0 c0 o0 s0 j0 r0 f0 g0 h0 cd n K M TT VV CC OO b S J RR w1 w2 w3 w4 SF SM FD) sz) := by
  refine z_ofWv (cc := cX4_move) (maxL := 12) (own := RX4) (by decide) rfl rfl (Nat.le_of_ble_eq_true rfl) ?_
  intro p e s m args below meth c R Q A B hP hD hA ret ls hl
  obtain ⟨hx, hb, hml, hown, hts, hK, hRf, hRl⟩ := B
  have hiX4 : ∀ w ∈ wsX40, w ∈ wsX4_move := by decide +kernel
  have hf23 := hts (.fieldLink RX4 23 "ExactFoldsModel" "cells" "[J") (by decide +kernel)
  have hS : va_S A s.heap s.heap [] := va_S.rf
  have hl : lv_has ls 12 [(0, .ref m0), (1, .long m_), (3, .int (nI s_)), (4, .long g_)] := hl
  refine lv_iload_n hx hb dX4_move_0 rfl (lv_at hl 2 rfl) ?_
  refine lv_bipush (v := nI 32) hx hb dX4_move_1 (by decide) ?_
  refine zn_idiv hx hb (by omega) (by omega) (by omega) dX4_move_3 ?_
  refine lv_istore (lv' := [(6, .int (nI (s_ / 32))), (0, .ref m0), (1, .long m_), (3, .int (nI s_)), (4, .long g_)]) hx hb dX4_move_4 hl (by decide) rfl (fun ls hl => ?_)
  refine lv_iload_n hx hb dX4_move_6 rfl (lv_at hl 3 rfl) ?_
  refine lv_bipush (v := nI 32) hx hb dX4_move_7 (by decide) ?_
  refine zn_irem hx hb (by omega) (by omega) (by omega) dX4_move_9 ?_
  refine lv_istore (lv' := [(7, .int (nI (s_ % 32))), (6, .int (nI (s_ / 32))), (0, .ref m0), (1, .long m_), (3, .int (nI s_)), (4, .long g_)]) hx hb dX4_move_10 hl (by decide) rfl (fun ls hl => ?_)
  refine lv_lload_n hx hb dX4_move_12 rfl (lv_at hl 3 rfl) ?_
  refine lv_ldc2 (v := 4294967295) hx hb hown (hts (.constantLong RX4 101 (4294967295)) (by decide +kernel)) dX4_move_13 ?_
  refine lv_land hx hb dX4_move_16 ?_
  refine lv_iload hx hb dX4_move_17 (lv_at hl 0 rfl) ?_
  refine lv_lshl (v := jshl (m_ &&& 4294967295) (nI (s_ % 32))) hx hb dX4_move_19 rfl ?_
  refine lv_lstore (lv' := [(8, .long (jshl (m_ &&& 4294967295) (nI (s_ % 32)))), (7, .int (nI (s_ % 32))), (6, .int (nI (s_ / 32))), (0, .ref m0), (1, .long m_), (3, .int (nI s_)), (4, .long g_)]) hx hb dX4_move_20 hl (by decide) rfl (fun ls hl => ?_)
  refine lv_lload_n hx hb dX4_move_22 rfl (lv_at hl 4 rfl) ?_
  refine lv_bipush (v := nI 32) hx hb dX4_move_23 (by decide) ?_
  refine lv_lushr (v := jushr m_ (nI 32)) hx hb dX4_move_25 rfl ?_
  refine lv_iload hx hb dX4_move_26 (lv_at hl 1 rfl) ?_
  refine lv_lshl (v := jshl (jushr m_ (nI 32)) (nI (s_ % 32))) hx hb dX4_move_28 rfl ?_
  refine lv_lstore (lv' := [(10, .long (jshl (jushr m_ (nI 32)) (nI (s_ % 32)))), (8, .long (jshl (m_ &&& 4294967295) (nI (s_ % 32)))), (7, .int (nI (s_ % 32))), (6, .int (nI (s_ / 32))), (0, .ref m0), (1, .long m_), (3, .int (nI s_)), (4, .long g_)]) hx hb dX4_move_29 hl (by decide) rfl (fun ls hl => ?_)
  refine lv_aload_n hx hb dX4_move_31 rfl (lv_at hl 4 rfl) ?_
  refine va_get (D := E.1) (ci := 5) (C := RX4) (T := TX4) (N := 19) hx hb hts hiX4 hown hK.1 hP 0 rfl rfl 6 (by decide) hf23 (fun _ h9 => h9) rfl dX4_move_32 ?_
  refine lv_iload hx hb dX4_move_35 (lv_at hl 3 rfl) ?_
  refine lv_dup2_11 hx hb dX4_move_37 rfl rfl ?_
  refine zn_lald hx hb hK.1 hP 5 1 rfl rfl (by omega) (by decide) dX4_move_38 ?_
  refine lv_lload hx hb dX4_move_39 (lv_at hl 7 rfl) ?_
  refine lv_lload hx hb dX4_move_41 (lv_at hl 1 rfl) ?_
  refine lv_ldc2 (v := 4294967295) hx hb hown (hts (.constantLong RX4 101 (4294967295)) (by decide +kernel)) dX4_move_43 ?_
  refine lv_land hx hb dX4_move_46 ?_
  refine lv_lmul hx hb dX4_move_47 ?_
  refine lv_ladd hx hb dX4_move_48 ?_
  refine zn_last hx hb hK.1 hP hD hS 5 1 rfl rfl (by omega) (by decide) dX4_move_49 (fun H locs hP hD hS => ?_)
  have hP : va_P E.1 vwCl (mW E m0 k0 q0 t0 v0 c0 o0 s0 j0 r0 f0 g0 h0 cd n K M TT VV (vp_updL CC (s_ / 32) ((CC (s_ / 32)) + (g_ * ((jshl (m_ &&& 4294967295) (nI (s_ % 32))) &&& 4294967295)))) OO b S J RR w1 w2 w3 w4 SF SM FD) H := hP
  have hD : va_D A (mW E m0 k0 q0 t0 v0 c0 o0 s0 j0 r0 f0 g0 h0 cd n K M TT VV (vp_updL CC (s_ / 32) ((CC (s_ / 32)) + (g_ * ((jshl (m_ &&& 4294967295) (nI (s_ % 32))) &&& 4294967295)))) OO b S J RR w1 w2 w3 w4 SF SM FD) := hD
  refine lv_aload_n hx hb dX4_move_50 rfl (lv_at hl 4 rfl) ?_
  refine va_get (D := E.1) (ci := 5) (C := RX4) (T := TX4) (N := 19) hx hb hts hiX4 hown hK.1 hP 0 rfl rfl 6 (by decide) hf23 (fun _ h9 => h9) rfl dX4_move_51 ?_
  refine lv_iload hx hb dX4_move_54 (lv_at hl 3 rfl) ?_
  refine lv_iconst (v := nI 1) hx hb dX4_move_56 (by decide) ?_
  refine zn_iadd hx hb dX4_move_57 ?_
  refine lv_dup2_11 hx hb dX4_move_58 rfl rfl ?_
  refine zn_lald hx hb hK.1 hP 5 1 rfl rfl (by omega) (by decide) dX4_move_59 ?_
  refine lv_lload hx hb dX4_move_60 (lv_at hl 7 rfl) ?_
  refine lv_lload hx hb dX4_move_62 (lv_at hl 1 rfl) ?_
  refine lv_bipush (v := nI 32) hx hb dX4_move_64 (by decide) ?_
  refine lv_lushr (v := jushr (jshl (m_ &&& 4294967295) (nI (s_ % 32))) (nI 32)) hx hb dX4_move_66 rfl ?_
  refine lv_lload hx hb dX4_move_67 (lv_at hl 0 rfl) ?_
  refine lv_ldc2 (v := 4294967295) hx hb hown (hts (.constantLong RX4 101 (4294967295)) (by decide +kernel)) dX4_move_69 ?_
  refine lv_land hx hb dX4_move_72 ?_
  refine lv_ladd hx hb dX4_move_73 ?_
  refine lv_lmul hx hb dX4_move_74 ?_
  refine lv_ladd hx hb dX4_move_75 ?_
  refine zn_last hx hb hK.1 hP hD hS 5 1 rfl rfl (by omega) (by decide) dX4_move_76 (fun H locs hP hD hS => ?_)
  have hP : va_P E.1 vwCl (mW E m0 k0 q0 t0 v0 c0 o0 s0 j0 r0 f0 g0 h0 cd n K M TT VV (vp_updL (vp_updL CC (s_ / 32) ((CC (s_ / 32)) + (g_ * ((jshl (m_ &&& 4294967295) (nI (s_ % 32))) &&& 4294967295)))) ((s_ / 32) + 1) (((vp_updL CC (s_ / 32) ((CC (s_ / 32)) + (g_ * ((jshl (m_ &&& 4294967295) (nI (s_ % 32))) &&& 4294967295)))) ((s_ / 32) + 1)) + (g_ * ((jushr (jshl (m_ &&& 4294967295) (nI (s_ % 32))) (nI 32)) + ((jshl (jushr m_ (nI 32)) (nI (s_ % 32))) &&& 4294967295))))) OO b S J RR w1 w2 w3 w4 SF SM FD) H := hP
  have hD : va_D A (mW E m0 k0 q0 t0 v0 c0 o0 s0 j0 r0 f0 g0 h0 cd n K M TT VV (vp_updL (vp_updL CC (s_ / 32) ((CC (s_ / 32)) + (g_ * ((jshl (m_ &&& 4294967295) (nI (s_ % 32))) &&& 4294967295)))) ((s_ / 32) + 1) (((vp_updL CC (s_ / 32) ((CC (s_ / 32)) + (g_ * ((jshl (m_ &&& 4294967295) (nI (s_ % 32))) &&& 4294967295)))) ((s_ / 32) + 1)) + (g_ * ((jushr (jshl (m_ &&& 4294967295) (nI (s_ % 32))) (nI 32)) + ((jshl (jushr m_ (nI 32)) (nI (s_ % 32))) &&& 4294967295))))) OO b S J RR w1 w2 w3 w4 SF SM FD) := hD
  refine lv_aload_n hx hb dX4_move_77 rfl (lv_at hl 4 rfl) ?_
  refine va_get (D := E.1) (ci := 5) (C := RX4) (T := TX4) (N := 19) hx hb hts hiX4 hown hK.1 hP 0 rfl rfl 6 (by decide) hf23 (fun _ h9 => h9) rfl dX4_move_78 ?_
  refine lv_iload hx hb dX4_move_81 (lv_at hl 3 rfl) ?_
  refine lv_iconst (v := nI 2) hx hb dX4_move_83 (by decide) ?_
  refine zn_iadd hx hb dX4_move_84 ?_
  refine lv_dup2_11 hx hb dX4_move_85 rfl rfl ?_
  refine zn_lald hx hb hK.1 hP 5 1 rfl rfl (by omega) (by decide) dX4_move_86 ?_
  refine lv_lload hx hb dX4_move_87 (lv_at hl 7 rfl) ?_
  refine lv_lload hx hb dX4_move_89 (lv_at hl 0 rfl) ?_
  refine lv_bipush (v := nI 32) hx hb dX4_move_91 (by decide) ?_
  refine lv_lushr (v := jushr (jshl (jushr m_ (nI 32)) (nI (s_ % 32))) (nI 32)) hx hb dX4_move_93 rfl ?_
  refine lv_lmul hx hb dX4_move_94 ?_
  refine lv_ladd hx hb dX4_move_95 ?_
  refine zn_last hx hb hK.1 hP hD hS 5 1 rfl rfl (by omega) (by decide) dX4_move_96 (fun H locs hP hD hS => ?_)
  have hP : va_P E.1 vwCl (mW E m0 k0 q0 t0 v0 c0 o0 s0 j0 r0 f0 g0 h0 cd n K M TT VV (vp_updL (vp_updL (vp_updL CC (s_ / 32) ((CC (s_ / 32)) + (g_ * ((jshl (m_ &&& 4294967295) (nI (s_ % 32))) &&& 4294967295)))) ((s_ / 32) + 1) (((vp_updL CC (s_ / 32) ((CC (s_ / 32)) + (g_ * ((jshl (m_ &&& 4294967295) (nI (s_ % 32))) &&& 4294967295)))) ((s_ / 32) + 1)) + (g_ * ((jushr (jshl (m_ &&& 4294967295) (nI (s_ % 32))) (nI 32)) + ((jshl (jushr m_ (nI 32)) (nI (s_ % 32))) &&& 4294967295))))) ((s_ / 32) + 2) (((vp_updL (vp_updL CC (s_ / 32) ((CC (s_ / 32)) + (g_ * ((jshl (m_ &&& 4294967295) (nI (s_ % 32))) &&& 4294967295)))) ((s_ / 32) + 1) (((vp_updL CC (s_ / 32) ((CC (s_ / 32)) + (g_ * ((jshl (m_ &&& 4294967295) (nI (s_ % 32))) &&& 4294967295)))) ((s_ / 32) + 1)) + (g_ * ((jushr (jshl (m_ &&& 4294967295) (nI (s_ % 32))) (nI 32)) + ((jshl (jushr m_ (nI 32)) (nI (s_ % 32))) &&& 4294967295))))) ((s_ / 32) + 2)) + (g_ * (jushr (jshl (jushr m_ (nI 32)) (nI (s_ % 32))) (nI 32))))) OO b S J RR w1 w2 w3 w4 SF SM FD) H := hP
  have hD : va_D A (mW E m0 k0 q0 t0 v0 c0 o0 s0 j0 r0 f0 g0 h0 cd n K M TT VV (vp_updL (vp_updL (vp_updL CC (s_ / 32) ((CC (s_ / 32)) + (g_ * ((jshl (m_ &&& 4294967295) (nI (s_ % 32))) &&& 4294967295)))) ((s_ / 32) + 1) (((vp_updL CC (s_ / 32) ((CC (s_ / 32)) + (g_ * ((jshl (m_ &&& 4294967295) (nI (s_ % 32))) &&& 4294967295)))) ((s_ / 32) + 1)) + (g_ * ((jushr (jshl (m_ &&& 4294967295) (nI (s_ % 32))) (nI 32)) + ((jshl (jushr m_ (nI 32)) (nI (s_ % 32))) &&& 4294967295))))) ((s_ / 32) + 2) (((vp_updL (vp_updL CC (s_ / 32) ((CC (s_ / 32)) + (g_ * ((jshl (m_ &&& 4294967295) (nI (s_ % 32))) &&& 4294967295)))) ((s_ / 32) + 1) (((vp_updL CC (s_ / 32) ((CC (s_ / 32)) + (g_ * ((jshl (m_ &&& 4294967295) (nI (s_ % 32))) &&& 4294967295)))) ((s_ / 32) + 1)) + (g_ * ((jushr (jshl (m_ &&& 4294967295) (nI (s_ % 32))) (nI 32)) + ((jshl (jushr m_ (nI 32)) (nI (s_ % 32))) &&& 4294967295))))) ((s_ / 32) + 2)) + (g_ * (jushr (jshl (jushr m_ (nI 32)) (nI (s_ % 32))) (nI 32))))) OO b S J RR w1 w2 w3 w4 SF SM FD) := hD
  exact ret _ _ _ _ (hP) hS dX4_move_97
set_option maxHeartbeats 4000000 in
set_option maxRecDepth 100000 in
theorem kX4_sum0 (l : Launch) (E : zE) (sz : Nat) (m0 k0 q0 t0 v0 c0 o0 s0 j0 r0 f0 g0 h0 : Nat) (cd : Int32) (n : Nat) (K M : Nat → Nat) (TT : Nat → Int32) (VV CC : Nat → Int64) (OO : Nat → Nat) (b : Nat) (S J : Nat → Nat) (RR : Nat → Bool) (w1 w2 w3 w4 : Int32) (SF SM FD : Nat → Nat) (hn : n ≤ 12) (hM : ∀ j, j < n → M j ≤ 64) (j : Nat) (hjj : j < n) : Met l yX4_sum wsX4_sum (rmL 1) (va_Pc [.ref m0, .int (nI j), .int (nI 0)] (zS E (mW E m0 k0 q0 t0 v0 c0 o0 s0 j0 r0 f0 g0 h0 cd n K M TT VV CC OO b S J RR w1 w2 w3 w4 SF SM FD) sz)) (va_Qi (fun (r9 : Int32) (_ : Unit) => r9 = bI (nng (msL CC false (vw VV j) (M j)))) (fun _ t9 => zW E (mW E m0 k0 q0 t0 v0 c0 o0 s0 j0 r0 f0 g0 h0 cd n K M TT VV (carL (msL CC false (vw VV j) (M j)) 70) OO b S J RR w1 w2 w3 w4 SF SM FD) t9) (va_A (mW E m0 k0 q0 t0 v0 c0 o0 s0 j0 r0 f0 g0 h0 cd n K M TT VV CC OO b S J RR w1 w2 w3 w4 SF SM FD) sz)) 0 0 (va_A (mW E m0 k0 q0 t0 v0 c0 o0 s0 j0 r0 f0 g0 h0 cd n K M TT VV CC OO b S J RR w1 w2 w3 w4 SF SM FD) sz) := by
  refine z_ofWz (cc := cX4_sum) (maxL := 10) (own := RX4) (by decide) rfl rfl (Nat.le_of_ble_eq_true rfl) ?_
  intro p e s m args below meth c R Q A B hP hD hA ret ls hl
  obtain ⟨hx, hb, hml, hown, hts, hK, hRf, hRl⟩ := B
  have hiX4 : ∀ w ∈ wsX40, w ∈ wsX4_sum := by decide +kernel
  have hf13 := hts (.fieldLink RX4 13 "ExactFoldsModel" "many" "[I") (by decide +kernel)
  have hf19 := hts (.fieldLink RX4 19 "ExactFoldsModel" "values" "[J") (by decide +kernel)
  have hf23 := hts (.fieldLink RX4 23 "ExactFoldsModel" "cells" "[J") (by decide +kernel)
  have hS : va_S A s.heap s.heap [] := va_S.rf
  have hl : lv_has ls 10 [(0, .ref m0), (1, .int (nI j)), (2, .int (nI 0))] := hl
  have hMj := hM j hjj
  refine lv_iconst (v := nI 0) hx hb dX4_sum_0 (by decide) ?_
  refine lv_istore_n (lv' := [(3, .int (nI 0)), (0, .ref m0), (1, .int (nI j)), (2, .int (nI 0))]) hx hb dX4_sum_1 rfl hl (by decide) rfl (fun ls hl => ?_)
  have lp : ∀ (fu : Nat) (i : Nat) (ls : Array Slot) (H : Heap) (locs : List Loc), 70 - i < fu → (i ≤ 70) → lv_has ls 10 [(0, .ref m0), (1, .int (nI j)), (2, .int (nI 0)), (3, .int (nI i))] → va_P E.1 vwCl (mW E m0 k0 q0 t0 v0 c0 o0 s0 j0 r0 f0 g0 h0 cd n K M TT VV (setL CC (fun _ => 0) i) OO b S J RR w1 w2 w3 w4 SF SM FD) H → va_D A (mW E m0 k0 q0 t0 v0 c0 o0 s0 j0 r0 f0 g0 h0 cd n K M TT VV (setL CC (fun _ => 0) i) OO b S J RR w1 w2 w3 w4 SF SM FD) → va_S A s.heap H locs → W p l e R s m args below meth c H locs 0 0 Q (F0 m 2 ls []) := by
    intro fu
    induction fu with
    | zero => intros; exact absurd (by assumption) (Nat.not_lt_zero _)
    | succ fu ihlp =>
      intro i ls H locs hfu hi hl hP hD hS
      refine lv_iload_n hx hb dX4_sum_2 rfl (lv_at hl 3 rfl) ?_
      refine lv_bipush (v := nI 70) hx hb dX4_sum_3 (by decide) ?_
      refine zn_icmp_ge (tgt := 21) hx hb dX4_sum_5 (by decide) (by omega) (by omega) (fun c_1 => ?_) (fun c_1 => ?_)
      · obtain rfl : i = 70 := by omega
        refine lv_bipush (v := nI 64) hx hb dX4_sum_21 (by decide) ?_
        refine lv_iload_n hx hb dX4_sum_23 rfl (lv_at hl 1 rfl) ?_
        refine zn_imul hx hb dX4_sum_24 ?_
        refine lv_istore_n (lv' := [(3, .int (nI (64 * j))), (0, .ref m0), (1, .int (nI j)), (2, .int (nI 0))]) hx hb dX4_sum_25 rfl hl (by decide) rfl (fun ls hl => ?_)
        have lq : ∀ (fu : Nat) (i : Nat) (ls : Array Slot) (H : Heap) (locs : List Loc), M j - i < fu → (i ≤ M j) → lv_has ls 10 [(0, .ref m0), (1, .int (nI j)), (2, .int (nI 0)), (3, .int (nI (64 * j + i)))] → va_P E.1 vwCl (mW E m0 k0 q0 t0 v0 c0 o0 s0 j0 r0 f0 g0 h0 cd n K M TT VV (mpN (setL CC (fun _ => 0) 70) false (vw VV j) i) OO b S J RR w1 w2 w3 w4 SF SM FD) H → va_D A (mW E m0 k0 q0 t0 v0 c0 o0 s0 j0 r0 f0 g0 h0 cd n K M TT VV (mpN (setL CC (fun _ => 0) 70) false (vw VV j) i) OO b S J RR w1 w2 w3 w4 SF SM FD) → va_S A s.heap H locs → W p l e R s m args below meth c H locs 0 0 Q (F0 m 26 ls []) := by
          intro fu
          induction fu with
          | zero => intros; exact absurd (by assumption) (Nat.not_lt_zero _)
          | succ fu ihlq =>
            intro i ls H locs hfu hi hl hP hD hS
            refine lv_iload_n hx hb dX4_sum_26 rfl (lv_at hl 3 rfl) ?_
            refine lv_bipush (v := nI 64) hx hb dX4_sum_27 (by decide) ?_
            refine lv_iload_n hx hb dX4_sum_29 rfl (lv_at hl 1 rfl) ?_
            refine zn_imul hx hb dX4_sum_30 ?_
            refine lv_aload_n hx hb dX4_sum_31 rfl (lv_at hl 0 rfl) ?_
            refine va_get (D := E.1) (ci := 5) (C := RX4) (T := TX4) (N := 19) hx hb hts hiX4 hown hK.1 hP 0 rfl rfl 3 (by decide) hf13 (fun _ h9 => h9) rfl dX4_sum_32 ?_
            refine lv_iload_n hx hb dX4_sum_35 rfl (lv_at hl 1 rfl) ?_
            refine zn_iald hx hb hK.1 hP 2 0 rfl rfl (by omega) (by decide) dX4_sum_36 ?_
            refine zn_iadd hx hb dX4_sum_37 ?_
            refine zn_icmp_ge (tgt := 135) hx hb dX4_sum_38 (by decide) (by omega) (by omega) (fun c_2 => ?_) (fun c_2 => ?_)
            · obtain rfl : i = M j := by omega
              refine lv_lconst (v := 0) hx hb dX4_sum_135 rfl ?_
              refine lv_lstore_n (lv' := [(3, .long 0), (0, .ref m0), (1, .int (nI j)), (2, .int (nI 0))]) hx hb dX4_sum_136 rfl hl (by decide) rfl (fun ls hl => ?_)
              refine lv_iconst (v := nI 0) hx hb dX4_sum_137 (by decide) ?_
              refine lv_istore (lv' := [(5, .int (nI 0)), (3, .long 0), (0, .ref m0), (1, .int (nI j)), (2, .int (nI 0))]) hx hb dX4_sum_138 hl (by decide) rfl (fun ls hl => ?_)
              have lr : ∀ (fu : Nat) (i : Nat) (L1 : Nat → Int64) (ls : Array Slot) (H : Heap) (locs : List Loc), 70 - i < fu → (i ≤ 70) → (∀ k, L1 k = if k < i then ((msL CC false (vw VV j) (M j)) k + car (msL CC false (vw VV j) (M j)) k) &&& 4294967295 else (msL CC false (vw VV j) (M j)) k) → lv_has ls 10 [(0, .ref m0), (1, .int (nI j)), (2, .int (nI 0)), (3, .long (car (msL CC false (vw VV j) (M j)) i)), (5, .int (nI i))] → va_P E.1 vwCl (mW E m0 k0 q0 t0 v0 c0 o0 s0 j0 r0 f0 g0 h0 cd n K M TT VV L1 OO b S J RR w1 w2 w3 w4 SF SM FD) H → va_D A (mW E m0 k0 q0 t0 v0 c0 o0 s0 j0 r0 f0 g0 h0 cd n K M TT VV L1 OO b S J RR w1 w2 w3 w4 SF SM FD) → va_S A s.heap H locs → W p l e R s m args below meth c H locs 0 0 Q (F0 m 140 ls []) := by
                intro fu
                induction fu with
                | zero => intros; exact absurd (by assumption) (Nat.not_lt_zero _)
                | succ fu ihlr =>
                  intro i L1 ls H locs hfu hi hL hl hP hD hS
                  refine lv_iload hx hb dX4_sum_140 (lv_at hl 4 rfl) ?_
                  refine lv_bipush (v := nI 70) hx hb dX4_sum_142 (by decide) ?_
                  refine zn_icmp_ge (tgt := 183) hx hb dX4_sum_144 (by decide) (by omega) (by omega) (fun c_3 => ?_) (fun c_3 => ?_)
                  · obtain rfl : i = 70 := by omega
                    refine lv_lload_n hx hb dX4_sum_183 rfl (lv_at hl 3 rfl) ?_
                    refine lv_lconst (v := 0) hx hb dX4_sum_184 rfl ?_
                    refine zl_lt (tgt := 193) hx hb dX4_sum_185 dX4_sum_186 (by decide) (fun c_4 => ?_) (fun c_4 => ?_)
                    · refine lv_iconst (v := nI 0) hx hb dX4_sum_193 (by decide) ?_
                      exact z_reti (by rw [show nng (msL CC false (vw VV j) (M j)) = false from by unfold nng; simp [c_4]]; rfl) (ret _ _ _ _ (by rw [show carL (msL CC false (vw VV j) (M j)) 70 = L1 from funext (fun k => (hL k).symm)]; exact hP) hS dX4_sum_194)
                    · refine lv_iconst (v := nI 1) hx hb dX4_sum_189 (by decide) ?_
                      refine lv_goto (tgt := 194) hx hb dX4_sum_190 (by decide) ?_
                      exact z_reti (by rw [show nng (msL CC false (vw VV j) (M j)) = true from by unfold nng; simp [c_4]]; rfl) (ret _ _ _ _ (by rw [show carL (msL CC false (vw VV j) (M j)) 70 = L1 from funext (fun k => (hL k).symm)]; exact hP) hS dX4_sum_194)
                  · have hLi : L1 i = (msL CC false (vw VV j) (M j)) i := by rw [hL, if_neg (by omega)]
                    refine lv_aload_n hx hb dX4_sum_147 rfl (lv_at hl 0 rfl) ?_
                    refine va_get (D := E.1) (ci := 5) (C := RX4) (T := TX4) (N := 19) hx hb hts hiX4 hown hK.1 hP 0 rfl rfl 6 (by decide) hf23 (fun _ h9 => h9) rfl dX4_sum_148 ?_
                    refine lv_iload hx hb dX4_sum_151 (lv_at hl 4 rfl) ?_
                    refine zn_lald hx hb hK.1 hP 5 1 rfl rfl (by omega) (by decide) dX4_sum_153 ?_
                    refine lv_lload_n hx hb dX4_sum_154 rfl (lv_at hl 3 rfl) ?_
                    refine lv_ladd hx hb dX4_sum_155 ?_
                    refine lv_lstore (lv' := [(6, .long ((L1 i) + (car (msL CC false (vw VV j) (M j)) i))), (0, .ref m0), (1, .int (nI j)), (2, .int (nI 0)), (3, .long (car (msL CC false (vw VV j) (M j)) i)), (5, .int (nI i))]) hx hb dX4_sum_156 hl (by decide) rfl (fun ls hl => ?_)
                    refine lv_lload hx hb dX4_sum_158 (lv_at hl 0 rfl) ?_
                    refine lv_bipush (v := nI 32) hx hb dX4_sum_160 (by decide) ?_
                    refine lv_lshr (v := jshr ((L1 i) + (car (msL CC false (vw VV j) (M j)) i)) (nI 32)) hx hb dX4_sum_162 rfl ?_
                    refine lv_lstore_n (lv' := [(3, .long (jshr ((L1 i) + (car (msL CC false (vw VV j) (M j)) i)) (nI 32))), (6, .long ((L1 i) + (car (msL CC false (vw VV j) (M j)) i))), (0, .ref m0), (1, .int (nI j)), (2, .int (nI 0)), (5, .int (nI i))]) hx hb dX4_sum_163 rfl hl (by decide) rfl (fun ls hl => ?_)
                    refine lv_aload_n hx hb dX4_sum_164 rfl (lv_at hl 2 rfl) ?_
                    refine va_get (D := E.1) (ci := 5) (C := RX4) (T := TX4) (N := 19) hx hb hts hiX4 hown hK.1 hP 0 rfl rfl 6 (by decide) hf23 (fun _ h9 => h9) rfl dX4_sum_165 ?_
                    refine lv_iload hx hb dX4_sum_168 (lv_at hl 5 rfl) ?_
                    refine lv_lload hx hb dX4_sum_170 (lv_at hl 1 rfl) ?_
                    refine lv_ldc2 (v := 4294967295) hx hb hown (hts (.constantLong RX4 101 (4294967295)) (by decide +kernel)) dX4_sum_172 ?_
                    refine lv_land hx hb dX4_sum_175 ?_
                    refine zn_last hx hb hK.1 hP hD hS 5 1 rfl rfl (by omega) (by decide) dX4_sum_176 (fun H locs hP hD hS => ?_)
                    have hP : va_P E.1 vwCl (mW E m0 k0 q0 t0 v0 c0 o0 s0 j0 r0 f0 g0 h0 cd n K M TT VV (vp_updL L1 i (((L1 i) + (car (msL CC false (vw VV j) (M j)) i)) &&& 4294967295)) OO b S J RR w1 w2 w3 w4 SF SM FD) H := hP
                    have hD : va_D A (mW E m0 k0 q0 t0 v0 c0 o0 s0 j0 r0 f0 g0 h0 cd n K M TT VV (vp_updL L1 i (((L1 i) + (car (msL CC false (vw VV j) (M j)) i)) &&& 4294967295)) OO b S J RR w1 w2 w3 w4 SF SM FD) := hD
                    refine lv_iinc (v := nI (i + 1)) (lv' := [(5, .int (nI (i + 1))), (3, .long (jshr ((L1 i) + (car (msL CC false (vw VV j) (M j)) i)) (nI 32))), (6, .long ((L1 i) + (car (msL CC false (vw VV j) (M j)) i))), (0, .ref m0), (1, .int (nI j)), (2, .int (nI 0))]) hx hb dX4_sum_177 hl (k := 5) rfl (z_inc _ 1) (by decide) rfl (fun ls hl => ?_)
                    refine lv_goto (tgt := 140) hx hb dX4_sum_180 (by decide) ?_
                    exact ihlr (i + 1) (vp_updL L1 i (((L1 i) + (car (msL CC false (vw VV j) (M j)) i)) &&& 4294967295)) ls _ _ (by omega) (by omega) (carL_step hL) (lv_sub hl [3, 4, 5, 1, 0] (by rw [show car (msL CC false (vw VV j) (M j)) (i + 1) = jshr (L1 i + car (msL CC false (vw VV j) (M j)) i) (nI 32) from by rw [hLi]; rfl]; rfl)) hP hD hS
              exact lr _ 0 (mpN (setL CC (fun _ => 0) 70) false (vw VV j) (M j)) ls _ _ (Nat.lt_succ_self _) (Nat.zero_le _) (fun k => (if_neg (by omega)).symm) (lv_sub hl [2, 3, 4, 1, 0] rfl) hP hD hS
            · refine lv_aload_n hx hb dX4_sum_41 rfl (lv_at hl 0 rfl) ?_
              refine va_get (D := E.1) (ci := 5) (C := RX4) (T := TX4) (N := 19) hx hb hts hiX4 hown hK.1 hP 0 rfl rfl 5 (by decide) hf19 (fun _ h9 => h9) rfl dX4_sum_42 ?_
              refine lv_iload_n hx hb dX4_sum_45 rfl (lv_at hl 3 rfl) ?_
              refine zn_lald hx hb hK.1 hP 4 1 rfl rfl (by omega) (by decide) dX4_sum_46 ?_
              refine lv_lstore (lv' := [(4, .long (VV (64 * j + i))), (0, .ref m0), (1, .int (nI j)), (2, .int (nI 0)), (3, .int (nI (64 * j + i)))]) hx hb dX4_sum_47 hl (by decide) rfl (fun ls hl => ?_)
              refine lv_lload hx hb dX4_sum_49 (lv_at hl 0 rfl) ?_
              refine lv_bipush (v := nI 52) hx hb dX4_sum_51 (by decide) ?_
              refine lv_lushr (v := jushr (VV (64 * j + i)) (nI 52)) hx hb dX4_sum_53 rfl ?_
              refine lv_ldc2 (v := 2047) hx hb hown (hts (.constantLong RX4 81 (2047)) (by decide +kernel)) dX4_sum_54 ?_
              refine lv_land hx hb dX4_sum_57 ?_
              refine lv_l2i (v := nI (expN (VV (64 * j + i)))) hx hb dX4_sum_58 (expM_i _) ?_
              refine lv_istore (lv' := [(6, .int (nI (expN (VV (64 * j + i))))), (4, .long (VV (64 * j + i))), (0, .ref m0), (1, .int (nI j)), (2, .int (nI 0)), (3, .int (nI (64 * j + i)))]) hx hb dX4_sum_59 hl (by decide) rfl (fun ls hl => ?_)
              refine lv_lload hx hb dX4_sum_61 (lv_at hl 1 rfl) ?_
              refine lv_ldc2 (v := 4503599627370495) hx hb hown (hts (.constantLong RX4 103 (4503599627370495)) (by decide +kernel)) dX4_sum_63 ?_
              refine lv_land hx hb dX4_sum_66 ?_
              refine lv_lstore (lv' := [(7, .long ((VV (64 * j + i)) &&& 4503599627370495)), (6, .int (nI (expN (VV (64 * j + i))))), (4, .long (VV (64 * j + i))), (0, .ref m0), (1, .int (nI j)), (2, .int (nI 0)), (3, .int (nI (64 * j + i)))]) hx hb dX4_sum_67 hl (by decide) rfl (fun ls hl => ?_)
              refine lv_lload hx hb dX4_sum_69 (lv_at hl 2 rfl) ?_
              refine lv_lconst (v := 0) hx hb dX4_sum_71 rfl ?_
              refine zl_ge (tgt := 80) hx hb dX4_sum_72 dX4_sum_73 (by decide) (fun c_5 => ?_) (fun c_5 => ?_)
              · refine lv_iconst (v := nI 0) hx hb dX4_sum_80 (by decide) ?_
                refine lv_istore (lv' := [(9, .int (nI 0)), (7, .long ((VV (64 * j + i)) &&& 4503599627370495)), (6, .int (nI (expN (VV (64 * j + i))))), (4, .long (VV (64 * j + i))), (0, .ref m0), (1, .int (nI j)), (2, .int (nI 0)), (3, .int (nI (64 * j + i)))]) hx hb dX4_sum_81 hl (by decide) rfl (fun ls hl => ?_)
                refine lv_aload_n hx hb dX4_sum_83 rfl (lv_at hl 4 rfl) ?_
                refine lv_iload hx hb dX4_sum_84 (lv_at hl 2 rfl) ?_
                refine zn_if_ne (tgt := 94) hx hb dX4_sum_86 (by decide) (by have := expN_lt (VV (64 * j + i)); omega) (fun c_6 => ?_) (fun c_6 => ?_)
                · refine lv_lload hx hb dX4_sum_94 (lv_at hl 1 rfl) ?_
                  refine lv_ldc2 (v := 4503599627370496) hx hb hown (hts (.constantLong RX4 105 (4503599627370496)) (by decide +kernel)) dX4_sum_96 ?_
                  refine lv_ladd hx hb dX4_sum_99 ?_
                  refine lv_iload hx hb dX4_sum_100 (lv_at hl 2 rfl) ?_
                  refine zn_if_ne (tgt := 109) hx hb dX4_sum_102 (by decide) (by have := expN_lt (VV (64 * j + i)); omega) (fun c_7 => ?_) (fun c_7 => ?_)
                  · refine lv_iload hx hb dX4_sum_109 (lv_at hl 2 rfl) ?_
                    refine lv_iconst (v := nI 1) hx hb dX4_sum_111 (by decide) ?_
                    refine zn_isub hx hb (by omega) dX4_sum_112 ?_
                    refine lv_iload hx hb dX4_sum_113 (lv_at hl 0 rfl) ?_
                    refine lv_iload_n hx hb dX4_sum_115 rfl (lv_at hl 6 rfl) ?_
                    refine zn_icmp_ne (tgt := 123) hx hb dX4_sum_116 (by decide) (by omega) (by omega) (fun c_8 => ?_) (fun c_8 => ?_)
                    · exact absurd rfl c_8
                    · refine lv_lconst (v := 1) hx hb dX4_sum_119 rfl ?_
                      refine lv_goto (tgt := 126) hx hb dX4_sum_120 (by decide) ?_
                      refine W.eq (g2 := F0 m 126 ls ([.long (sgM false (VV (64 * j + i))), .int (nI (shN (VV (64 * j + i)))), .long (dgM (VV (64 * j + i))), .ref m0])) (by rw [show dgM (VV (64 * j + i)) = ((VV (64 * j + i)) &&& 4503599627370495) + 4503599627370496 from by unfold dgM; rw [if_neg c_6], show shN (VV (64 * j + i)) = (expN (VV (64 * j + i))) - 1 from by unfold shN; rw [if_neg c_6], show sgM false (VV (64 * j + i)) = 1 from by unfold sgM; rw [if_pos (by rw [decide_eq_false c_5])]]) ?_
                      refine zall_v (wc' := (mW E m0 k0 q0 t0 v0 c0 o0 s0 j0 r0 f0 g0 h0 cd n K M TT VV (mv3 (mpN (setL CC (fun _ => 0) 70) false (vw VV j) i) (dgM (VV (64 * j + i))) (shN (VV (64 * j + i))) (sgM false (VV (64 * j + i)))) OO b S J RR w1 w2 w3 w4 SF SM FD)) (va_runV ⟨hx, hb, hml, hown, hts⟩ (kX4_move l E _ m0 k0 q0 t0 v0 c0 o0 s0 j0 r0 f0 g0 h0 cd n K M TT VV (mpN (setL CC (fun _ => 0) 70) false (vw VV j) i) OO b S J RR w1 w2 w3 w4 SF SM FD hn (dgM (VV (64 * j + i))) (shN (VV (64 * j + i))) (shN_lt _) (sgM false (VV (64 * j + i)))) (cwV 3 hts gX4_sum_X4_move rfl rfl rfl (by decide +kernel) ⟨Nat.le_trans (Nat.le_of_ble_eq_true rfl) hRf, Nat.le_trans (Nat.le_of_ble_eq_true rfl) hRl⟩) (z_preWV (As := [.long (dgM (VV (64 * j + i))), .int (nI (shN (VV (64 * j + i)))), .long (sgM false (VV (64 * j + i)))]) hP hD hK 0 rfl rfl) rfl rfl hl.1 rfl (lv_room (Nat.le_of_ble_eq_true rfl)) dX4_sum_126 ⟨Nat.zero_le _, Nat.zero_le _⟩) hD hS hA rfl (fun H locs hP hD hS => ?_)
                      refine lv_iinc (v := nI (64 * j + i + 1)) (lv' := [(3, .int (nI (64 * j + i + 1))), (9, .int (nI 0)), (7, .long ((VV (64 * j + i)) &&& 4503599627370495)), (6, .int (nI (expN (VV (64 * j + i))))), (4, .long (VV (64 * j + i))), (0, .ref m0), (1, .int (nI j)), (2, .int (nI 0))]) hx hb dX4_sum_129 hl (k := 7) rfl (z_inc _ 1) (by decide) rfl (fun ls hl => ?_)
                      refine lv_goto (tgt := 26) hx hb dX4_sum_132 (by decide) ?_
                      exact ihlq (i + 1) ls _ _ (by omega) (by omega) (lv_sub hl [5, 6, 7, 0] rfl) hP hD hS
                  · exact absurd c_7 c_6
                · refine lv_lload hx hb dX4_sum_89 (lv_at hl 1 rfl) ?_
                  refine lv_goto (tgt := 100) hx hb dX4_sum_91 (by decide) ?_
                  refine lv_iload hx hb dX4_sum_100 (lv_at hl 2 rfl) ?_
                  refine zn_if_ne (tgt := 109) hx hb dX4_sum_102 (by decide) (by have := expN_lt (VV (64 * j + i)); omega) (fun c_9 => ?_) (fun c_9 => ?_)
                  · exact absurd c_6 c_9
                  · refine lv_iconst (v := nI 0) hx hb dX4_sum_105 (by decide) ?_
                    refine lv_goto (tgt := 113) hx hb dX4_sum_106 (by decide) ?_
                    refine lv_iload hx hb dX4_sum_113 (lv_at hl 0 rfl) ?_
                    refine lv_iload_n hx hb dX4_sum_115 rfl (lv_at hl 6 rfl) ?_
                    refine zn_icmp_ne (tgt := 123) hx hb dX4_sum_116 (by decide) (by omega) (by omega) (fun c_10 => ?_) (fun c_10 => ?_)
                    · exact absurd rfl c_10
                    · refine lv_lconst (v := 1) hx hb dX4_sum_119 rfl ?_
                      refine lv_goto (tgt := 126) hx hb dX4_sum_120 (by decide) ?_
                      refine W.eq (g2 := F0 m 126 ls ([.long (sgM false (VV (64 * j + i))), .int (nI (shN (VV (64 * j + i)))), .long (dgM (VV (64 * j + i))), .ref m0])) (by rw [show dgM (VV (64 * j + i)) = (VV (64 * j + i)) &&& 4503599627370495 from by unfold dgM; rw [if_pos c_6], show shN (VV (64 * j + i)) = 0 from by unfold shN; rw [if_pos c_6], show sgM false (VV (64 * j + i)) = 1 from by unfold sgM; rw [if_pos (by rw [decide_eq_false c_5])]]) ?_
                      refine zall_v (wc' := (mW E m0 k0 q0 t0 v0 c0 o0 s0 j0 r0 f0 g0 h0 cd n K M TT VV (mv3 (mpN (setL CC (fun _ => 0) 70) false (vw VV j) i) (dgM (VV (64 * j + i))) (shN (VV (64 * j + i))) (sgM false (VV (64 * j + i)))) OO b S J RR w1 w2 w3 w4 SF SM FD)) (va_runV ⟨hx, hb, hml, hown, hts⟩ (kX4_move l E _ m0 k0 q0 t0 v0 c0 o0 s0 j0 r0 f0 g0 h0 cd n K M TT VV (mpN (setL CC (fun _ => 0) 70) false (vw VV j) i) OO b S J RR w1 w2 w3 w4 SF SM FD hn (dgM (VV (64 * j + i))) (shN (VV (64 * j + i))) (shN_lt _) (sgM false (VV (64 * j + i)))) (cwV 3 hts gX4_sum_X4_move rfl rfl rfl (by decide +kernel) ⟨Nat.le_trans (Nat.le_of_ble_eq_true rfl) hRf, Nat.le_trans (Nat.le_of_ble_eq_true rfl) hRl⟩) (z_preWV (As := [.long (dgM (VV (64 * j + i))), .int (nI (shN (VV (64 * j + i)))), .long (sgM false (VV (64 * j + i)))]) hP hD hK 0 rfl rfl) rfl rfl hl.1 rfl (lv_room (Nat.le_of_ble_eq_true rfl)) dX4_sum_126 ⟨Nat.zero_le _, Nat.zero_le _⟩) hD hS hA rfl (fun H locs hP hD hS => ?_)
                      refine lv_iinc (v := nI (64 * j + i + 1)) (lv' := [(3, .int (nI (64 * j + i + 1))), (9, .int (nI 0)), (7, .long ((VV (64 * j + i)) &&& 4503599627370495)), (6, .int (nI (expN (VV (64 * j + i))))), (4, .long (VV (64 * j + i))), (0, .ref m0), (1, .int (nI j)), (2, .int (nI 0))]) hx hb dX4_sum_129 hl (k := 7) rfl (z_inc _ 1) (by decide) rfl (fun ls hl => ?_)
                      refine lv_goto (tgt := 26) hx hb dX4_sum_132 (by decide) ?_
                      exact ihlq (i + 1) ls _ _ (by omega) (by omega) (lv_sub hl [5, 6, 7, 0] rfl) hP hD hS
              · refine lv_iconst (v := nI 1) hx hb dX4_sum_76 (by decide) ?_
                refine lv_goto (tgt := 81) hx hb dX4_sum_77 (by decide) ?_
                refine lv_istore (lv' := [(9, .int (nI 1)), (7, .long ((VV (64 * j + i)) &&& 4503599627370495)), (6, .int (nI (expN (VV (64 * j + i))))), (4, .long (VV (64 * j + i))), (0, .ref m0), (1, .int (nI j)), (2, .int (nI 0)), (3, .int (nI (64 * j + i)))]) hx hb dX4_sum_81 hl (by decide) rfl (fun ls hl => ?_)
                refine lv_aload_n hx hb dX4_sum_83 rfl (lv_at hl 4 rfl) ?_
                refine lv_iload hx hb dX4_sum_84 (lv_at hl 2 rfl) ?_
                refine zn_if_ne (tgt := 94) hx hb dX4_sum_86 (by decide) (by have := expN_lt (VV (64 * j + i)); omega) (fun c_11 => ?_) (fun c_11 => ?_)
                · refine lv_lload hx hb dX4_sum_94 (lv_at hl 1 rfl) ?_
                  refine lv_ldc2 (v := 4503599627370496) hx hb hown (hts (.constantLong RX4 105 (4503599627370496)) (by decide +kernel)) dX4_sum_96 ?_
                  refine lv_ladd hx hb dX4_sum_99 ?_
                  refine lv_iload hx hb dX4_sum_100 (lv_at hl 2 rfl) ?_
                  refine zn_if_ne (tgt := 109) hx hb dX4_sum_102 (by decide) (by have := expN_lt (VV (64 * j + i)); omega) (fun c_12 => ?_) (fun c_12 => ?_)
                  · refine lv_iload hx hb dX4_sum_109 (lv_at hl 2 rfl) ?_
                    refine lv_iconst (v := nI 1) hx hb dX4_sum_111 (by decide) ?_
                    refine zn_isub hx hb (by omega) dX4_sum_112 ?_
                    refine lv_iload hx hb dX4_sum_113 (lv_at hl 0 rfl) ?_
                    refine lv_iload_n hx hb dX4_sum_115 rfl (lv_at hl 6 rfl) ?_
                    refine zn_icmp_ne (tgt := 123) hx hb dX4_sum_116 (by decide) (by omega) (by omega) (fun c_13 => ?_) (fun c_13 => ?_)
                    · refine lv_ldc2 (v := (-1)) hx hb hown (hts (.constantLong RX4 107 (-1)) (by decide +kernel)) dX4_sum_123 ?_
                      refine W.eq (g2 := F0 m 126 ls ([.long (sgM false (VV (64 * j + i))), .int (nI (shN (VV (64 * j + i)))), .long (dgM (VV (64 * j + i))), .ref m0])) (by rw [show dgM (VV (64 * j + i)) = ((VV (64 * j + i)) &&& 4503599627370495) + 4503599627370496 from by unfold dgM; rw [if_neg c_11], show shN (VV (64 * j + i)) = (expN (VV (64 * j + i))) - 1 from by unfold shN; rw [if_neg c_11], show sgM false (VV (64 * j + i)) = (-1) from by unfold sgM; rw [if_neg (by rw [decide_eq_true c_5]; decide)]]) ?_
                      refine zall_v (wc' := (mW E m0 k0 q0 t0 v0 c0 o0 s0 j0 r0 f0 g0 h0 cd n K M TT VV (mv3 (mpN (setL CC (fun _ => 0) 70) false (vw VV j) i) (dgM (VV (64 * j + i))) (shN (VV (64 * j + i))) (sgM false (VV (64 * j + i)))) OO b S J RR w1 w2 w3 w4 SF SM FD)) (va_runV ⟨hx, hb, hml, hown, hts⟩ (kX4_move l E _ m0 k0 q0 t0 v0 c0 o0 s0 j0 r0 f0 g0 h0 cd n K M TT VV (mpN (setL CC (fun _ => 0) 70) false (vw VV j) i) OO b S J RR w1 w2 w3 w4 SF SM FD hn (dgM (VV (64 * j + i))) (shN (VV (64 * j + i))) (shN_lt _) (sgM false (VV (64 * j + i)))) (cwV 3 hts gX4_sum_X4_move rfl rfl rfl (by decide +kernel) ⟨Nat.le_trans (Nat.le_of_ble_eq_true rfl) hRf, Nat.le_trans (Nat.le_of_ble_eq_true rfl) hRl⟩) (z_preWV (As := [.long (dgM (VV (64 * j + i))), .int (nI (shN (VV (64 * j + i)))), .long (sgM false (VV (64 * j + i)))]) hP hD hK 0 rfl rfl) rfl rfl hl.1 rfl (lv_room (Nat.le_of_ble_eq_true rfl)) dX4_sum_126 ⟨Nat.zero_le _, Nat.zero_le _⟩) hD hS hA rfl (fun H locs hP hD hS => ?_)
                      refine lv_iinc (v := nI (64 * j + i + 1)) (lv' := [(3, .int (nI (64 * j + i + 1))), (9, .int (nI 1)), (7, .long ((VV (64 * j + i)) &&& 4503599627370495)), (6, .int (nI (expN (VV (64 * j + i))))), (4, .long (VV (64 * j + i))), (0, .ref m0), (1, .int (nI j)), (2, .int (nI 0))]) hx hb dX4_sum_129 hl (k := 7) rfl (z_inc _ 1) (by decide) rfl (fun ls hl => ?_)
                      refine lv_goto (tgt := 26) hx hb dX4_sum_132 (by decide) ?_
                      exact ihlq (i + 1) ls _ _ (by omega) (by omega) (lv_sub hl [5, 6, 7, 0] rfl) hP hD hS
                    · exact absurd c_13 (by decide)
                  · exact absurd c_12 c_11
                · refine lv_lload hx hb dX4_sum_89 (lv_at hl 1 rfl) ?_
                  refine lv_goto (tgt := 100) hx hb dX4_sum_91 (by decide) ?_
                  refine lv_iload hx hb dX4_sum_100 (lv_at hl 2 rfl) ?_
                  refine zn_if_ne (tgt := 109) hx hb dX4_sum_102 (by decide) (by have := expN_lt (VV (64 * j + i)); omega) (fun c_14 => ?_) (fun c_14 => ?_)
                  · exact absurd c_11 c_14
                  · refine lv_iconst (v := nI 0) hx hb dX4_sum_105 (by decide) ?_
                    refine lv_goto (tgt := 113) hx hb dX4_sum_106 (by decide) ?_
                    refine lv_iload hx hb dX4_sum_113 (lv_at hl 0 rfl) ?_
                    refine lv_iload_n hx hb dX4_sum_115 rfl (lv_at hl 6 rfl) ?_
                    refine zn_icmp_ne (tgt := 123) hx hb dX4_sum_116 (by decide) (by omega) (by omega) (fun c_15 => ?_) (fun c_15 => ?_)
                    · refine lv_ldc2 (v := (-1)) hx hb hown (hts (.constantLong RX4 107 (-1)) (by decide +kernel)) dX4_sum_123 ?_
                      refine W.eq (g2 := F0 m 126 ls ([.long (sgM false (VV (64 * j + i))), .int (nI (shN (VV (64 * j + i)))), .long (dgM (VV (64 * j + i))), .ref m0])) (by rw [show dgM (VV (64 * j + i)) = (VV (64 * j + i)) &&& 4503599627370495 from by unfold dgM; rw [if_pos c_11], show shN (VV (64 * j + i)) = 0 from by unfold shN; rw [if_pos c_11], show sgM false (VV (64 * j + i)) = (-1) from by unfold sgM; rw [if_neg (by rw [decide_eq_true c_5]; decide)]]) ?_
                      refine zall_v (wc' := (mW E m0 k0 q0 t0 v0 c0 o0 s0 j0 r0 f0 g0 h0 cd n K M TT VV (mv3 (mpN (setL CC (fun _ => 0) 70) false (vw VV j) i) (dgM (VV (64 * j + i))) (shN (VV (64 * j + i))) (sgM false (VV (64 * j + i)))) OO b S J RR w1 w2 w3 w4 SF SM FD)) (va_runV ⟨hx, hb, hml, hown, hts⟩ (kX4_move l E _ m0 k0 q0 t0 v0 c0 o0 s0 j0 r0 f0 g0 h0 cd n K M TT VV (mpN (setL CC (fun _ => 0) 70) false (vw VV j) i) OO b S J RR w1 w2 w3 w4 SF SM FD hn (dgM (VV (64 * j + i))) (shN (VV (64 * j + i))) (shN_lt _) (sgM false (VV (64 * j + i)))) (cwV 3 hts gX4_sum_X4_move rfl rfl rfl (by decide +kernel) ⟨Nat.le_trans (Nat.le_of_ble_eq_true rfl) hRf, Nat.le_trans (Nat.le_of_ble_eq_true rfl) hRl⟩) (z_preWV (As := [.long (dgM (VV (64 * j + i))), .int (nI (shN (VV (64 * j + i)))), .long (sgM false (VV (64 * j + i)))]) hP hD hK 0 rfl rfl) rfl rfl hl.1 rfl (lv_room (Nat.le_of_ble_eq_true rfl)) dX4_sum_126 ⟨Nat.zero_le _, Nat.zero_le _⟩) hD hS hA rfl (fun H locs hP hD hS => ?_)
                      refine lv_iinc (v := nI (64 * j + i + 1)) (lv' := [(3, .int (nI (64 * j + i + 1))), (9, .int (nI 1)), (7, .long ((VV (64 * j + i)) &&& 4503599627370495)), (6, .int (nI (expN (VV (64 * j + i))))), (4, .long (VV (64 * j + i))), (0, .ref m0), (1, .int (nI j)), (2, .int (nI 0))]) hx hb dX4_sum_129 hl (k := 7) rfl (z_inc _ 1) (by decide) rfl (fun ls hl => ?_)
                      refine lv_goto (tgt := 26) hx hb dX4_sum_132 (by decide) ?_
                      exact ihlq (i + 1) ls _ _ (by omega) (by omega) (lv_sub hl [5, 6, 7, 0] rfl) hP hD hS
                    · exact absurd c_15 (by decide)
        exact lq _ 0 ls _ _ (Nat.lt_succ_self _) (Nat.zero_le _) (lv_sub hl [1, 2, 3, 0] rfl) hP hD hS
      · refine lv_aload_n hx hb dX4_sum_8 rfl (lv_at hl 0 rfl) ?_
        refine va_get (D := E.1) (ci := 5) (C := RX4) (T := TX4) (N := 19) hx hb hts hiX4 hown hK.1 hP 0 rfl rfl 6 (by decide) hf23 (fun _ h9 => h9) rfl dX4_sum_9 ?_
        refine lv_iload_n hx hb dX4_sum_12 rfl (lv_at hl 3 rfl) ?_
        refine lv_lconst (v := 0) hx hb dX4_sum_13 rfl ?_
        refine zn_last hx hb hK.1 hP hD hS 5 1 rfl rfl (by omega) (by decide) dX4_sum_14 (fun H locs hP hD hS => ?_)
        have hP : va_P E.1 vwCl (mW E m0 k0 q0 t0 v0 c0 o0 s0 j0 r0 f0 g0 h0 cd n K M TT VV (vp_updL (setL CC (fun _ => 0) i) i 0) OO b S J RR w1 w2 w3 w4 SF SM FD) H := hP
        have hD : va_D A (mW E m0 k0 q0 t0 v0 c0 o0 s0 j0 r0 f0 g0 h0 cd n K M TT VV (vp_updL (setL CC (fun _ => 0) i) i 0) OO b S J RR w1 w2 w3 w4 SF SM FD) := hD
        refine lv_iinc (v := nI (i + 1)) (lv' := [(3, .int (nI (i + 1))), (0, .ref m0), (1, .int (nI j)), (2, .int (nI 0))]) hx hb dX4_sum_15 hl (k := 3) rfl (z_inc _ 1) (by decide) rfl (fun ls hl => ?_)
        refine lv_goto (tgt := 2) hx hb dX4_sum_18 (by decide) ?_
        have hP : va_P E.1 vwCl (mW E m0 k0 q0 t0 v0 c0 o0 s0 j0 r0 f0 g0 h0 cd n K M TT VV (setL CC (fun _ => 0) (i + 1)) OO b S J RR w1 w2 w3 w4 SF SM FD) H := by rw [← setL_step (f := fun _ => 0) 0 rfl]; exact hP
        have hD : va_D A (mW E m0 k0 q0 t0 v0 c0 o0 s0 j0 r0 f0 g0 h0 cd n K M TT VV (setL CC (fun _ => 0) (i + 1)) OO b S J RR w1 w2 w3 w4 SF SM FD) := by rw [← setL_step (f := fun _ => 0) 0 rfl]; exact hD
        exact ihlp (i + 1) ls _ _ (by omega) (by omega) (lv_sub hl [1, 2, 3, 0] rfl) hP hD hS
  have hP : va_P E.1 vwCl (mW E m0 k0 q0 t0 v0 c0 o0 s0 j0 r0 f0 g0 h0 cd n K M TT VV (setL CC (fun _ => 0) 0) OO b S J RR w1 w2 w3 w4 SF SM FD) s.heap := by rw [setL_0]; exact hP
  have hD : va_D A (mW E m0 k0 q0 t0 v0 c0 o0 s0 j0 r0 f0 g0 h0 cd n K M TT VV (setL CC (fun _ => 0) 0) OO b S J RR w1 w2 w3 w4 SF SM FD) := by rw [setL_0]; exact hD
  exact lp _ 0 ls _ _ (Nat.lt_succ_self _) (Nat.zero_le _) (lv_sub hl [1, 2, 3, 0] rfl) hP hD hS
set_option maxHeartbeats 4000000 in
set_option maxRecDepth 100000 in
theorem kX4_sum1 (l : Launch) (E : zE) (sz : Nat) (m0 k0 q0 t0 v0 c0 o0 s0 j0 r0 f0 g0 h0 : Nat) (cd : Int32) (n : Nat) (K M : Nat → Nat) (TT : Nat → Int32) (VV CC : Nat → Int64) (OO : Nat → Nat) (b : Nat) (S J : Nat → Nat) (RR : Nat → Bool) (w1 w2 w3 w4 : Int32) (SF SM FD : Nat → Nat) (hn : n ≤ 12) (hM : ∀ j, j < n → M j ≤ 64) (j : Nat) (hjj : j < n) : Met l yX4_sum wsX4_sum (rmL 1) (va_Pc [.ref m0, .int (nI j), .int (nI 1)] (zS E (mW E m0 k0 q0 t0 v0 c0 o0 s0 j0 r0 f0 g0 h0 cd n K M TT VV CC OO b S J RR w1 w2 w3 w4 SF SM FD) sz)) (va_Qi (fun (r9 : Int32) (_ : Unit) => r9 = bI (nng (msL CC true (vw VV j) (M j)))) (fun _ t9 => zW E (mW E m0 k0 q0 t0 v0 c0 o0 s0 j0 r0 f0 g0 h0 cd n K M TT VV (carL (msL CC true (vw VV j) (M j)) 70) OO b S J RR w1 w2 w3 w4 SF SM FD) t9) (va_A (mW E m0 k0 q0 t0 v0 c0 o0 s0 j0 r0 f0 g0 h0 cd n K M TT VV CC OO b S J RR w1 w2 w3 w4 SF SM FD) sz)) 0 0 (va_A (mW E m0 k0 q0 t0 v0 c0 o0 s0 j0 r0 f0 g0 h0 cd n K M TT VV CC OO b S J RR w1 w2 w3 w4 SF SM FD) sz) := by
  refine z_ofWz (cc := cX4_sum) (maxL := 10) (own := RX4) (by decide) rfl rfl (Nat.le_of_ble_eq_true rfl) ?_
  intro p e s m args below meth c R Q A B hP hD hA ret ls hl
  obtain ⟨hx, hb, hml, hown, hts, hK, hRf, hRl⟩ := B
  have hiX4 : ∀ w ∈ wsX40, w ∈ wsX4_sum := by decide +kernel
  have hf13 := hts (.fieldLink RX4 13 "ExactFoldsModel" "many" "[I") (by decide +kernel)
  have hf19 := hts (.fieldLink RX4 19 "ExactFoldsModel" "values" "[J") (by decide +kernel)
  have hf23 := hts (.fieldLink RX4 23 "ExactFoldsModel" "cells" "[J") (by decide +kernel)
  have hS : va_S A s.heap s.heap [] := va_S.rf
  have hl : lv_has ls 10 [(0, .ref m0), (1, .int (nI j)), (2, .int (nI 1))] := hl
  have hMj := hM j hjj
  refine lv_iconst (v := nI 0) hx hb dX4_sum_0 (by decide) ?_
  refine lv_istore_n (lv' := [(3, .int (nI 0)), (0, .ref m0), (1, .int (nI j)), (2, .int (nI 1))]) hx hb dX4_sum_1 rfl hl (by decide) rfl (fun ls hl => ?_)
  have lp : ∀ (fu : Nat) (i : Nat) (ls : Array Slot) (H : Heap) (locs : List Loc), 70 - i < fu → (i ≤ 70) → lv_has ls 10 [(0, .ref m0), (1, .int (nI j)), (2, .int (nI 1)), (3, .int (nI i))] → va_P E.1 vwCl (mW E m0 k0 q0 t0 v0 c0 o0 s0 j0 r0 f0 g0 h0 cd n K M TT VV (setL CC (fun _ => 0) i) OO b S J RR w1 w2 w3 w4 SF SM FD) H → va_D A (mW E m0 k0 q0 t0 v0 c0 o0 s0 j0 r0 f0 g0 h0 cd n K M TT VV (setL CC (fun _ => 0) i) OO b S J RR w1 w2 w3 w4 SF SM FD) → va_S A s.heap H locs → W p l e R s m args below meth c H locs 0 0 Q (F0 m 2 ls []) := by
    intro fu
    induction fu with
    | zero => intros; exact absurd (by assumption) (Nat.not_lt_zero _)
    | succ fu ihlp =>
      intro i ls H locs hfu hi hl hP hD hS
      refine lv_iload_n hx hb dX4_sum_2 rfl (lv_at hl 3 rfl) ?_
      refine lv_bipush (v := nI 70) hx hb dX4_sum_3 (by decide) ?_
      refine zn_icmp_ge (tgt := 21) hx hb dX4_sum_5 (by decide) (by omega) (by omega) (fun c_1 => ?_) (fun c_1 => ?_)
      · obtain rfl : i = 70 := by omega
        refine lv_bipush (v := nI 64) hx hb dX4_sum_21 (by decide) ?_
        refine lv_iload_n hx hb dX4_sum_23 rfl (lv_at hl 1 rfl) ?_
        refine zn_imul hx hb dX4_sum_24 ?_
        refine lv_istore_n (lv' := [(3, .int (nI (64 * j))), (0, .ref m0), (1, .int (nI j)), (2, .int (nI 1))]) hx hb dX4_sum_25 rfl hl (by decide) rfl (fun ls hl => ?_)
        have lq : ∀ (fu : Nat) (i : Nat) (ls : Array Slot) (H : Heap) (locs : List Loc), M j - i < fu → (i ≤ M j) → lv_has ls 10 [(0, .ref m0), (1, .int (nI j)), (2, .int (nI 1)), (3, .int (nI (64 * j + i)))] → va_P E.1 vwCl (mW E m0 k0 q0 t0 v0 c0 o0 s0 j0 r0 f0 g0 h0 cd n K M TT VV (mpN (setL CC (fun _ => 0) 70) true (vw VV j) i) OO b S J RR w1 w2 w3 w4 SF SM FD) H → va_D A (mW E m0 k0 q0 t0 v0 c0 o0 s0 j0 r0 f0 g0 h0 cd n K M TT VV (mpN (setL CC (fun _ => 0) 70) true (vw VV j) i) OO b S J RR w1 w2 w3 w4 SF SM FD) → va_S A s.heap H locs → W p l e R s m args below meth c H locs 0 0 Q (F0 m 26 ls []) := by
          intro fu
          induction fu with
          | zero => intros; exact absurd (by assumption) (Nat.not_lt_zero _)
          | succ fu ihlq =>
            intro i ls H locs hfu hi hl hP hD hS
            refine lv_iload_n hx hb dX4_sum_26 rfl (lv_at hl 3 rfl) ?_
            refine lv_bipush (v := nI 64) hx hb dX4_sum_27 (by decide) ?_
            refine lv_iload_n hx hb dX4_sum_29 rfl (lv_at hl 1 rfl) ?_
            refine zn_imul hx hb dX4_sum_30 ?_
            refine lv_aload_n hx hb dX4_sum_31 rfl (lv_at hl 0 rfl) ?_
            refine va_get (D := E.1) (ci := 5) (C := RX4) (T := TX4) (N := 19) hx hb hts hiX4 hown hK.1 hP 0 rfl rfl 3 (by decide) hf13 (fun _ h9 => h9) rfl dX4_sum_32 ?_
            refine lv_iload_n hx hb dX4_sum_35 rfl (lv_at hl 1 rfl) ?_
            refine zn_iald hx hb hK.1 hP 2 0 rfl rfl (by omega) (by decide) dX4_sum_36 ?_
            refine zn_iadd hx hb dX4_sum_37 ?_
            refine zn_icmp_ge (tgt := 135) hx hb dX4_sum_38 (by decide) (by omega) (by omega) (fun c_2 => ?_) (fun c_2 => ?_)
            · obtain rfl : i = M j := by omega
              refine lv_lconst (v := 0) hx hb dX4_sum_135 rfl ?_
              refine lv_lstore_n (lv' := [(3, .long 0), (0, .ref m0), (1, .int (nI j)), (2, .int (nI 1))]) hx hb dX4_sum_136 rfl hl (by decide) rfl (fun ls hl => ?_)
              refine lv_iconst (v := nI 0) hx hb dX4_sum_137 (by decide) ?_
              refine lv_istore (lv' := [(5, .int (nI 0)), (3, .long 0), (0, .ref m0), (1, .int (nI j)), (2, .int (nI 1))]) hx hb dX4_sum_138 hl (by decide) rfl (fun ls hl => ?_)
              have lr : ∀ (fu : Nat) (i : Nat) (L1 : Nat → Int64) (ls : Array Slot) (H : Heap) (locs : List Loc), 70 - i < fu → (i ≤ 70) → (∀ k, L1 k = if k < i then ((msL CC true (vw VV j) (M j)) k + car (msL CC true (vw VV j) (M j)) k) &&& 4294967295 else (msL CC true (vw VV j) (M j)) k) → lv_has ls 10 [(0, .ref m0), (1, .int (nI j)), (2, .int (nI 1)), (3, .long (car (msL CC true (vw VV j) (M j)) i)), (5, .int (nI i))] → va_P E.1 vwCl (mW E m0 k0 q0 t0 v0 c0 o0 s0 j0 r0 f0 g0 h0 cd n K M TT VV L1 OO b S J RR w1 w2 w3 w4 SF SM FD) H → va_D A (mW E m0 k0 q0 t0 v0 c0 o0 s0 j0 r0 f0 g0 h0 cd n K M TT VV L1 OO b S J RR w1 w2 w3 w4 SF SM FD) → va_S A s.heap H locs → W p l e R s m args below meth c H locs 0 0 Q (F0 m 140 ls []) := by
                intro fu
                induction fu with
                | zero => intros; exact absurd (by assumption) (Nat.not_lt_zero _)
                | succ fu ihlr =>
                  intro i L1 ls H locs hfu hi hL hl hP hD hS
                  refine lv_iload hx hb dX4_sum_140 (lv_at hl 4 rfl) ?_
                  refine lv_bipush (v := nI 70) hx hb dX4_sum_142 (by decide) ?_
                  refine zn_icmp_ge (tgt := 183) hx hb dX4_sum_144 (by decide) (by omega) (by omega) (fun c_3 => ?_) (fun c_3 => ?_)
                  · obtain rfl : i = 70 := by omega
                    refine lv_lload_n hx hb dX4_sum_183 rfl (lv_at hl 3 rfl) ?_
                    refine lv_lconst (v := 0) hx hb dX4_sum_184 rfl ?_
                    refine zl_lt (tgt := 193) hx hb dX4_sum_185 dX4_sum_186 (by decide) (fun c_4 => ?_) (fun c_4 => ?_)
                    · refine lv_iconst (v := nI 0) hx hb dX4_sum_193 (by decide) ?_
                      exact z_reti (by rw [show nng (msL CC true (vw VV j) (M j)) = false from by unfold nng; simp [c_4]]; rfl) (ret _ _ _ _ (by rw [show carL (msL CC true (vw VV j) (M j)) 70 = L1 from funext (fun k => (hL k).symm)]; exact hP) hS dX4_sum_194)
                    · refine lv_iconst (v := nI 1) hx hb dX4_sum_189 (by decide) ?_
                      refine lv_goto (tgt := 194) hx hb dX4_sum_190 (by decide) ?_
                      exact z_reti (by rw [show nng (msL CC true (vw VV j) (M j)) = true from by unfold nng; simp [c_4]]; rfl) (ret _ _ _ _ (by rw [show carL (msL CC true (vw VV j) (M j)) 70 = L1 from funext (fun k => (hL k).symm)]; exact hP) hS dX4_sum_194)
                  · have hLi : L1 i = (msL CC true (vw VV j) (M j)) i := by rw [hL, if_neg (by omega)]
                    refine lv_aload_n hx hb dX4_sum_147 rfl (lv_at hl 0 rfl) ?_
                    refine va_get (D := E.1) (ci := 5) (C := RX4) (T := TX4) (N := 19) hx hb hts hiX4 hown hK.1 hP 0 rfl rfl 6 (by decide) hf23 (fun _ h9 => h9) rfl dX4_sum_148 ?_
                    refine lv_iload hx hb dX4_sum_151 (lv_at hl 4 rfl) ?_
                    refine zn_lald hx hb hK.1 hP 5 1 rfl rfl (by omega) (by decide) dX4_sum_153 ?_
                    refine lv_lload_n hx hb dX4_sum_154 rfl (lv_at hl 3 rfl) ?_
                    refine lv_ladd hx hb dX4_sum_155 ?_
                    refine lv_lstore (lv' := [(6, .long ((L1 i) + (car (msL CC true (vw VV j) (M j)) i))), (0, .ref m0), (1, .int (nI j)), (2, .int (nI 1)), (3, .long (car (msL CC true (vw VV j) (M j)) i)), (5, .int (nI i))]) hx hb dX4_sum_156 hl (by decide) rfl (fun ls hl => ?_)
                    refine lv_lload hx hb dX4_sum_158 (lv_at hl 0 rfl) ?_
                    refine lv_bipush (v := nI 32) hx hb dX4_sum_160 (by decide) ?_
                    refine lv_lshr (v := jshr ((L1 i) + (car (msL CC true (vw VV j) (M j)) i)) (nI 32)) hx hb dX4_sum_162 rfl ?_
                    refine lv_lstore_n (lv' := [(3, .long (jshr ((L1 i) + (car (msL CC true (vw VV j) (M j)) i)) (nI 32))), (6, .long ((L1 i) + (car (msL CC true (vw VV j) (M j)) i))), (0, .ref m0), (1, .int (nI j)), (2, .int (nI 1)), (5, .int (nI i))]) hx hb dX4_sum_163 rfl hl (by decide) rfl (fun ls hl => ?_)
                    refine lv_aload_n hx hb dX4_sum_164 rfl (lv_at hl 2 rfl) ?_
                    refine va_get (D := E.1) (ci := 5) (C := RX4) (T := TX4) (N := 19) hx hb hts hiX4 hown hK.1 hP 0 rfl rfl 6 (by decide) hf23 (fun _ h9 => h9) rfl dX4_sum_165 ?_
                    refine lv_iload hx hb dX4_sum_168 (lv_at hl 5 rfl) ?_
                    refine lv_lload hx hb dX4_sum_170 (lv_at hl 1 rfl) ?_
                    refine lv_ldc2 (v := 4294967295) hx hb hown (hts (.constantLong RX4 101 (4294967295)) (by decide +kernel)) dX4_sum_172 ?_
                    refine lv_land hx hb dX4_sum_175 ?_
                    refine zn_last hx hb hK.1 hP hD hS 5 1 rfl rfl (by omega) (by decide) dX4_sum_176 (fun H locs hP hD hS => ?_)
                    have hP : va_P E.1 vwCl (mW E m0 k0 q0 t0 v0 c0 o0 s0 j0 r0 f0 g0 h0 cd n K M TT VV (vp_updL L1 i (((L1 i) + (car (msL CC true (vw VV j) (M j)) i)) &&& 4294967295)) OO b S J RR w1 w2 w3 w4 SF SM FD) H := hP
                    have hD : va_D A (mW E m0 k0 q0 t0 v0 c0 o0 s0 j0 r0 f0 g0 h0 cd n K M TT VV (vp_updL L1 i (((L1 i) + (car (msL CC true (vw VV j) (M j)) i)) &&& 4294967295)) OO b S J RR w1 w2 w3 w4 SF SM FD) := hD
                    refine lv_iinc (v := nI (i + 1)) (lv' := [(5, .int (nI (i + 1))), (3, .long (jshr ((L1 i) + (car (msL CC true (vw VV j) (M j)) i)) (nI 32))), (6, .long ((L1 i) + (car (msL CC true (vw VV j) (M j)) i))), (0, .ref m0), (1, .int (nI j)), (2, .int (nI 1))]) hx hb dX4_sum_177 hl (k := 5) rfl (z_inc _ 1) (by decide) rfl (fun ls hl => ?_)
                    refine lv_goto (tgt := 140) hx hb dX4_sum_180 (by decide) ?_
                    exact ihlr (i + 1) (vp_updL L1 i (((L1 i) + (car (msL CC true (vw VV j) (M j)) i)) &&& 4294967295)) ls _ _ (by omega) (by omega) (carL_step hL) (lv_sub hl [3, 4, 5, 1, 0] (by rw [show car (msL CC true (vw VV j) (M j)) (i + 1) = jshr (L1 i + car (msL CC true (vw VV j) (M j)) i) (nI 32) from by rw [hLi]; rfl]; rfl)) hP hD hS
              exact lr _ 0 (mpN (setL CC (fun _ => 0) 70) true (vw VV j) (M j)) ls _ _ (Nat.lt_succ_self _) (Nat.zero_le _) (fun k => (if_neg (by omega)).symm) (lv_sub hl [2, 3, 4, 1, 0] rfl) hP hD hS
            · refine lv_aload_n hx hb dX4_sum_41 rfl (lv_at hl 0 rfl) ?_
              refine va_get (D := E.1) (ci := 5) (C := RX4) (T := TX4) (N := 19) hx hb hts hiX4 hown hK.1 hP 0 rfl rfl 5 (by decide) hf19 (fun _ h9 => h9) rfl dX4_sum_42 ?_
              refine lv_iload_n hx hb dX4_sum_45 rfl (lv_at hl 3 rfl) ?_
              refine zn_lald hx hb hK.1 hP 4 1 rfl rfl (by omega) (by decide) dX4_sum_46 ?_
              refine lv_lstore (lv' := [(4, .long (VV (64 * j + i))), (0, .ref m0), (1, .int (nI j)), (2, .int (nI 1)), (3, .int (nI (64 * j + i)))]) hx hb dX4_sum_47 hl (by decide) rfl (fun ls hl => ?_)
              refine lv_lload hx hb dX4_sum_49 (lv_at hl 0 rfl) ?_
              refine lv_bipush (v := nI 52) hx hb dX4_sum_51 (by decide) ?_
              refine lv_lushr (v := jushr (VV (64 * j + i)) (nI 52)) hx hb dX4_sum_53 rfl ?_
              refine lv_ldc2 (v := 2047) hx hb hown (hts (.constantLong RX4 81 (2047)) (by decide +kernel)) dX4_sum_54 ?_
              refine lv_land hx hb dX4_sum_57 ?_
              refine lv_l2i (v := nI (expN (VV (64 * j + i)))) hx hb dX4_sum_58 (expM_i _) ?_
              refine lv_istore (lv' := [(6, .int (nI (expN (VV (64 * j + i))))), (4, .long (VV (64 * j + i))), (0, .ref m0), (1, .int (nI j)), (2, .int (nI 1)), (3, .int (nI (64 * j + i)))]) hx hb dX4_sum_59 hl (by decide) rfl (fun ls hl => ?_)
              refine lv_lload hx hb dX4_sum_61 (lv_at hl 1 rfl) ?_
              refine lv_ldc2 (v := 4503599627370495) hx hb hown (hts (.constantLong RX4 103 (4503599627370495)) (by decide +kernel)) dX4_sum_63 ?_
              refine lv_land hx hb dX4_sum_66 ?_
              refine lv_lstore (lv' := [(7, .long ((VV (64 * j + i)) &&& 4503599627370495)), (6, .int (nI (expN (VV (64 * j + i))))), (4, .long (VV (64 * j + i))), (0, .ref m0), (1, .int (nI j)), (2, .int (nI 1)), (3, .int (nI (64 * j + i)))]) hx hb dX4_sum_67 hl (by decide) rfl (fun ls hl => ?_)
              refine lv_lload hx hb dX4_sum_69 (lv_at hl 2 rfl) ?_
              refine lv_lconst (v := 0) hx hb dX4_sum_71 rfl ?_
              refine zl_ge (tgt := 80) hx hb dX4_sum_72 dX4_sum_73 (by decide) (fun c_5 => ?_) (fun c_5 => ?_)
              · refine lv_iconst (v := nI 0) hx hb dX4_sum_80 (by decide) ?_
                refine lv_istore (lv' := [(9, .int (nI 0)), (7, .long ((VV (64 * j + i)) &&& 4503599627370495)), (6, .int (nI (expN (VV (64 * j + i))))), (4, .long (VV (64 * j + i))), (0, .ref m0), (1, .int (nI j)), (2, .int (nI 1)), (3, .int (nI (64 * j + i)))]) hx hb dX4_sum_81 hl (by decide) rfl (fun ls hl => ?_)
                refine lv_aload_n hx hb dX4_sum_83 rfl (lv_at hl 4 rfl) ?_
                refine lv_iload hx hb dX4_sum_84 (lv_at hl 2 rfl) ?_
                refine zn_if_ne (tgt := 94) hx hb dX4_sum_86 (by decide) (by have := expN_lt (VV (64 * j + i)); omega) (fun c_6 => ?_) (fun c_6 => ?_)
                · refine lv_lload hx hb dX4_sum_94 (lv_at hl 1 rfl) ?_
                  refine lv_ldc2 (v := 4503599627370496) hx hb hown (hts (.constantLong RX4 105 (4503599627370496)) (by decide +kernel)) dX4_sum_96 ?_
                  refine lv_ladd hx hb dX4_sum_99 ?_
                  refine lv_iload hx hb dX4_sum_100 (lv_at hl 2 rfl) ?_
                  refine zn_if_ne (tgt := 109) hx hb dX4_sum_102 (by decide) (by have := expN_lt (VV (64 * j + i)); omega) (fun c_7 => ?_) (fun c_7 => ?_)
                  · refine lv_iload hx hb dX4_sum_109 (lv_at hl 2 rfl) ?_
                    refine lv_iconst (v := nI 1) hx hb dX4_sum_111 (by decide) ?_
                    refine zn_isub hx hb (by omega) dX4_sum_112 ?_
                    refine lv_iload hx hb dX4_sum_113 (lv_at hl 0 rfl) ?_
                    refine lv_iload_n hx hb dX4_sum_115 rfl (lv_at hl 6 rfl) ?_
                    refine zn_icmp_ne (tgt := 123) hx hb dX4_sum_116 (by decide) (by omega) (by omega) (fun c_8 => ?_) (fun c_8 => ?_)
                    · refine lv_ldc2 (v := (-1)) hx hb hown (hts (.constantLong RX4 107 (-1)) (by decide +kernel)) dX4_sum_123 ?_
                      refine W.eq (g2 := F0 m 126 ls ([.long (sgM true (VV (64 * j + i))), .int (nI (shN (VV (64 * j + i)))), .long (dgM (VV (64 * j + i))), .ref m0])) (by rw [show dgM (VV (64 * j + i)) = ((VV (64 * j + i)) &&& 4503599627370495) + 4503599627370496 from by unfold dgM; rw [if_neg c_6], show shN (VV (64 * j + i)) = (expN (VV (64 * j + i))) - 1 from by unfold shN; rw [if_neg c_6], show sgM true (VV (64 * j + i)) = (-1) from by unfold sgM; rw [if_neg (by rw [decide_eq_false c_5]; decide)]]) ?_
                      refine zall_v (wc' := (mW E m0 k0 q0 t0 v0 c0 o0 s0 j0 r0 f0 g0 h0 cd n K M TT VV (mv3 (mpN (setL CC (fun _ => 0) 70) true (vw VV j) i) (dgM (VV (64 * j + i))) (shN (VV (64 * j + i))) (sgM true (VV (64 * j + i)))) OO b S J RR w1 w2 w3 w4 SF SM FD)) (va_runV ⟨hx, hb, hml, hown, hts⟩ (kX4_move l E _ m0 k0 q0 t0 v0 c0 o0 s0 j0 r0 f0 g0 h0 cd n K M TT VV (mpN (setL CC (fun _ => 0) 70) true (vw VV j) i) OO b S J RR w1 w2 w3 w4 SF SM FD hn (dgM (VV (64 * j + i))) (shN (VV (64 * j + i))) (shN_lt _) (sgM true (VV (64 * j + i)))) (cwV 3 hts gX4_sum_X4_move rfl rfl rfl (by decide +kernel) ⟨Nat.le_trans (Nat.le_of_ble_eq_true rfl) hRf, Nat.le_trans (Nat.le_of_ble_eq_true rfl) hRl⟩) (z_preWV (As := [.long (dgM (VV (64 * j + i))), .int (nI (shN (VV (64 * j + i)))), .long (sgM true (VV (64 * j + i)))]) hP hD hK 0 rfl rfl) rfl rfl hl.1 rfl (lv_room (Nat.le_of_ble_eq_true rfl)) dX4_sum_126 ⟨Nat.zero_le _, Nat.zero_le _⟩) hD hS hA rfl (fun H locs hP hD hS => ?_)
                      refine lv_iinc (v := nI (64 * j + i + 1)) (lv' := [(3, .int (nI (64 * j + i + 1))), (9, .int (nI 0)), (7, .long ((VV (64 * j + i)) &&& 4503599627370495)), (6, .int (nI (expN (VV (64 * j + i))))), (4, .long (VV (64 * j + i))), (0, .ref m0), (1, .int (nI j)), (2, .int (nI 1))]) hx hb dX4_sum_129 hl (k := 7) rfl (z_inc _ 1) (by decide) rfl (fun ls hl => ?_)
                      refine lv_goto (tgt := 26) hx hb dX4_sum_132 (by decide) ?_
                      exact ihlq (i + 1) ls _ _ (by omega) (by omega) (lv_sub hl [5, 6, 7, 0] rfl) hP hD hS
                    · exact absurd c_8 (by decide)
                  · exact absurd c_7 c_6
                · refine lv_lload hx hb dX4_sum_89 (lv_at hl 1 rfl) ?_
                  refine lv_goto (tgt := 100) hx hb dX4_sum_91 (by decide) ?_
                  refine lv_iload hx hb dX4_sum_100 (lv_at hl 2 rfl) ?_
                  refine zn_if_ne (tgt := 109) hx hb dX4_sum_102 (by decide) (by have := expN_lt (VV (64 * j + i)); omega) (fun c_9 => ?_) (fun c_9 => ?_)
                  · exact absurd c_6 c_9
                  · refine lv_iconst (v := nI 0) hx hb dX4_sum_105 (by decide) ?_
                    refine lv_goto (tgt := 113) hx hb dX4_sum_106 (by decide) ?_
                    refine lv_iload hx hb dX4_sum_113 (lv_at hl 0 rfl) ?_
                    refine lv_iload_n hx hb dX4_sum_115 rfl (lv_at hl 6 rfl) ?_
                    refine zn_icmp_ne (tgt := 123) hx hb dX4_sum_116 (by decide) (by omega) (by omega) (fun c_10 => ?_) (fun c_10 => ?_)
                    · refine lv_ldc2 (v := (-1)) hx hb hown (hts (.constantLong RX4 107 (-1)) (by decide +kernel)) dX4_sum_123 ?_
                      refine W.eq (g2 := F0 m 126 ls ([.long (sgM true (VV (64 * j + i))), .int (nI (shN (VV (64 * j + i)))), .long (dgM (VV (64 * j + i))), .ref m0])) (by rw [show dgM (VV (64 * j + i)) = (VV (64 * j + i)) &&& 4503599627370495 from by unfold dgM; rw [if_pos c_6], show shN (VV (64 * j + i)) = 0 from by unfold shN; rw [if_pos c_6], show sgM true (VV (64 * j + i)) = (-1) from by unfold sgM; rw [if_neg (by rw [decide_eq_false c_5]; decide)]]) ?_
                      refine zall_v (wc' := (mW E m0 k0 q0 t0 v0 c0 o0 s0 j0 r0 f0 g0 h0 cd n K M TT VV (mv3 (mpN (setL CC (fun _ => 0) 70) true (vw VV j) i) (dgM (VV (64 * j + i))) (shN (VV (64 * j + i))) (sgM true (VV (64 * j + i)))) OO b S J RR w1 w2 w3 w4 SF SM FD)) (va_runV ⟨hx, hb, hml, hown, hts⟩ (kX4_move l E _ m0 k0 q0 t0 v0 c0 o0 s0 j0 r0 f0 g0 h0 cd n K M TT VV (mpN (setL CC (fun _ => 0) 70) true (vw VV j) i) OO b S J RR w1 w2 w3 w4 SF SM FD hn (dgM (VV (64 * j + i))) (shN (VV (64 * j + i))) (shN_lt _) (sgM true (VV (64 * j + i)))) (cwV 3 hts gX4_sum_X4_move rfl rfl rfl (by decide +kernel) ⟨Nat.le_trans (Nat.le_of_ble_eq_true rfl) hRf, Nat.le_trans (Nat.le_of_ble_eq_true rfl) hRl⟩) (z_preWV (As := [.long (dgM (VV (64 * j + i))), .int (nI (shN (VV (64 * j + i)))), .long (sgM true (VV (64 * j + i)))]) hP hD hK 0 rfl rfl) rfl rfl hl.1 rfl (lv_room (Nat.le_of_ble_eq_true rfl)) dX4_sum_126 ⟨Nat.zero_le _, Nat.zero_le _⟩) hD hS hA rfl (fun H locs hP hD hS => ?_)
                      refine lv_iinc (v := nI (64 * j + i + 1)) (lv' := [(3, .int (nI (64 * j + i + 1))), (9, .int (nI 0)), (7, .long ((VV (64 * j + i)) &&& 4503599627370495)), (6, .int (nI (expN (VV (64 * j + i))))), (4, .long (VV (64 * j + i))), (0, .ref m0), (1, .int (nI j)), (2, .int (nI 1))]) hx hb dX4_sum_129 hl (k := 7) rfl (z_inc _ 1) (by decide) rfl (fun ls hl => ?_)
                      refine lv_goto (tgt := 26) hx hb dX4_sum_132 (by decide) ?_
                      exact ihlq (i + 1) ls _ _ (by omega) (by omega) (lv_sub hl [5, 6, 7, 0] rfl) hP hD hS
                    · exact absurd c_10 (by decide)
              · refine lv_iconst (v := nI 1) hx hb dX4_sum_76 (by decide) ?_
                refine lv_goto (tgt := 81) hx hb dX4_sum_77 (by decide) ?_
                refine lv_istore (lv' := [(9, .int (nI 1)), (7, .long ((VV (64 * j + i)) &&& 4503599627370495)), (6, .int (nI (expN (VV (64 * j + i))))), (4, .long (VV (64 * j + i))), (0, .ref m0), (1, .int (nI j)), (2, .int (nI 1)), (3, .int (nI (64 * j + i)))]) hx hb dX4_sum_81 hl (by decide) rfl (fun ls hl => ?_)
                refine lv_aload_n hx hb dX4_sum_83 rfl (lv_at hl 4 rfl) ?_
                refine lv_iload hx hb dX4_sum_84 (lv_at hl 2 rfl) ?_
                refine zn_if_ne (tgt := 94) hx hb dX4_sum_86 (by decide) (by have := expN_lt (VV (64 * j + i)); omega) (fun c_11 => ?_) (fun c_11 => ?_)
                · refine lv_lload hx hb dX4_sum_94 (lv_at hl 1 rfl) ?_
                  refine lv_ldc2 (v := 4503599627370496) hx hb hown (hts (.constantLong RX4 105 (4503599627370496)) (by decide +kernel)) dX4_sum_96 ?_
                  refine lv_ladd hx hb dX4_sum_99 ?_
                  refine lv_iload hx hb dX4_sum_100 (lv_at hl 2 rfl) ?_
                  refine zn_if_ne (tgt := 109) hx hb dX4_sum_102 (by decide) (by have := expN_lt (VV (64 * j + i)); omega) (fun c_12 => ?_) (fun c_12 => ?_)
                  · refine lv_iload hx hb dX4_sum_109 (lv_at hl 2 rfl) ?_
                    refine lv_iconst (v := nI 1) hx hb dX4_sum_111 (by decide) ?_
                    refine zn_isub hx hb (by omega) dX4_sum_112 ?_
                    refine lv_iload hx hb dX4_sum_113 (lv_at hl 0 rfl) ?_
                    refine lv_iload_n hx hb dX4_sum_115 rfl (lv_at hl 6 rfl) ?_
                    refine zn_icmp_ne (tgt := 123) hx hb dX4_sum_116 (by decide) (by omega) (by omega) (fun c_13 => ?_) (fun c_13 => ?_)
                    · exact absurd rfl c_13
                    · refine lv_lconst (v := 1) hx hb dX4_sum_119 rfl ?_
                      refine lv_goto (tgt := 126) hx hb dX4_sum_120 (by decide) ?_
                      refine W.eq (g2 := F0 m 126 ls ([.long (sgM true (VV (64 * j + i))), .int (nI (shN (VV (64 * j + i)))), .long (dgM (VV (64 * j + i))), .ref m0])) (by rw [show dgM (VV (64 * j + i)) = ((VV (64 * j + i)) &&& 4503599627370495) + 4503599627370496 from by unfold dgM; rw [if_neg c_11], show shN (VV (64 * j + i)) = (expN (VV (64 * j + i))) - 1 from by unfold shN; rw [if_neg c_11], show sgM true (VV (64 * j + i)) = 1 from by unfold sgM; rw [if_pos (by rw [decide_eq_true c_5])]]) ?_
                      refine zall_v (wc' := (mW E m0 k0 q0 t0 v0 c0 o0 s0 j0 r0 f0 g0 h0 cd n K M TT VV (mv3 (mpN (setL CC (fun _ => 0) 70) true (vw VV j) i) (dgM (VV (64 * j + i))) (shN (VV (64 * j + i))) (sgM true (VV (64 * j + i)))) OO b S J RR w1 w2 w3 w4 SF SM FD)) (va_runV ⟨hx, hb, hml, hown, hts⟩ (kX4_move l E _ m0 k0 q0 t0 v0 c0 o0 s0 j0 r0 f0 g0 h0 cd n K M TT VV (mpN (setL CC (fun _ => 0) 70) true (vw VV j) i) OO b S J RR w1 w2 w3 w4 SF SM FD hn (dgM (VV (64 * j + i))) (shN (VV (64 * j + i))) (shN_lt _) (sgM true (VV (64 * j + i)))) (cwV 3 hts gX4_sum_X4_move rfl rfl rfl (by decide +kernel) ⟨Nat.le_trans (Nat.le_of_ble_eq_true rfl) hRf, Nat.le_trans (Nat.le_of_ble_eq_true rfl) hRl⟩) (z_preWV (As := [.long (dgM (VV (64 * j + i))), .int (nI (shN (VV (64 * j + i)))), .long (sgM true (VV (64 * j + i)))]) hP hD hK 0 rfl rfl) rfl rfl hl.1 rfl (lv_room (Nat.le_of_ble_eq_true rfl)) dX4_sum_126 ⟨Nat.zero_le _, Nat.zero_le _⟩) hD hS hA rfl (fun H locs hP hD hS => ?_)
                      refine lv_iinc (v := nI (64 * j + i + 1)) (lv' := [(3, .int (nI (64 * j + i + 1))), (9, .int (nI 1)), (7, .long ((VV (64 * j + i)) &&& 4503599627370495)), (6, .int (nI (expN (VV (64 * j + i))))), (4, .long (VV (64 * j + i))), (0, .ref m0), (1, .int (nI j)), (2, .int (nI 1))]) hx hb dX4_sum_129 hl (k := 7) rfl (z_inc _ 1) (by decide) rfl (fun ls hl => ?_)
                      refine lv_goto (tgt := 26) hx hb dX4_sum_132 (by decide) ?_
                      exact ihlq (i + 1) ls _ _ (by omega) (by omega) (lv_sub hl [5, 6, 7, 0] rfl) hP hD hS
                  · exact absurd c_12 c_11
                · refine lv_lload hx hb dX4_sum_89 (lv_at hl 1 rfl) ?_
                  refine lv_goto (tgt := 100) hx hb dX4_sum_91 (by decide) ?_
                  refine lv_iload hx hb dX4_sum_100 (lv_at hl 2 rfl) ?_
                  refine zn_if_ne (tgt := 109) hx hb dX4_sum_102 (by decide) (by have := expN_lt (VV (64 * j + i)); omega) (fun c_14 => ?_) (fun c_14 => ?_)
                  · exact absurd c_11 c_14
                  · refine lv_iconst (v := nI 0) hx hb dX4_sum_105 (by decide) ?_
                    refine lv_goto (tgt := 113) hx hb dX4_sum_106 (by decide) ?_
                    refine lv_iload hx hb dX4_sum_113 (lv_at hl 0 rfl) ?_
                    refine lv_iload_n hx hb dX4_sum_115 rfl (lv_at hl 6 rfl) ?_
                    refine zn_icmp_ne (tgt := 123) hx hb dX4_sum_116 (by decide) (by omega) (by omega) (fun c_15 => ?_) (fun c_15 => ?_)
                    · exact absurd rfl c_15
                    · refine lv_lconst (v := 1) hx hb dX4_sum_119 rfl ?_
                      refine lv_goto (tgt := 126) hx hb dX4_sum_120 (by decide) ?_
                      refine W.eq (g2 := F0 m 126 ls ([.long (sgM true (VV (64 * j + i))), .int (nI (shN (VV (64 * j + i)))), .long (dgM (VV (64 * j + i))), .ref m0])) (by rw [show dgM (VV (64 * j + i)) = (VV (64 * j + i)) &&& 4503599627370495 from by unfold dgM; rw [if_pos c_11], show shN (VV (64 * j + i)) = 0 from by unfold shN; rw [if_pos c_11], show sgM true (VV (64 * j + i)) = 1 from by unfold sgM; rw [if_pos (by rw [decide_eq_true c_5])]]) ?_
                      refine zall_v (wc' := (mW E m0 k0 q0 t0 v0 c0 o0 s0 j0 r0 f0 g0 h0 cd n K M TT VV (mv3 (mpN (setL CC (fun _ => 0) 70) true (vw VV j) i) (dgM (VV (64 * j + i))) (shN (VV (64 * j + i))) (sgM true (VV (64 * j + i)))) OO b S J RR w1 w2 w3 w4 SF SM FD)) (va_runV ⟨hx, hb, hml, hown, hts⟩ (kX4_move l E _ m0 k0 q0 t0 v0 c0 o0 s0 j0 r0 f0 g0 h0 cd n K M TT VV (mpN (setL CC (fun _ => 0) 70) true (vw VV j) i) OO b S J RR w1 w2 w3 w4 SF SM FD hn (dgM (VV (64 * j + i))) (shN (VV (64 * j + i))) (shN_lt _) (sgM true (VV (64 * j + i)))) (cwV 3 hts gX4_sum_X4_move rfl rfl rfl (by decide +kernel) ⟨Nat.le_trans (Nat.le_of_ble_eq_true rfl) hRf, Nat.le_trans (Nat.le_of_ble_eq_true rfl) hRl⟩) (z_preWV (As := [.long (dgM (VV (64 * j + i))), .int (nI (shN (VV (64 * j + i)))), .long (sgM true (VV (64 * j + i)))]) hP hD hK 0 rfl rfl) rfl rfl hl.1 rfl (lv_room (Nat.le_of_ble_eq_true rfl)) dX4_sum_126 ⟨Nat.zero_le _, Nat.zero_le _⟩) hD hS hA rfl (fun H locs hP hD hS => ?_)
                      refine lv_iinc (v := nI (64 * j + i + 1)) (lv' := [(3, .int (nI (64 * j + i + 1))), (9, .int (nI 1)), (7, .long ((VV (64 * j + i)) &&& 4503599627370495)), (6, .int (nI (expN (VV (64 * j + i))))), (4, .long (VV (64 * j + i))), (0, .ref m0), (1, .int (nI j)), (2, .int (nI 1))]) hx hb dX4_sum_129 hl (k := 7) rfl (z_inc _ 1) (by decide) rfl (fun ls hl => ?_)
                      refine lv_goto (tgt := 26) hx hb dX4_sum_132 (by decide) ?_
                      exact ihlq (i + 1) ls _ _ (by omega) (by omega) (lv_sub hl [5, 6, 7, 0] rfl) hP hD hS
        exact lq _ 0 ls _ _ (Nat.lt_succ_self _) (Nat.zero_le _) (lv_sub hl [1, 2, 3, 0] rfl) hP hD hS
      · refine lv_aload_n hx hb dX4_sum_8 rfl (lv_at hl 0 rfl) ?_
        refine va_get (D := E.1) (ci := 5) (C := RX4) (T := TX4) (N := 19) hx hb hts hiX4 hown hK.1 hP 0 rfl rfl 6 (by decide) hf23 (fun _ h9 => h9) rfl dX4_sum_9 ?_
        refine lv_iload_n hx hb dX4_sum_12 rfl (lv_at hl 3 rfl) ?_
        refine lv_lconst (v := 0) hx hb dX4_sum_13 rfl ?_
        refine zn_last hx hb hK.1 hP hD hS 5 1 rfl rfl (by omega) (by decide) dX4_sum_14 (fun H locs hP hD hS => ?_)
        have hP : va_P E.1 vwCl (mW E m0 k0 q0 t0 v0 c0 o0 s0 j0 r0 f0 g0 h0 cd n K M TT VV (vp_updL (setL CC (fun _ => 0) i) i 0) OO b S J RR w1 w2 w3 w4 SF SM FD) H := hP
        have hD : va_D A (mW E m0 k0 q0 t0 v0 c0 o0 s0 j0 r0 f0 g0 h0 cd n K M TT VV (vp_updL (setL CC (fun _ => 0) i) i 0) OO b S J RR w1 w2 w3 w4 SF SM FD) := hD
        refine lv_iinc (v := nI (i + 1)) (lv' := [(3, .int (nI (i + 1))), (0, .ref m0), (1, .int (nI j)), (2, .int (nI 1))]) hx hb dX4_sum_15 hl (k := 3) rfl (z_inc _ 1) (by decide) rfl (fun ls hl => ?_)
        refine lv_goto (tgt := 2) hx hb dX4_sum_18 (by decide) ?_
        have hP : va_P E.1 vwCl (mW E m0 k0 q0 t0 v0 c0 o0 s0 j0 r0 f0 g0 h0 cd n K M TT VV (setL CC (fun _ => 0) (i + 1)) OO b S J RR w1 w2 w3 w4 SF SM FD) H := by rw [← setL_step (f := fun _ => 0) 0 rfl]; exact hP
        have hD : va_D A (mW E m0 k0 q0 t0 v0 c0 o0 s0 j0 r0 f0 g0 h0 cd n K M TT VV (setL CC (fun _ => 0) (i + 1)) OO b S J RR w1 w2 w3 w4 SF SM FD) := by rw [← setL_step (f := fun _ => 0) 0 rfl]; exact hD
        exact ihlp (i + 1) ls _ _ (by omega) (by omega) (lv_sub hl [1, 2, 3, 0] rfl) hP hD hS
  have hP : va_P E.1 vwCl (mW E m0 k0 q0 t0 v0 c0 o0 s0 j0 r0 f0 g0 h0 cd n K M TT VV (setL CC (fun _ => 0) 0) OO b S J RR w1 w2 w3 w4 SF SM FD) s.heap := by rw [setL_0]; exact hP
  have hD : va_D A (mW E m0 k0 q0 t0 v0 c0 o0 s0 j0 r0 f0 g0 h0 cd n K M TT VV (setL CC (fun _ => 0) 0) OO b S J RR w1 w2 w3 w4 SF SM FD) := by rw [setL_0]; exact hD
  exact lp _ 0 ls _ _ (Nat.lt_succ_self _) (Nat.zero_le _) (lv_sub hl [1, 2, 3, 0] rfl) hP hD hS
set_option maxHeartbeats 4000000 in
set_option maxRecDepth 100000 in
theorem kX4_bit (l : Launch) (E : zE) (m0 k0 q0 t0 v0 c0 o0 s0 j0 r0 f0 g0 h0 : Nat) (cd : Int32) (n : Nat) (K M : Nat → Nat) (TT : Nat → Int32) (VV CC : Nat → Int64) (OO : Nat → Nat) (b : Nat) (S J : Nat → Nat) (RR : Nat → Bool) (w1 w2 w3 w4 : Int32) (SF SM FD : Nat → Nat) (hn : n ≤ 12) (i : Nat) (hi : i < 2240) : Met l yX4_bit wsX4_bit (rmL 0) (va_Pc [.ref m0, .int (nI i)] (zW E (mW E m0 k0 q0 t0 v0 c0 o0 s0 j0 r0 f0 g0 h0 cd n K M TT VV CC OO b S J RR w1 w2 w3 w4 SF SM FD))) (vp_Sl (fun r9 => r9 = btF CC i)) 0 0 (fun _ => False) := by
  refine z_ofRl (cc := cX4_bit) (maxL := 2) (own := RX4) (by decide) rfl rfl (Nat.le_of_ble_eq_true rfl) ?_
  intro p e s m args below meth c R Q B hP ret ls hl
  obtain ⟨hx, hb, hml, hown, hts, hK, hRf, hRl⟩ := B
  have hiX4 : ∀ w ∈ wsX40, w ∈ wsX4_bit := by decide +kernel
  have hf23 := hts (.fieldLink RX4 23 "ExactFoldsModel" "cells" "[J") (by decide +kernel)
  have hl : lv_has ls 2 [(0, .ref m0), (1, .int (nI i))] := hl
  refine lv_aload_n hx hb dX4_bit_0 rfl (lv_at hl 0 rfl) ?_
  refine va_get (D := E.1) (ci := 5) (C := RX4) (T := TX4) (N := 19) hx hb hts hiX4 hown hK.1 hP 0 rfl rfl 6 (by decide) hf23 (fun _ h9 => h9) rfl dX4_bit_1 ?_
  refine lv_iload_n hx hb dX4_bit_4 rfl (lv_at hl 1 rfl) ?_
  refine lv_bipush (v := nI 32) hx hb dX4_bit_5 (by decide) ?_
  refine zn_idiv hx hb (by omega) (by omega) (by omega) dX4_bit_7 ?_
  refine zn_lald hx hb hK.1 hP 5 1 rfl rfl (by omega) (by decide) dX4_bit_8 ?_
  refine lv_iload_n hx hb dX4_bit_9 rfl (lv_at hl 1 rfl) ?_
  refine lv_bipush (v := nI 32) hx hb dX4_bit_10 (by decide) ?_
  refine zn_irem hx hb (by omega) (by omega) (by omega) dX4_bit_12 ?_
  refine lv_lushr (v := jushr (CC (i / 32)) (nI (i % 32))) hx hb dX4_bit_13 rfl ?_
  refine lv_lconst (v := 1) hx hb dX4_bit_14 rfl ?_
  refine lv_land hx hb dX4_bit_15 ?_
  exact z_retl (rfl) (ret _ _ dX4_bit_16)
set_option maxHeartbeats 4000000 in
set_option maxRecDepth 100000 in
theorem kX4_nearest (l : Launch) (E : zE) (m0 k0 q0 t0 v0 c0 o0 s0 j0 r0 f0 g0 h0 : Nat) (cd : Int32) (n : Nat) (K M : Nat → Nat) (TT : Nat → Int32) (VV CC : Nat → Int64) (OO : Nat → Nat) (b : Nat) (S J : Nat → Nat) (RR : Nat → Bool) (w1 w2 w3 w4 : Int32) (SF SM FD : Nat → Nat) (hn : n ≤ 12) (N : Nat) (hbl : bl N ≤ 2240) (hbt : ∀ i, i < 2240 → btF CC i = lN (N / 2 ^ i % 2)) : Met l yX4_nearest wsX4_nearest (rmL 1) (va_Pc [.ref m0] (zW E (mW E m0 k0 q0 t0 v0 c0 o0 s0 j0 r0 f0 g0 h0 cd n K M TT VV CC OO b S J RR w1 w2 w3 w4 SF SM FD))) (vp_Sl (fun r9 => r9 = nrF N)) 0 0 (fun _ => False) := by
  refine z_ofRl (cc := cX4_nearest) (maxL := 7) (own := RX4) (by decide) rfl rfl (Nat.le_of_ble_eq_true rfl) ?_
  intro p e s m args below meth c R Q B hP ret ls hl
  obtain ⟨hx, hb, hml, hown, hts, hK, hRf, hRl⟩ := B
  have hl : lv_has ls 7 [(0, .ref m0)] := hl
  have lt : ∀ (fu : Nat) (ls : Array Slot), 0 < fu → lv_has ls 7 [(0, .ref m0), (1, .int (nI (bl N) - nI 1))] → W p l e R s m args below meth c s.heap [] 0 0 Q (F0 m 24 ls []) := by
    intro fu
    induction fu with
    | zero => intros; exact absurd (by assumption) (Nat.not_lt_zero _)
    | succ fu ihlt =>
      intro  ls hfu hl
      have lu : ∀ (fu : Nat) (ls : Array Slot), 0 < fu → lv_has ls 7 [(0, .ref m0), (1, .int (nI (bl N) - nI 1)), (2, .int (nI (bl N - 53)))] → W p l e R s m args below meth c s.heap [] 0 0 Q (F0 m 39 ls []) := by
        intro fu
        induction fu with
        | zero => intros; exact absurd (by assumption) (Nat.not_lt_zero _)
        | succ fu ihlu =>
          intro  ls hfu hl
          refine lv_lconst (v := 0) hx hb dX4_nearest_39 rfl ?_
          refine lv_lstore_n (lv' := [(3, .long 0), (0, .ref m0), (1, .int (nI (bl N) - nI 1)), (2, .int (nI (bl N - 53)))]) hx hb dX4_nearest_40 rfl hl (by decide) rfl (fun ls hl => ?_)
          refine lv_iload_n hx hb dX4_nearest_41 rfl (lv_at hl 2 rfl) ?_
          refine lv_istore (lv' := [(5, .int (nI (bl N) - nI 1)), (3, .long 0), (0, .ref m0), (1, .int (nI (bl N) - nI 1)), (2, .int (nI (bl N - 53)))]) hx hb dX4_nearest_42 hl (by decide) rfl (fun ls hl => ?_)
          have lv : ∀ (fu : Nat) (k : Nat) (ls : Array Slot), k < fu → (k ≤ bl N) → (bl N - 53 ≤ k) → lv_has ls 7 [(0, .ref m0), (1, .int (nI (bl N) - nI 1)), (2, .int (nI (bl N - 53))), (3, .long (lN (N / 2 ^ k))), (5, .int (nI k - nI 1))] → W p l e R s m args below meth c s.heap [] 0 0 Q (F0 m 44 ls []) := by
            intro fu
            induction fu with
            | zero => intros; exact absurd (by assumption) (Nat.not_lt_zero _)
            | succ fu ihlv =>
              intro k ls hfu hk hkl hl
              refine lv_iload hx hb dX4_nearest_44 (lv_at hl 4 rfl) ?_
              refine lv_iload_n hx hb dX4_nearest_46 rfl (lv_at hl 2 rfl) ?_
              refine lv_icmp_lt (tgt := 69) hx hb dX4_nearest_47 (by decide) (fun c_1 => ?_) (fun c_1 => ?_)
              · have hkk : k = bl N - 53 := by rw [dec_lt (by omega) (by omega)] at c_1; omega
                rw [hkk] at hl
                refine lv_iload_n hx hb dX4_nearest_69 rfl (lv_at hl 2 rfl) ?_
                refine zn_if_ne (tgt := 75) hx hb dX4_nearest_70 (by decide) (by omega) (fun c_2 => ?_) (fun c_2 => ?_)
                · have h70 : ¬ bl N - 53 = 0 := c_2
                  refine lv_iconst (v := nI 0) hx hb dX4_nearest_75 (by decide) ?_
                  refine lv_istore (lv' := [(5, .int (nI 0)), (0, .ref m0), (1, .int (nI (bl N) - nI 1)), (2, .int (nI (bl N - 53))), (3, .long (lN (N / 2 ^ (bl N - 53))))]) hx hb dX4_nearest_76 hl (by decide) rfl (fun ls hl => ?_)
                  refine lv_iconst (v := nI 0) hx hb dX4_nearest_78 (by decide) ?_
                  refine lv_istore (lv' := [(6, .int (nI 0)), (5, .int (nI 0)), (0, .ref m0), (1, .int (nI (bl N) - nI 1)), (2, .int (nI (bl N - 53))), (3, .long (lN (N / 2 ^ (bl N - 53))))]) hx hb dX4_nearest_79 hl (by decide) rfl (fun ls hl => ?_)
                  have lw : ∀ (fu : Nat) (i : Nat) (b9 : Bool) (ls : Array Slot), bl N - 53 - 1 - i < fu → (i ≤ bl N - 53 - 1) → (b9 = decide (¬ N % 2 ^ i = 0)) → lv_has ls 7 [(0, .ref m0), (1, .int (nI (bl N) - nI 1)), (2, .int (nI (bl N - 53))), (3, .long (lN (N / 2 ^ (bl N - 53)))), (5, .int (bI b9)), (6, .int (nI i))] → W p l e R s m args below meth c s.heap [] 0 0 Q (F0 m 81 ls []) := by
                    intro fu
                    induction fu with
                    | zero => intros; exact absurd (by assumption) (Nat.not_lt_zero _)
                    | succ fu ihlw =>
                      intro i b9 ls hfu hi hmq hl
                      refine lv_iload hx hb dX4_nearest_81 (lv_at hl 5 rfl) ?_
                      refine lv_iload_n hx hb dX4_nearest_83 rfl (lv_at hl 2 rfl) ?_
                      refine lv_iconst (v := nI 1) hx hb dX4_nearest_84 (by decide) ?_
                      refine zn_isub hx hb (by omega) dX4_nearest_85 ?_
                      refine zn_icmp_ge (tgt := 118) hx hb dX4_nearest_86 (by decide) (by omega) (by omega) (fun c_3 => ?_) (fun c_3 => ?_)
                      · obtain rfl : i = bl N - 53 - 1 := by omega
                        have lx : ∀ (fu : Nat) (m2 : Nat) (ls : Array Slot), 0 < fu → (m2 = m2F N) → lv_has ls 7 [(0, .ref m0), (1, .int (nI (bl N) - nI 1)), (2, .int (nI (bl N - 53))), (3, .long (lN m2)), (5, .int (bI b9)), (6, .int (nI (bl N - 53 - 1)))] → W p l e R s m args below meth c s.heap [] 0 0 Q (F0 m 149 ls []) := by
                          intro fu
                          induction fu with
                          | zero => intros; exact absurd (by assumption) (Nat.not_lt_zero _)
                          | succ fu ihlx =>
                            intro m2 ls hfu hm2 hl
                            refine lv_lload_n hx hb dX4_nearest_149 rfl (lv_at hl 3 rfl) ?_
                            refine lv_ldc2 (v := 9007199254740992) hx hb hown (hts (.constantLong RX4 119 (9007199254740992)) (by decide +kernel)) dX4_nearest_150 ?_
                            refine zl_ne (tgt := 164) hx hb dX4_nearest_153 dX4_nearest_154 (by decide) (fun c_4 => ?_) (fun c_4 => ?_)
                            · have hme : ¬ m2F N = 9007199254740992 := by intro q9; exact c_4 (by rw [hm2, q9]; rfl)
                              refine lv_iload_n hx hb dX4_nearest_164 rfl (lv_at hl 2 rfl) ?_
                              refine lv_sipush (v := nI 2045) hx hb dX4_nearest_165 (by decide) ?_
                              refine zn_icmp_le (tgt := 177) hx hb dX4_nearest_168 (by decide) (by omega) (by omega) (fun c_5 => ?_) (fun c_5 => ?_)
                              · refine lv_iload_n hx hb dX4_nearest_177 rfl (lv_at hl 2 rfl) ?_
                                refine lv_i2l hx hb dX4_nearest_178 rfl ?_
                                refine lv_lconst (v := 1) hx hb dX4_nearest_179 rfl ?_
                                refine lv_ladd hx hb dX4_nearest_180 ?_
                                refine lv_ldc2 (v := 4503599627370496) hx hb hown (hts (.constantLong RX4 105 (4503599627370496)) (by decide +kernel)) dX4_nearest_181 ?_
                                refine lv_lmul hx hb dX4_nearest_184 ?_
                                refine lv_lload_n hx hb dX4_nearest_185 rfl (lv_at hl 3 rfl) ?_
                                refine lv_ladd hx hb dX4_nearest_186 ?_
                                refine lv_ldc2 (v := 4503599627370496) hx hb hown (hts (.constantLong RX4 105 (4503599627370496)) (by decide +kernel)) dX4_nearest_187 ?_
                                refine lv_lsub hx hb dX4_nearest_190 ?_
                                exact z_retl (by unfold nrF; rw [if_neg h70, if_neg hme, if_pos c_5]; rw [nI_l (by omega)]; rw [hm2]) (ret _ _ dX4_nearest_191)
                              · refine lv_ldc2 (v := 9218868437227405312) hx hb hown (hts (.constantLong RX4 121 (9218868437227405312)) (by decide +kernel)) dX4_nearest_171 ?_
                                refine lv_goto (tgt := 191) hx hb dX4_nearest_174 (by decide) ?_
                                exact z_retl (by unfold nrF; rw [if_neg h70, if_neg hme, if_neg (by omega)]) (ret _ _ dX4_nearest_191)
                            · have hme : m2F N = 9007199254740992 := by rw [← hm2]; exact (lNeq (by rw [hm2]; have := m2_lt N; omega) (by decide)).mp c_4
                              refine lv_ldc2 (v := 4503599627370496) hx hb hown (hts (.constantLong RX4 105 (4503599627370496)) (by decide +kernel)) dX4_nearest_157 ?_
                              refine lv_lstore_n (lv' := [(3, .long 4503599627370496), (0, .ref m0), (1, .int (nI (bl N) - nI 1)), (2, .int (nI (bl N - 53))), (5, .int (bI b9)), (6, .int (nI (bl N - 53 - 1)))]) hx hb dX4_nearest_160 rfl hl (by decide) rfl (fun ls hl => ?_)
                              refine lv_iinc (v := nI (bl N - 53 + 1)) (lv' := [(2, .int (nI (bl N - 53 + 1))), (3, .long 4503599627370496), (0, .ref m0), (1, .int (nI (bl N) - nI 1)), (5, .int (bI b9)), (6, .int (nI (bl N - 53 - 1)))]) hx hb dX4_nearest_161 hl (k := 3) rfl (z_inc _ 1) (by decide) rfl (fun ls hl => ?_)
                              refine lv_iload_n hx hb dX4_nearest_164 rfl (lv_at hl 0 rfl) ?_
                              refine lv_sipush (v := nI 2045) hx hb dX4_nearest_165 (by decide) ?_
                              refine zn_icmp_le (tgt := 177) hx hb dX4_nearest_168 (by decide) (by omega) (by omega) (fun c_6 => ?_) (fun c_6 => ?_)
                              · refine lv_iload_n hx hb dX4_nearest_177 rfl (lv_at hl 0 rfl) ?_
                                refine lv_i2l hx hb dX4_nearest_178 rfl ?_
                                refine lv_lconst (v := 1) hx hb dX4_nearest_179 rfl ?_
                                refine lv_ladd hx hb dX4_nearest_180 ?_
                                refine lv_ldc2 (v := 4503599627370496) hx hb hown (hts (.constantLong RX4 105 (4503599627370496)) (by decide +kernel)) dX4_nearest_181 ?_
                                refine lv_lmul hx hb dX4_nearest_184 ?_
                                refine lv_lload_n hx hb dX4_nearest_185 rfl (lv_at hl 1 rfl) ?_
                                refine lv_ladd hx hb dX4_nearest_186 ?_
                                refine lv_ldc2 (v := 4503599627370496) hx hb hown (hts (.constantLong RX4 105 (4503599627370496)) (by decide +kernel)) dX4_nearest_187 ?_
                                refine lv_lsub hx hb dX4_nearest_190 ?_
                                exact z_retl (by unfold nrF; rw [if_neg h70, if_pos hme, if_pos c_6]; rw [nI_l (by omega)]) (ret _ _ dX4_nearest_191)
                              · refine lv_ldc2 (v := 9218868437227405312) hx hb hown (hts (.constantLong RX4 121 (9218868437227405312)) (by decide +kernel)) dX4_nearest_171 ?_
                                refine lv_goto (tgt := 191) hx hb dX4_nearest_174 (by decide) ?_
                                exact z_retl (by unfold nrF; rw [if_neg h70, if_pos hme, if_neg (by omega)]) (ret _ _ dX4_nearest_191)
                        refine lv_aload_n hx hb dX4_nearest_118 rfl (lv_at hl 0 rfl) ?_
                        refine lv_iload_n hx hb dX4_nearest_119 rfl (lv_at hl 2 rfl) ?_
                        refine lv_iconst (v := nI 1) hx hb dX4_nearest_120 (by decide) ?_
                        refine zn_isub hx hb (by omega) dX4_nearest_121 ?_
                        refine zc_l (W.runV ⟨hx, hb, hml, hown, hts⟩ (kX4_bit l E m0 k0 q0 t0 v0 c0 o0 s0 j0 r0 f0 g0 h0 cd n K M TT VV CC OO b S J RR w1 w2 w3 w4 SF SM FD hn ((bl N - 53) - 1) (by omega)) (cwV 1 hts gX4_nearest_X4_bit rfl rfl rfl (by decide +kernel) ⟨Nat.le_trans (Nat.le_of_ble_eq_true rfl) hRf, Nat.le_trans (Nat.le_of_ble_eq_true rfl) hRl⟩) (z_preV (As := [.int (nI ((bl N - 53) - 1))]) hP hK 0 rfl rfl) rfl rfl hl.1 rfl (lv_room (Nat.le_of_ble_eq_true rfl)) dX4_nearest_122 ⟨Nat.zero_le _, Nat.zero_le _⟩) ?_
                        rw [hbt ((bl N - 53) - 1) (by omega)]
                        refine lv_lconst (v := 1) hx hb dX4_nearest_125 rfl ?_
                        refine zl_ne (tgt := 149) hx hb dX4_nearest_126 dX4_nearest_127 (by decide) (fun c_7 => ?_) (fun c_7 => ?_)
                        · exact lx _ (N / 2 ^ (bl N - 53)) ls (Nat.lt_succ_self _) (by unfold m2F; rw [if_neg (fun q9 => c_7 (lN1.mpr q9.1))]) (lv_sub hl [0, 1, 2, 3, 4, 5] (rfl))
                        · refine lv_iload hx hb dX4_nearest_130 (lv_at hl 4 rfl) ?_
                          refine zb_if_ne (tgt := 145) hx hb dX4_nearest_132 (by decide) (fun c_8 => ?_) (fun c_8 => ?_)
                          · have hmo : ¬ N % 2 ^ (bl N - 53 - 1) = 0 := of_decide_eq_true (hmq.symm.trans c_8)
                            refine lv_lload_n hx hb dX4_nearest_145 rfl (lv_at hl 3 rfl) ?_
                            refine lv_lconst (v := 1) hx hb dX4_nearest_146 rfl ?_
                            refine lv_ladd hx hb dX4_nearest_147 ?_
                            refine lv_lstore_n (lv' := [(3, .long ((lN (N / 2 ^ (bl N - 53))) + 1)), (0, .ref m0), (1, .int (nI (bl N) - nI 1)), (2, .int (nI (bl N - 53))), (5, .int (bI b9)), (6, .int (nI (bl N - 53 - 1)))]) hx hb dX4_nearest_148 rfl hl (by decide) rfl (fun ls hl => ?_)
                            exact lx _ (N / 2 ^ (bl N - 53) + 1) ls (Nat.lt_succ_self _) (by unfold m2F; rw [if_pos ⟨lN1.mp c_7, Or.inl hmo⟩]) (lv_sub hl [1, 2, 3, 0, 4, 5] (by rw [← lN_add]; rfl))
                          · have hmo : ¬ ¬ N % 2 ^ (bl N - 53 - 1) = 0 := of_decide_eq_false (hmq.symm.trans c_8)
                            refine lv_lload_n hx hb dX4_nearest_135 rfl (lv_at hl 3 rfl) ?_
                            refine lv_ldc2 (v := 2) hx hb hown (hts (.constantLong RX4 117 (2)) (by decide +kernel)) dX4_nearest_136 ?_
                            refine lv_lrem hx hb dX4_nearest_139 (by decide) ?_
                            refine lv_lconst (v := 1) hx hb dX4_nearest_140 rfl ?_
                            refine zl_ne (tgt := 149) hx hb dX4_nearest_141 dX4_nearest_142 (by decide) (fun c_9 => ?_) (fun c_9 => ?_)
                            · exact lx _ (N / 2 ^ (bl N - 53)) ls (Nat.lt_succ_self _) (by unfold m2F; rw [if_neg (fun q9 => q9.2.elim hmo (fun q8 => c_9 (by rw [lrem2 (by have := @m53 N; omega)]; exact lN1.mpr q8)))]) (lv_sub hl [0, 1, 2, 3, 4, 5] (rfl))
                            · refine lv_lload_n hx hb dX4_nearest_145 rfl (lv_at hl 3 rfl) ?_
                              refine lv_lconst (v := 1) hx hb dX4_nearest_146 rfl ?_
                              refine lv_ladd hx hb dX4_nearest_147 ?_
                              refine lv_lstore_n (lv' := [(3, .long ((lN (N / 2 ^ (bl N - 53))) + 1)), (0, .ref m0), (1, .int (nI (bl N) - nI 1)), (2, .int (nI (bl N - 53))), (5, .int (bI b9)), (6, .int (nI (bl N - 53 - 1)))]) hx hb dX4_nearest_148 rfl hl (by decide) rfl (fun ls hl => ?_)
                              exact lx _ (N / 2 ^ (bl N - 53) + 1) ls (Nat.lt_succ_self _) (by unfold m2F; rw [if_pos ⟨lN1.mp c_7, Or.inr (lN1.mp (by rw [← lrem2 (by have := @m53 N; omega)]; exact c_9))⟩]) (lv_sub hl [1, 2, 3, 0, 4, 5] (by rw [← lN_add]; rfl))
                      · refine lv_iload hx hb dX4_nearest_89 (lv_at hl 4 rfl) ?_
                        refine zb_if_ne (tgt := 105) hx hb dX4_nearest_91 (by decide) (fun c_10 => ?_) (fun c_10 => ?_)
                        · refine lv_iconst (v := nI 1) hx hb dX4_nearest_105 (by decide) ?_
                          refine lv_goto (tgt := 110) hx hb dX4_nearest_106 (by decide) ?_
                          refine lv_istore (lv' := [(5, .int (nI 1)), (0, .ref m0), (1, .int (nI (bl N) - nI 1)), (2, .int (nI (bl N - 53))), (3, .long (lN (N / 2 ^ (bl N - 53)))), (6, .int (nI i))]) hx hb dX4_nearest_110 hl (by decide) rfl (fun ls hl => ?_)
                          refine lv_iinc (v := nI (i + 1)) (lv' := [(6, .int (nI (i + 1))), (5, .int (nI 1)), (0, .ref m0), (1, .int (nI (bl N) - nI 1)), (2, .int (nI (bl N - 53))), (3, .long (lN (N / 2 ^ (bl N - 53))))]) hx hb dX4_nearest_112 hl (k := 5) rfl (z_inc _ 1) (by decide) rfl (fun ls hl => ?_)
                          refine lv_goto (tgt := 81) hx hb dX4_nearest_115 (by decide) ?_
                          exact ihlw (i + 1) true ls (by omega) (by omega) (more_t (by rw [← hmq]; exact c_10.symm)) (lv_sub hl [2, 3, 4, 5, 1, 0] rfl)
                        · refine lv_aload_n hx hb dX4_nearest_94 rfl (lv_at hl 0 rfl) ?_
                          refine lv_iload hx hb dX4_nearest_95 (lv_at hl 5 rfl) ?_
                          refine zc_l (W.runV ⟨hx, hb, hml, hown, hts⟩ (kX4_bit l E m0 k0 q0 t0 v0 c0 o0 s0 j0 r0 f0 g0 h0 cd n K M TT VV CC OO b S J RR w1 w2 w3 w4 SF SM FD hn i (by omega)) (cwV 1 hts gX4_nearest_X4_bit rfl rfl rfl (by decide +kernel) ⟨Nat.le_trans (Nat.le_of_ble_eq_true rfl) hRf, Nat.le_trans (Nat.le_of_ble_eq_true rfl) hRl⟩) (z_preV (As := [.int (nI i)]) hP hK 0 rfl rfl) rfl rfl hl.1 rfl (lv_room (Nat.le_of_ble_eq_true rfl)) dX4_nearest_97 ⟨Nat.zero_le _, Nat.zero_le _⟩) ?_
                          rw [hbt i (by omega)]
                          refine lv_lconst (v := 1) hx hb dX4_nearest_100 rfl ?_
                          refine zl_ne (tgt := 109) hx hb dX4_nearest_101 dX4_nearest_102 (by decide) (fun c_11 => ?_) (fun c_11 => ?_)
                          · refine lv_iconst (v := nI 0) hx hb dX4_nearest_109 (by decide) ?_
                            refine lv_istore (lv' := [(5, .int (nI 0)), (0, .ref m0), (1, .int (nI (bl N) - nI 1)), (2, .int (nI (bl N - 53))), (3, .long (lN (N / 2 ^ (bl N - 53)))), (6, .int (nI i))]) hx hb dX4_nearest_110 hl (by decide) rfl (fun ls hl => ?_)
                            refine lv_iinc (v := nI (i + 1)) (lv' := [(6, .int (nI (i + 1))), (5, .int (nI 0)), (0, .ref m0), (1, .int (nI (bl N) - nI 1)), (2, .int (nI (bl N - 53))), (3, .long (lN (N / 2 ^ (bl N - 53))))]) hx hb dX4_nearest_112 hl (k := 5) rfl (z_inc _ 1) (by decide) rfl (fun ls hl => ?_)
                            refine lv_goto (tgt := 81) hx hb dX4_nearest_115 (by decide) ?_
                            exact ihlw (i + 1) false ls (by omega) (by omega) (more_0 (by rw [← hmq]; exact c_10.symm) c_11) (lv_sub hl [2, 3, 4, 5, 1, 0] rfl)
                          · refine lv_iconst (v := nI 1) hx hb dX4_nearest_105 (by decide) ?_
                            refine lv_goto (tgt := 110) hx hb dX4_nearest_106 (by decide) ?_
                            refine lv_istore (lv' := [(5, .int (nI 1)), (0, .ref m0), (1, .int (nI (bl N) - nI 1)), (2, .int (nI (bl N - 53))), (3, .long (lN (N / 2 ^ (bl N - 53)))), (6, .int (nI i))]) hx hb dX4_nearest_110 hl (by decide) rfl (fun ls hl => ?_)
                            refine lv_iinc (v := nI (i + 1)) (lv' := [(6, .int (nI (i + 1))), (5, .int (nI 1)), (0, .ref m0), (1, .int (nI (bl N) - nI 1)), (2, .int (nI (bl N - 53))), (3, .long (lN (N / 2 ^ (bl N - 53))))]) hx hb dX4_nearest_112 hl (k := 5) rfl (z_inc _ 1) (by decide) rfl (fun ls hl => ?_)
                            refine lv_goto (tgt := 81) hx hb dX4_nearest_115 (by decide) ?_
                            exact ihlw (i + 1) true ls (by omega) (by omega) (more_1 c_11) (lv_sub hl [2, 3, 4, 5, 1, 0] rfl)
                  exact lw _ 0 false ls (Nat.lt_succ_self _) (Nat.zero_le _) ((decide_eq_false (by rw [Nat.pow_zero, Nat.mod_one]; exact fun q => q rfl)).symm) (lv_sub hl [2, 3, 4, 5, 1, 0] rfl)
                · refine lv_lload_n hx hb dX4_nearest_73 rfl (lv_at hl 3 rfl) ?_
                  exact z_retl (by unfold nrF; rw [if_pos c_2, c_2, Nat.pow_zero, Nat.div_one]) (ret _ _ dX4_nearest_74)
              · have hk0 : bl N - 53 < k := by rw [dec_lt (by omega) (by omega)] at c_1; omega
                rw [pk_sub (show 1 ≤ k by omega)] at hl
                refine lv_ldc2 (v := 2) hx hb hown (hts (.constantLong RX4 117 (2)) (by decide +kernel)) dX4_nearest_50 ?_
                refine lv_lload_n hx hb dX4_nearest_53 rfl (lv_at hl 3 rfl) ?_
                refine lv_lmul hx hb dX4_nearest_54 ?_
                refine lv_aload_n hx hb dX4_nearest_55 rfl (lv_at hl 0 rfl) ?_
                refine lv_iload hx hb dX4_nearest_56 (lv_at hl 4 rfl) ?_
                refine zc_l (W.runV ⟨hx, hb, hml, hown, hts⟩ (kX4_bit l E m0 k0 q0 t0 v0 c0 o0 s0 j0 r0 f0 g0 h0 cd n K M TT VV CC OO b S J RR w1 w2 w3 w4 SF SM FD hn (k - 1) (by omega)) (cwV 1 hts gX4_nearest_X4_bit rfl rfl rfl (by decide +kernel) ⟨Nat.le_trans (Nat.le_of_ble_eq_true rfl) hRf, Nat.le_trans (Nat.le_of_ble_eq_true rfl) hRl⟩) (z_preV (As := [.int (nI (k - 1))]) hP hK 0 rfl rfl) rfl rfl hl.1 rfl (lv_room (Nat.le_of_ble_eq_true rfl)) dX4_nearest_58 ⟨Nat.zero_le _, Nat.zero_le _⟩) ?_
                rw [hbt (k - 1) (by omega)]
                refine lv_ladd hx hb dX4_nearest_61 ?_
                refine lv_lstore_n (lv' := [(3, .long ((2 * (lN (N / 2 ^ k))) + (lN (N / 2 ^ (k - 1) % 2)))), (0, .ref m0), (1, .int (nI (bl N) - nI 1)), (2, .int (nI (bl N - 53))), (5, .int (nI (k - 1)))]) hx hb dX4_nearest_62 rfl hl (by decide) rfl (fun ls hl => ?_)
                refine lv_iinc (v := nI (k - 1) - nI 1) (lv' := [(5, .int (nI (k - 1) - nI 1)), (3, .long ((2 * (lN (N / 2 ^ k))) + (lN (N / 2 ^ (k - 1) % 2)))), (0, .ref m0), (1, .int (nI (bl N) - nI 1)), (2, .int (nI (bl N - 53)))]) hx hb dX4_nearest_63 hl (k := 4) rfl (by rw [show Int32.ofInt (-1) = -1 from by decide, Int32.sub_eq_add_neg]; rfl) (by decide) rfl (fun ls hl => ?_)
                refine lv_goto (tgt := 44) hx hb dX4_nearest_66 (by decide) ?_
                exact ihlv (k - 1) ls (by omega) (by omega) (by omega) (lv_sub hl [2, 3, 4, 1, 0] (by rw [← m_step (show 0 < k by omega)]; rfl))
          exact lv _ (bl N) ls (Nat.lt_succ_self _) (Nat.le_refl _) (by omega) (lv_sub hl [2, 3, 4, 1, 0] (by rw [Nat.div_eq_of_lt (bl_lt N)]; rfl))
      refine lv_iload_n hx hb dX4_nearest_24 rfl (lv_at hl 1 rfl) ?_
      refine lv_bipush (v := nI 52) hx hb dX4_nearest_25 (by decide) ?_
      refine lv_icmp_le (tgt := 37) hx hb dX4_nearest_27 (by decide) (fun c_12 => ?_) (fun c_12 => ?_)
      · refine lv_iconst (v := nI 0) hx hb dX4_nearest_37 (by decide) ?_
        refine lv_istore_n (lv' := [(2, .int (nI 0)), (0, .ref m0), (1, .int (nI (bl N) - nI 1))]) hx hb dX4_nearest_38 rfl hl (by decide) rfl (fun ls hl => ?_)
        exact lu _  ls (Nat.lt_succ_self _) (lv_sub hl [1, 2, 0] (by rw [show bl N - 53 = 0 from by have := (dec_le (by omega) (by omega)).mp c_12; omega]; rfl))
      · have h53 : 53 < bl N := by rw [dec_le (by omega) (by omega)] at c_12; omega
        refine lv_iload_n hx hb dX4_nearest_30 rfl (lv_at hl 1 rfl) ?_
        refine lv_bipush (v := nI 52) hx hb dX4_nearest_31 (by decide) ?_
        refine lv_isub hx hb dX4_nearest_33 ?_
        refine W.eq (g2 := F0 m 34 ls ([.int (nI (bl N - 53))])) (by rw [show (nI (bl N) - nI 1) - (nI 52) = nI (bl N - 53) from sh_pos (by omega)]) ?_
        refine lv_goto (tgt := 38) hx hb dX4_nearest_34 (by decide) ?_
        refine lv_istore_n (lv' := [(2, .int (nI (bl N - 53))), (0, .ref m0), (1, .int (nI (bl N) - nI 1))]) hx hb dX4_nearest_38 rfl hl (by decide) rfl (fun ls hl => ?_)
        exact lu _  ls (Nat.lt_succ_self _) (lv_sub hl [1, 2, 0] (rfl))
  refine lv_sipush (v := nI 2239) hx hb dX4_nearest_0 (by decide) ?_
  refine lv_istore_n (lv' := [(1, .int (nI 2239)), (0, .ref m0)]) hx hb dX4_nearest_3 rfl hl (by decide) rfl (fun ls hl => ?_)
  have lp : ∀ (fu : Nat) (k : Nat) (ls : Array Slot), k < fu → (k ≤ 2240) → (N < 2 ^ k) → lv_has ls 7 [(0, .ref m0), (1, .int (nI k - nI 1))] → W p l e R s m args below meth c s.heap [] 0 0 Q (F0 m 4 ls []) := by
    intro fu
    induction fu with
    | zero => intros; exact absurd (by assumption) (Nat.not_lt_zero _)
    | succ fu ihlp =>
      intro k ls hfu hk hq hl
      refine lv_iload_n hx hb dX4_nearest_4 rfl (lv_at hl 1 rfl) ?_
      refine lv_if_lt (tgt := 24) hx hb dX4_nearest_5 (by decide) (fun c_13 => ?_) (fun c_13 => ?_)
      · obtain rfl : k = 0 := by
          rcases Nat.eq_zero_or_pos k with h9 | h9
          · exact h9
          · exact absurd c_13 (by rw [pk_sub h9]; exact nI_pos (by omega))
        exact lt _  ls (Nat.lt_succ_self _) (lv_sub hl [0, 1] (by rw [← bl_of hq (Or.inl rfl)]; rfl))
      · have hk0 : 0 < k := by
          rcases Nat.eq_zero_or_pos k with h9 | h9
          · subst h9; exact absurd (by decide) c_13
          · exact h9
        rw [pk_sub hk0] at hl
        refine lv_aload_n hx hb dX4_nearest_8 rfl (lv_at hl 0 rfl) ?_
        refine lv_iload_n hx hb dX4_nearest_9 rfl (lv_at hl 1 rfl) ?_
        refine zc_l (W.runV ⟨hx, hb, hml, hown, hts⟩ (kX4_bit l E m0 k0 q0 t0 v0 c0 o0 s0 j0 r0 f0 g0 h0 cd n K M TT VV CC OO b S J RR w1 w2 w3 w4 SF SM FD hn (k - 1) (by omega)) (cwV 1 hts gX4_nearest_X4_bit rfl rfl rfl (by decide +kernel) ⟨Nat.le_trans (Nat.le_of_ble_eq_true rfl) hRf, Nat.le_trans (Nat.le_of_ble_eq_true rfl) hRl⟩) (z_preV (As := [.int (nI (k - 1))]) hP hK 0 rfl rfl) rfl rfl hl.1 rfl (lv_room (Nat.le_of_ble_eq_true rfl)) dX4_nearest_10 ⟨Nat.zero_le _, Nat.zero_le _⟩) ?_
        rw [hbt (k - 1) (by omega)]
        refine lv_lconst (v := 0) hx hb dX4_nearest_13 rfl ?_
        refine zl_ne (tgt := 24) hx hb dX4_nearest_14 dX4_nearest_15 (by decide) (fun c_14 => ?_) (fun c_14 => ?_)
        · exact lt _  ls (Nat.lt_succ_self _) (lv_sub hl [0, 1] (by rw [← bl_of hq (Or.inr (top_end c_14)), pk_sub hk0]; rfl))
        · refine lv_iinc (v := nI (k - 1) - nI 1) (lv' := [(1, .int (nI (k - 1) - nI 1)), (0, .ref m0)]) hx hb dX4_nearest_18 hl (k := 1) rfl (by rw [show Int32.ofInt (-1) = -1 from by decide, Int32.sub_eq_add_neg]; rfl) (by decide) rfl (fun ls hl => ?_)
          refine lv_goto (tgt := 4) hx hb dX4_nearest_21 (by decide) ?_
          exact ihlp (k - 1) ls (by omega) (by omega) (top_step hk0 hq c_14) (lv_sub hl [1, 0] rfl)
  exact lp _ 2240 ls (Nat.lt_succ_self _) (Nat.le_refl _) (Nat.lt_of_lt_of_le (bl_lt N) (Nat.pow_le_pow_right (by decide) hbl)) (lv_sub hl [1, 0] rfl)
set_option maxHeartbeats 4000000 in
set_option maxRecDepth 100000 in
theorem kX4_real (l : Launch) (E : zE) (sz : Nat) (m0 k0 q0 t0 v0 c0 o0 s0 j0 r0 f0 g0 h0 : Nat) (cd : Int32) (n : Nat) (K M : Nat → Nat) (TT : Nat → Int32) (VV CC : Nat → Int64) (OO : Nat → Nat) (b : Nat) (S J : Nat → Nat) (RR : Nat → Bool) (w1 w2 w3 w4 : Int32) (SF SM FD : Nat → Nat) (hn : n ≤ 12) (hM : ∀ j, j < n → M j ≤ 64) (hK5 : ∀ j, j < n → K j < 5) (f : Int32) : Met l yX4_real wsX4_real (rmL 2) (va_Pc [.ref m0, .int f] (zS E (mW E m0 k0 q0 t0 v0 c0 o0 s0 j0 r0 f0 g0 h0 cd n K M TT VV CC OO b S J RR w1 w2 w3 w4 SF SM FD) sz)) (va_Ql (fun (r9 : Int64) (_ : Unit) => r9 = mrA n K M (vw VV) CC f) (fun _ t9 => zW E (mW E m0 k0 q0 t0 v0 c0 o0 s0 j0 r0 f0 g0 h0 (nI 0) n K M TT VV (mrC n K M (vw VV) CC f) OO b S J RR w1 w2 w3 w4 SF SM FD) t9) (va_A (mW E m0 k0 q0 t0 v0 c0 o0 s0 j0 r0 f0 g0 h0 cd n K M TT VV CC OO b S J RR w1 w2 w3 w4 SF SM FD) sz)) 0 0 (va_A (mW E m0 k0 q0 t0 v0 c0 o0 s0 j0 r0 f0 g0 h0 cd n K M TT VV CC OO b S J RR w1 w2 w3 w4 SF SM FD) sz) := by
  refine z_ofWl (cc := cX4_real) (maxL := 5) (own := RX4) (by decide) rfl rfl (Nat.le_of_ble_eq_true rfl) ?_
  intro p e s m args below meth c R Q A B hP hD hA ret ls hl
  obtain ⟨hx, hb, hml, hown, hts, hK, hRf, hRl⟩ := B
  have hiX4 : ∀ w ∈ wsX40, w ∈ wsX4_real := by decide +kernel
  have hf52 := hts (.fieldLink RX4 52 "ExactFoldsModel" "code" "I") (by decide +kernel)
  have hS : va_S A s.heap s.heap [] := va_S.rf
  have hl : lv_has ls 5 [(0, .ref m0), (1, .int f)] := hl
  refine lv_aload_n hx hb dX4_real_0 rfl (lv_at hl 0 rfl) ?_
  refine lv_iconst (v := nI 0) hx hb dX4_real_1 (by decide) ?_
  refine va_put (D := E.1) (ci := 5) (v := .int (nI 0)) (ty := .int) (C := RX4) (T := TX4) (N := 19) hx hb hts hiX4 tyX4 tyX4_ok nmX4 hown hK.1 hP hD hS 0 rfl rfl 0 (by decide) hf52 (fun _ h9 => h9) rfl (by decide +kernel) rfl rfl (Nat.le_of_ble_eq_true rfl) dX4_real_2 (fun H locs hP hD hS => ?_)
  have hP : va_P E.1 vwCl (mW E m0 k0 q0 t0 v0 c0 o0 s0 j0 r0 f0 g0 h0 (nI 0) n K M TT VV CC OO b S J RR w1 w2 w3 w4 SF SM FD) H := hP
  have hD : va_D A (mW E m0 k0 q0 t0 v0 c0 o0 s0 j0 r0 f0 g0 h0 (nI 0) n K M TT VV CC OO b S J RR w1 w2 w3 w4 SF SM FD) := hD
  refine lv_aload_n hx hb dX4_real_5 rfl (lv_at hl 0 rfl) ?_
  refine lv_iload_n hx hb dX4_real_6 rfl (lv_at hl 1 rfl) ?_
  refine lv_iconst (v := nI 1) hx hb dX4_real_7 (by decide) ?_
  refine zc_i (W.runV ⟨hx, hb, hml, hown, hts⟩ (kX4_isOf l E m0 k0 q0 t0 v0 c0 o0 s0 j0 r0 f0 g0 h0 (nI 0) n K M TT VV CC OO b S J RR w1 w2 w3 w4 SF SM FD hn hK5 f 1 (by decide)) (cwV 2 hts gX4_real_X4_isOf rfl rfl rfl (by decide +kernel) ⟨Nat.le_trans (Nat.le_of_ble_eq_true rfl) hRf, Nat.le_trans (Nat.le_of_ble_eq_true rfl) hRl⟩) (z_preV (As := [.int f, .int (nI 1)]) hP hK 0 rfl rfl) rfl rfl hl.1 rfl (lv_room (Nat.le_of_ble_eq_true rfl)) dX4_real_8 ⟨Nat.zero_le _, Nat.zero_le _⟩) ?_
  refine zb_if_ne (tgt := 16) hx hb dX4_real_11 (by decide) (fun c_1 => ?_) (fun c_1 => ?_)
  · obtain ⟨j, hjj, rfl, hkdj, hfij⟩ := fk_some (by omega) c_1
    have hMj := hM j hjj
    have hKj := hK5 j hjj
    refine lv_aload_n hx hb dX4_real_16 rfl (lv_at hl 0 rfl) ?_
    refine lv_iload_n hx hb dX4_real_17 rfl (lv_at hl 1 rfl) ?_
    refine lv_iconst (v := nI 0) hx hb dX4_real_18 (by decide) ?_
    refine zall_i (wc' := (mW E m0 k0 q0 t0 v0 c0 o0 s0 j0 r0 f0 g0 h0 (nI 0) n K M TT VV (carL (msL CC false (vw VV j) (M j)) 70) OO b S J RR w1 w2 w3 w4 SF SM FD)) (va_runV ⟨hx, hb, hml, hown, hts⟩ (kX4_sum0 l E _ m0 k0 q0 t0 v0 c0 o0 s0 j0 r0 f0 g0 h0 (nI 0) n K M TT VV CC OO b S J RR w1 w2 w3 w4 SF SM FD hn hM j hjj) (cwV 2 hts gX4_real_X4_sum rfl rfl rfl (by decide +kernel) ⟨Nat.le_trans (Nat.le_of_ble_eq_true rfl) hRf, Nat.le_trans (Nat.le_of_ble_eq_true rfl) hRl⟩) (z_preWV (As := [.int (nI j), .int (nI 0)]) hP hD hK 0 rfl rfl) rfl rfl hl.1 rfl (lv_room (Nat.le_of_ble_eq_true rfl)) dX4_real_19 ⟨Nat.zero_le _, Nat.zero_le _⟩) hD hS hA rfl (fun H locs hP hD hS => ?_)
    refine zb_if_ne (tgt := 29) hx hb dX4_real_22 (by decide) (fun c_2 => ?_) (fun c_2 => ?_)
    · refine lv_iconst (v := nI 0) hx hb dX4_real_29 (by decide) ?_
      refine lv_istore_n (lv' := [(2, .int (nI 0)), (0, .ref m0), (1, .int (nI j))]) hx hb dX4_real_30 rfl hl (by decide) rfl (fun ls hl => ?_)
      refine lv_iload_n hx hb dX4_real_31 rfl (lv_at hl 0 rfl) ?_
      refine zn_if_eq (tgt := 42) hx hb dX4_real_32 (by decide) (by decide) (fun _ => ?_) (fun h => absurd h (by decide))
      refine lv_aload_n hx hb dX4_real_42 rfl (lv_at hl 1 rfl) ?_
      refine zc_l (W.runV ⟨hx, hb, hml, hown, hts⟩ (kX4_nearest l E m0 k0 q0 t0 v0 c0 o0 s0 j0 r0 f0 g0 h0 (nI 0) n K M TT VV (carL (msL CC false (vw VV j) (M j)) 70) OO b S J RR w1 w2 w3 w4 SF SM FD hn (cvN (carL (msL CC false (vw VV j) (M j)) 70)) (cvN_bl _) (cv_bit rfl)) (cwV 0 hts gX4_real_X4_nearest rfl rfl rfl (by decide +kernel) ⟨Nat.le_trans (Nat.le_of_ble_eq_true rfl) hRf, Nat.le_trans (Nat.le_of_ble_eq_true rfl) hRl⟩) (z_preV (As := []) hP hK 0 rfl rfl) rfl rfl hl.1 rfl (lv_room (Nat.le_of_ble_eq_true rfl)) dX4_real_43 ⟨Nat.zero_le _, Nat.zero_le _⟩) ?_
      refine lv_lstore_n (lv' := [(3, .long (nrF (cvN (carL (msL CC false (vw VV j) (M j)) 70)))), (2, .int (nI 0)), (0, .ref m0), (1, .int (nI j))]) hx hb dX4_real_46 rfl hl (by decide) rfl (fun ls hl => ?_)
      refine lv_iload_n hx hb dX4_real_47 rfl (lv_at hl 1 rfl) ?_
      refine zn_if_eq (tgt := 59) hx hb dX4_real_48 (by decide) (by decide) (fun _ => ?_) (fun h => absurd h (by decide))
      refine lv_lload_n hx hb dX4_real_59 rfl (lv_at hl 0 rfl) ?_
      exact z_retl ((rlM_0 c_2).trans (mrA_s hfij).symm) (ret _ _ _ _ (by rw [mrC_s hfij, rlC_0 c_2]; exact hP) hS dX4_real_60)
    · refine lv_iconst (v := nI 1) hx hb dX4_real_25 (by decide) ?_
      refine lv_goto (tgt := 30) hx hb dX4_real_26 (by decide) ?_
      refine lv_istore_n (lv' := [(2, .int (nI 1)), (0, .ref m0), (1, .int (nI j))]) hx hb dX4_real_30 rfl hl (by decide) rfl (fun ls hl => ?_)
      refine lv_iload_n hx hb dX4_real_31 rfl (lv_at hl 0 rfl) ?_
      refine zn_if_eq (tgt := 42) hx hb dX4_real_32 (by decide) (by decide) (fun h => absurd h (by decide)) (fun _ => ?_)
      refine lv_aload_n hx hb dX4_real_35 rfl (lv_at hl 1 rfl) ?_
      refine lv_iload_n hx hb dX4_real_36 rfl (lv_at hl 2 rfl) ?_
      refine lv_iconst (v := nI 1) hx hb dX4_real_37 (by decide) ?_
      refine zall_i (wc' := (mW E m0 k0 q0 t0 v0 c0 o0 s0 j0 r0 f0 g0 h0 (nI 0) n K M TT VV (carL (msL (carL (msL CC false (vw VV j) (M j)) 70) true (vw VV j) (M j)) 70) OO b S J RR w1 w2 w3 w4 SF SM FD)) (va_runV ⟨hx, hb, hml, hown, hts⟩ (kX4_sum1 l E _ m0 k0 q0 t0 v0 c0 o0 s0 j0 r0 f0 g0 h0 (nI 0) n K M TT VV (carL (msL CC false (vw VV j) (M j)) 70) OO b S J RR w1 w2 w3 w4 SF SM FD hn hM j hjj) (cwV 2 hts gX4_real_X4_sum rfl rfl rfl (by decide +kernel) ⟨Nat.le_trans (Nat.le_of_ble_eq_true rfl) hRf, Nat.le_trans (Nat.le_of_ble_eq_true rfl) hRl⟩) (z_preWV (As := [.int (nI j), .int (nI 1)]) hP hD hK 0 rfl rfl) rfl rfl hl.1 rfl (lv_room (Nat.le_of_ble_eq_true rfl)) dX4_real_38 ⟨Nat.zero_le _, Nat.zero_le _⟩) hD hS hA rfl (fun H locs hP hD hS => ?_)
      refine lv_istore_n (lv' := [(2, .int (bI (nng (msL (carL (msL CC false (vw VV j) (M j)) 70) true (vw VV j) (M j))))), (0, .ref m0), (1, .int (nI j))]) hx hb dX4_real_41 rfl hl (by decide) rfl (fun ls hl => ?_)
      refine lv_aload_n hx hb dX4_real_42 rfl (lv_at hl 1 rfl) ?_
      refine zc_l (W.runV ⟨hx, hb, hml, hown, hts⟩ (kX4_nearest l E m0 k0 q0 t0 v0 c0 o0 s0 j0 r0 f0 g0 h0 (nI 0) n K M TT VV (carL (msL (carL (msL CC false (vw VV j) (M j)) 70) true (vw VV j) (M j)) 70) OO b S J RR w1 w2 w3 w4 SF SM FD hn (cvN (carL (msL (carL (msL CC false (vw VV j) (M j)) 70) true (vw VV j) (M j)) 70)) (cvN_bl _) (cv_bit rfl)) (cwV 0 hts gX4_real_X4_nearest rfl rfl rfl (by decide +kernel) ⟨Nat.le_trans (Nat.le_of_ble_eq_true rfl) hRf, Nat.le_trans (Nat.le_of_ble_eq_true rfl) hRl⟩) (z_preV (As := []) hP hK 0 rfl rfl) rfl rfl hl.1 rfl (lv_room (Nat.le_of_ble_eq_true rfl)) dX4_real_43 ⟨Nat.zero_le _, Nat.zero_le _⟩) ?_
      refine lv_lstore_n (lv' := [(3, .long (nrF (cvN (carL (msL (carL (msL CC false (vw VV j) (M j)) 70) true (vw VV j) (M j)) 70)))), (2, .int (bI (nng (msL (carL (msL CC false (vw VV j) (M j)) 70) true (vw VV j) (M j))))), (0, .ref m0), (1, .int (nI j))]) hx hb dX4_real_46 rfl hl (by decide) rfl (fun ls hl => ?_)
      refine lv_iload_n hx hb dX4_real_47 rfl (lv_at hl 1 rfl) ?_
      refine zb_if_eq (tgt := 59) hx hb dX4_real_48 (by decide) (fun c_3 => ?_) (fun c_3 => ?_)
      · refine lv_lload_n hx hb dX4_real_59 rfl (lv_at hl 0 rfl) ?_
        exact z_retl ((rlM_2 c_2 c_3).trans (mrA_s hfij).symm) (ret _ _ _ _ (by rw [mrC_s hfij, rlC_1 c_2]; exact hP) hS dX4_real_60)
      · refine lv_lload_n hx hb dX4_real_51 rfl (lv_at hl 0 rfl) ?_
        refine lv_ldc2 (v := (-9223372036854775808)) hx hb hown (hts (.constantLong RX4 131 (-9223372036854775808)) (by decide +kernel)) dX4_real_52 ?_
        refine lv_lor hx hb dX4_real_55 ?_
        refine lv_goto (tgt := 60) hx hb dX4_real_56 (by decide) ?_
        exact z_retl ((rlM_1 c_2 c_3).trans (mrA_s hfij).symm) (ret _ _ _ _ (by rw [mrC_s hfij, rlC_1 c_2]; exact hP) hS dX4_real_60)
  · have hfij := fk_none c_1
    refine lv_lconst (v := 0) hx hb dX4_real_14 rfl ?_
    exact z_retl (by unfold mrA; rw [hfij]; rfl) (ret _ _ _ _ (by rw [show mrC n K M (vw VV) CC f = CC from by unfold mrC; rw [hfij]; rfl]; exact hP) hS dX4_real_15)
