/-! doubles: limbs as whole numbers -/
def ct (m : Int64) (s : Nat) (g : Int64) (j : Nat) : Int64 := if j = s / 32 then g * (jshl (m &&& 4294967295) (nI (s % 32)) &&& 4294967295) else if j = s / 32 + 1 then g * (jushr (jshl (m &&& 4294967295) (nI (s % 32))) (nI 32) + (jshl (jushr m (nI 32)) (nI (s % 32)) &&& 4294967295)) else if j = s / 32 + 2 then g * jushr (jshl (jushr m (nI 32)) (nI (s % 32))) (nI 32) else 0
theorem mv3_ct (L : Nat → Int64) (m : Int64) (s : Nat) (g : Int64) (j : Nat) : mv3 L m s g j = L j + ct m s g j := by
  unfold mv3 mv2 mv1 ct vp_updL
  by_cases a : j = s / 32
  · subst a
    rw [if_neg (by omega), if_neg (by omega), if_pos rfl, if_pos rfl]
  · by_cases b : j = s / 32 + 1
    · subst b
      rw [if_neg (by omega), if_pos rfl, if_neg a, if_pos rfl, if_neg a]
    · by_cases c : j = s / 32 + 2
      · subst c
        rw [if_pos rfl, if_neg b, if_neg a, if_neg a, if_neg b, if_pos rfl]
      · rw [if_neg c, if_neg b, if_neg a, if_neg a, if_neg b, if_neg c, Int64.add_zero]
theorem ct_neg (m : Int64) (s : Nat) (g : Int64) (j : Nat) : ct m s (-g) j = -(ct m s g j) := by
  unfold ct
  split
  · rw [Int64.neg_mul]
  · split
    · rw [Int64.neg_mul]
    · split
      · rw [Int64.neg_mul]
      · rfl
theorem dgM_eq (x : Int64) : dgM x = dgt x := by
  unfold dgM dgt
  split
  · rfl
  · apply Int64.toBitVec_inj.mp
    rw [Int64.toBitVec_add, Int64.toBitVec_or]
    apply BitVec.add_eq_or_of_and_eq_zero
    rw [Int64.toBitVec_and, BitVec.and_assoc]
    rw [show (4503599627370495 : Int64).toBitVec &&& (4503599627370496 : Int64).toBitVec = 0#64 from by decide]
    exact BitVec.and_zero
theorem sgM_f (x : Int64) : sgM false x = sgN x := by
  unfold sgM sgN
  by_cases c : x < 0
  · rw [decide_eq_true c, if_neg (by decide), if_pos c]
  · rw [decide_eq_false c, if_pos rfl, if_neg c]
theorem sgM_t (x : Int64) : sgM true x = -(sgN x) := by
  unfold sgM sgN
  by_cases c : x < 0
  · rw [decide_eq_true c, if_pos rfl, if_pos c]; rfl
  · rw [decide_eq_false c, if_neg (by decide), if_neg c]
/-- what a double gives to limb j -/
def cx (j : Nat) (x : Int64) : Int64 := ct (dgt x) (shN x) (sgN x) j
def cxn (j : Nat) (x : Int64) : Int64 := -(cx j x)
theorem cx_hi {j : Nat} (h : 66 ≤ j) (x : Int64) : cx j x = 0 := by
  have := shN_lt x
  unfold cx ct
  rw [if_neg (by omega), if_neg (by omega), if_neg (by omega)]
theorem sumL_at (L : Nat → Int64) (T : Nat → Int32) (V : Nat → Int64) (n j : Nat) (hj : j < 67) : sumL L V n j = fsum (cx j) (rws T V n) := by
  unfold sumL
  induction n with
  | zero => show setL L (fun _ => 0) 67 j = 0; unfold setL; rw [if_pos hj]
  | succ n ih => show put3 (putN (setL L (fun _ => 0) 67) V n) (V n) j = fsum (cx j) (rws T V n) + cx j (V n); rw [put3_mv, mv3_ct, ih]; rfl
theorem msL_at (C : Nat → Int64) (T : Nat → Int32) (V : Nat → Int64) (n j : Nat) (hj : j < 70) : msL C false V n j = fsum (cx j) (rws T V n) := by
  unfold msL
  induction n with
  | zero => show setL C (fun _ => 0) 70 j = 0; unfold setL; rw [if_pos hj]
  | succ n ih => show mv3 (mpN (setL C (fun _ => 0) 70) false V n) (dgM (V n)) (shN (V n)) (sgM false (V n)) j = fsum (cx j) (rws T V n) + cx j (V n); rw [mv3_ct, ih, dgM_eq, sgM_f]; rfl
theorem msL_at1 (C : Nat → Int64) (T : Nat → Int32) (V : Nat → Int64) (n j : Nat) (hj : j < 70) : msL C true V n j = fsum (cxn j) (rws T V n) := by
  unfold msL
  induction n with
  | zero => show setL C (fun _ => 0) 70 j = 0; unfold setL; rw [if_pos hj]
  | succ n ih => show mv3 (mpN (setL C (fun _ => 0) 70) true V n) (dgM (V n)) (shN (V n)) (sgM true (V n)) j = fsum (cxn j) (rws T V n) + cxn j (V n); rw [mv3_ct, ih, dgM_eq, sgM_t, ct_neg]; rfl
theorem fsum_neg (j : Nat) (l : List (Int32 × Int64)) : fsum (cxn j) l = -(fsum (cx j) l) := by
  induction l with
  | nil => show (0 : Int64) = -(0 : Int64); decide
  | cons a l ih => show fsum (cxn j) l + cxn j a.2 = -(fsum (cx j) l + cx j a.2); rw [ih, Int64.neg_add]; unfold cxn; rw [Int64.sub_eq_add_neg]
/-- bounds -/
theorem bm64 {x : Int} (h : -9223372036854775808 ≤ x) (h2 : x < 9223372036854775808) : x.bmod (2 ^ 64) = x := by
  rw [Int.bmod_def]; split <;> omega
theorem tI_add {a b : Int64} (h : -9223372036854775808 ≤ a.toInt + b.toInt) (h2 : a.toInt + b.toInt < 9223372036854775808) : (a + b).toInt = a.toInt + b.toInt := by rw [Int64.toInt_add, bm64 h h2]
theorem tI_neg {a : Int64} (h : -9223372036854775808 < a.toInt) : (-a).toInt = -a.toInt := by
  have := Int64.toInt_lt a
  rw [Int64.toInt_neg, bm64 (by omega) (by omega)]
theorem lo_b (x : Int64) : 0 ≤ (x &&& 4294967295).toInt ∧ (x &&& 4294967295).toInt < 4294967296 := by
  obtain ⟨m, h1, h2⟩ := pf_andw x
  rw [h2, pf_lI (by omega)]; omega
theorem hi_b (x : Int64) : 0 ≤ (jushr x (nI 32)).toInt ∧ (jushr x (nI 32)).toInt < 4294967296 := by
  obtain ⟨a, ha, rfl⟩ := wb_of x
  rw [show jushr (lN a) (nI 32) = lN (a / 2 ^ 32) from wb_shr ha (by decide), pf_lI (by omega)]
  omega
theorem sg_b {x y : Int64} {B : Int} (hB : 0 ≤ B) (hB2 : B < 9223372036854775808) (h : 0 ≤ y.toInt) (h2 : y.toInt ≤ B) : -B ≤ (sgN x * y).toInt ∧ (sgN x * y).toInt ≤ B := by
  unfold sgN
  split
  · rw [show (-1 : Int64) * y = -y from by rw [Int64.neg_mul, Int64.one_mul], tI_neg (by omega)]; omega
  · rw [Int64.one_mul]; omega
theorem cx_b (j : Nat) (x : Int64) : -8589934592 ≤ (cx j x).toInt ∧ (cx j x).toInt ≤ 8589934592 := by
  unfold cx ct
  have a := lo_b (jshl (dgt x &&& 4294967295) (nI (shN x % 32)))
  have b := hi_b (jshl (dgt x &&& 4294967295) (nI (shN x % 32)))
  have c := lo_b (jshl (jushr (dgt x) (nI 32)) (nI (shN x % 32)))
  have d := hi_b (jshl (jushr (dgt x) (nI 32)) (nI (shN x % 32)))
  split
  · exact sg_b (by omega) (by omega) a.1 (by omega)
  · split
    · have e := tI_add (a := jushr (jshl (dgt x &&& 4294967295) (nI (shN x % 32))) (nI 32)) (b := jshl (jushr (dgt x) (nI 32)) (nI (shN x % 32)) &&& 4294967295) (by omega) (by omega)
      exact sg_b (by omega) (by omega) (by omega) (by omega)
    · split
      · exact sg_b (by omega) (by omega) d.1 (by omega)
      · have : (0 : Int64).toInt = 0 := rfl
        omega
theorem fs_b (j : Nat) (l : List (Int32 × Int64)) (h : l.length ≤ 64) : -(8589934592 * (l.length : Int)) ≤ (fsum (cx j) l).toInt ∧ (fsum (cx j) l).toInt ≤ 8589934592 * (l.length : Int) := by
  induction l with
  | nil => exact ⟨by show -(8589934592 * ((0 : Nat) : Int)) ≤ (0 : Int64).toInt; decide, by show (0 : Int64).toInt ≤ 8589934592 * ((0 : Nat) : Int); decide⟩
  | cons a l ih =>
    have h1 : (a :: l).length = l.length + 1 := rfl
    rw [h1] at h ⊢
    have i := ih (by omega)
    have b := cx_b j a.2
    have e : (fsum (cx j) (a :: l)).toInt = (fsum (cx j) l).toInt + (cx j a.2).toInt := tI_add (by omega) (by omega)
    rw [e]; push_cast; omega
/-- limbs and carries -/
theorem car_cg {L L' : Nat → Int64} {n : Nat} (h : ∀ j, j < n → L' j = L j) : car L' n = car L n := by
  induction n with
  | zero => rfl
  | succ n ih => show jshr (L' n + car L' n) (nI 32) = jshr (L n + car L n) (nI 32); rw [ih (fun j hj => h j (by omega)), h n (by omega)]
theorem carL_cg {L L' : Nat → Int64} {n : Nat} (h : ∀ j, j < n → L' j = L j) : ∀ j, j < n → carL L' n j = carL L n j := by
  intro j hj
  unfold carL
  rw [if_pos hj, if_pos hj, h j hj, car_cg (fun k hk => h k (by omega))]
theorem jshr32 (x : Int64) : (jshr x (nI 32)).toInt = x.toInt / 4294967296 := by
  show (jshr x (nI 32)).toBitVec.toInt = _
  unfold jshr
  rw [Int64.toBitVec_shiftRight, wb_c 32 (by decide)]
  rw [show (lN 32).toBitVec.smod 64 = BitVec.ofNat 64 32 from wb_sm 32 (by decide)]
  show (x.toBitVec.sshiftRight (BitVec.ofNat 64 32).toNat).toInt = _
  rw [BitVec.toInt_sshiftRight, show (BitVec.ofNat 64 32).toNat = 32 from rfl, Int.shiftRight_eq_div_pow]
  rfl
theorem lo32 (x : Int64) : ((uN (x &&& 4294967295) : Nat) : Int) = x.toInt % 4294967296 := by
  rw [uN_lo, uN_int]
  split <;> omega
/-- limbs as one whole number -/
def pw (n : Nat) : Int := ((2 ^ (32 * n) : Nat) : Int)
theorem pw_s (n : Nat) : pw (n + 1) = 4294967296 * pw n := by
  unfold pw
  rw [show 32 * (n + 1) = 32 + 32 * n by omega, Nat.pow_add, Int.natCast_mul]; rfl
theorem pw_pos (n : Nat) : 0 < pw n := by unfold pw; have := Nat.two_pow_pos (32 * n); omega
def iv (L : Nat → Int64) : Nat → Int
  | 0 => 0
  | j + 1 => iv L j + (L j).toInt * pw j
def dg (L : Nat → Int64) (j : Nat) : Nat := uN ((L j + car L j) &&& 4294967295)
theorem dg_lt (L : Nat → Int64) (j : Nat) : dg L j < 2 ^ 32 := by unfold dg; rw [uN_lo]; exact Nat.mod_lt _ (by decide)
def bdd (L : Nat → Int64) (n : Nat) : Prop := ∀ j, j < n → -1099511627776 ≤ (L j).toInt ∧ (L j).toInt ≤ 1099511627776
theorem car_spec {L : Nat → Int64} {n : Nat} (h : bdd L n) : (-1024 ≤ (car L n).toInt ∧ (car L n).toInt ≤ 1024) ∧ iv L n = ((vaD (dg L) n : Nat) : Int) + (car L n).toInt * pw n := by
  induction n with
  | zero => exact ⟨⟨by show -1024 ≤ (0 : Int64).toInt; decide, by show (0 : Int64).toInt ≤ 1024; decide⟩, by show (0 : Int) = ((0 : Nat) : Int) + (0 : Int64).toInt * pw 0; rw [show (0 : Int64).toInt = 0 from rfl, Int.zero_mul]; rfl⟩
  | succ n ih =>
    obtain ⟨hc, hv⟩ := ih (fun j hj => h j (by omega))
    have hb := h n (by omega)
    have e := tI_add (a := L n) (b := car L n) (by omega) (by omega)
    have e1 : (car L (n + 1)).toInt = (L n + car L n).toInt / 4294967296 := jshr32 _
    have e2 : ((dg L n : Nat) : Int) = (L n + car L n).toInt % 4294967296 := lo32 _
    refine ⟨by rw [e1, e]; omega, ?_⟩
    show iv L n + (L n).toInt * pw n = ((vaD (dg L) n + dg L n * 2 ^ (32 * n) : Nat) : Int) + _
    rw [hv, pw_s, e1]
    have e3 : (L n + car L n).toInt * pw n = ((L n + car L n).toInt / 4294967296) * (4294967296 * pw n) + ((L n + car L n).toInt % 4294967296) * pw n := by
      rw [← Int.mul_assoc, ← Int.add_mul]
      congr 1
      omega
    have e4 : ((vaD (dg L) n + dg L n * 2 ^ (32 * n) : Nat) : Int) = ((vaD (dg L) n : Nat) : Int) + ((L n + car L n).toInt % 4294967296) * pw n := by
      rw [← e2]; unfold pw; push_cast; rfl
    have e5 : (L n + car L n).toInt * pw n = (L n).toInt * pw n + (car L n).toInt * pw n := by rw [e, Int.add_mul]
    rw [e4]
    omega
theorem iv_b {L : Nat → Int64} {n : Nat} (h : bdd L n) : -(512 * pw n) ≤ iv L n ∧ iv L n ≤ 512 * pw n := by
  induction n with
  | zero => exact ⟨by show -(512 * pw 0) ≤ (0 : Int); decide, by show (0 : Int) ≤ 512 * pw 0; decide⟩
  | succ n ih =>
    have i := ih (fun j hj => h j (by omega))
    have hb := h n (by omega)
    have p := pw_pos n
    have a : (L n).toInt * pw n ≤ 1099511627776 * pw n := Int.mul_le_mul_of_nonneg_right hb.2 (by omega)
    have b : -1099511627776 * pw n ≤ (L n).toInt * pw n := Int.mul_le_mul_of_nonneg_right hb.1 (by omega)
    rw [pw_s]
    show -(512 * (4294967296 * pw n)) ≤ iv L n + (L n).toInt * pw n ∧ iv L n + (L n).toInt * pw n ≤ 512 * (4294967296 * pw n)
    omega
theorem iv_cg {L L' : Nat → Int64} {n : Nat} (h : ∀ j, j < n → L' j = L j) : iv L' n = iv L n := by
  induction n with
  | zero => rfl
  | succ n ih => show iv L' n + (L' n).toInt * pw n = iv L n + (L n).toInt * pw n; rw [ih (fun j hj => h j (by omega)), h n (by omega)]
theorem iv_neg {L L' : Nat → Int64} {n : Nat} (hb : bdd L n) (h : ∀ j, j < n → L' j = -(L j)) : iv L' n = -(iv L n) := by
  induction n with
  | zero => rfl
  | succ n ih =>
    show iv L' n + (L' n).toInt * pw n = -(iv L n + (L n).toInt * pw n)
    have b := hb n (by omega)
    rw [ih (fun j hj => hb j (by omega)) (fun j hj => h j (by omega)), h n (by omega), tI_neg (by omega), Int.neg_mul]; omega
theorem iv_0 {L : Nat → Int64} {n : Nat} (h : L n = 0) : iv L (n + 1) = iv L n := by
  show iv L n + (L n).toInt * pw n = iv L n
  rw [h, show (0 : Int64).toInt = 0 from rfl, Int.zero_mul]; omega
theorem vaD_cg {D D' : Nat → Nat} {n : Nat} (h : ∀ j, j < n → D' j = D j) : vaD D' n = vaD D n := by
  induction n with
  | zero => rfl
  | succ n ih => show vaD D' n + D' n * _ = vaD D n + D n * _; rw [ih (fun j hj => h j (by omega)), h n (by omega)]
theorem iv_dg {L : Nat → Int64} {D : Nat → Nat} {n : Nat} (h : ∀ j, j < n → (L j).toInt = ((D j : Nat) : Int)) : iv L n = ((vaD D n : Nat) : Int) := by
  induction n with
  | zero => rfl
  | succ n ih =>
    show iv L n + (L n).toInt * pw n = ((vaD D n + D n * 2 ^ (32 * n) : Nat) : Int)
    rw [ih (fun j hj => h j (by omega)), h n (by omega)]; unfold pw; push_cast; rfl
theorem sg_iff {N : Nat} {P c v : Int} (hN : (N : Int) < P) (hP : 0 < P) (h : v = (N : Int) + c * P) : (c < 0 ↔ v < 0) ∧ (0 ≤ v → v < P → (N : Int) = v) ∧ (v < 0 → -P ≤ v → (N : Int) = v + P) := by
  have up : ∀ k : Int, k ≤ c → k * P ≤ c * P := fun k hk => Int.mul_le_mul_of_nonneg_right hk (by omega)
  have dn : ∀ k : Int, c ≤ k → c * P ≤ k * P := fun k hk => Int.mul_le_mul_of_nonneg_right hk (by omega)
  refine ⟨⟨fun hc => ?_, fun hv => ?_⟩, fun h1 h2 => ?_, fun h1 h2 => ?_⟩
  · have := dn (-1) (by omega); rw [Int.neg_mul, Int.one_mul] at this; omega
  · rcases Int.lt_or_le c 0 with q | q
    · exact q
    · have := up 0 q; rw [Int.zero_mul] at this; omega
  · have c0 : c = 0 := by
      rcases Int.lt_trichotomy c 0 with q | q | q
      · have := dn (-1) (by omega); rw [Int.neg_mul, Int.one_mul] at this; omega
      · exact q
      · have := up 1 (by omega); rw [Int.one_mul] at this; omega
    rw [c0, Int.zero_mul] at h; omega
  · have c0 : c = -1 := by
      rcases Int.lt_trichotomy c (-1) with q | q | q
      · have := dn (-2) (by omega); rw [show (-2 : Int) * P = -(2 * P) from by rw [Int.neg_mul]] at this; omega
      · exact q
      · have := up 0 (by omega); rw [Int.zero_mul] at this; omega
    rw [c0, Int.neg_mul, Int.one_mul] at h; omega
theorem vaD_pw {D : Nat → Nat} {n : Nat} (h : ∀ j, j < n → D j < 2 ^ 32) : ((vaD D n : Nat) : Int) < pw n := by have := vaD_lt h; unfold pw; omega
/-- the number behind the carries -/
theorem num_pos {L : Nat → Int64} {n : Nat} (h : bdd L n) (h0 : 0 ≤ iv L n) (h1 : iv L n < pw n) : vaD (dg L) n = (iv L n).natAbs := by
  obtain ⟨hc, hv⟩ := car_spec h
  have := (sg_iff (vaD_pw (fun j _ => dg_lt L j)) (pw_pos n) hv).2.1 h0 h1
  omega
theorem car_neg {L : Nat → Int64} {n : Nat} (h : bdd L n) : car L n < 0 ↔ iv L n < 0 := by
  obtain ⟨hc, hv⟩ := car_spec h
  rw [l_lt]; exact (sg_iff (vaD_pw (fun j _ => dg_lt L j)) (pw_pos n) hv).1
theorem car_dg {L : Nat → Int64} {n j : Nat} (hj : j < n) : uN (carL L n j) = dg L j := by unfold carL dg; rw [if_pos hj]
theorem car_ti {L : Nat → Int64} {n j : Nat} (hj : j < n) : (carL L n j).toInt = ((dg L j : Nat) : Int) := by
  have h := dg_lt L j
  rw [uN_int, car_dg hj, if_pos (by omega)]
/-- the sums of both -/
def LL (T : Nat → Int32) (V : Nat → Int64) (n j : Nat) : Int64 := fsum (cx j) (rws T V n)
theorem LL_b (T : Nat → Int32) (V : Nat → Int64) {n : Nat} (hn : n ≤ 64) (k : Nat) : bdd (LL T V n) k := by
  intro j _
  have h := fs_b j (rws T V n) (by rw [rws_len]; exact hn)
  rw [rws_len] at h
  show -1099511627776 ≤ (fsum (cx j) (rws T V n)).toInt ∧ (fsum (cx j) (rws T V n)).toInt ≤ 1099511627776
  omega
theorem fs_0 {g : Int64 → Int64} (h : ∀ x, g x = 0) (l : List (Int32 × Int64)) : fsum g l = 0 := by
  induction l with
  | nil => rfl
  | cons a l ih => show fsum g l + g a.2 = 0; rw [ih, h]; rfl
theorem LL_hi (T : Nat → Int32) (V : Nat → Int64) (n : Nat) {j : Nat} (h : 66 ≤ j) : LL T V n j = 0 := fs_0 (fun x => cx_hi h x) _
theorem LL_67 (T : Nat → Int32) (V : Nat → Int64) (n : Nat) : iv (LL T V n) 67 = iv (LL T V n) 66 := iv_0 (LL_hi T V n (by omega))
theorem LL_70 (T : Nat → Int32) (V : Nat → Int64) (n : Nat) : iv (LL T V n) 70 = iv (LL T V n) 66 := by
  rw [iv_0 (LL_hi T V n (show 66 ≤ 69 by omega)), iv_0 (LL_hi T V n (show 66 ≤ 68 by omega)), iv_0 (LL_hi T V n (show 66 ≤ 67 by omega)), iv_0 (LL_hi T V n (show 66 ≤ 66 by omega))]
theorem LL_v (T : Nat → Int32) (V : Nat → Int64) {n : Nat} (hn : n ≤ 64) : -(pw 67) < iv (LL T V n) 66 ∧ iv (LL T V n) 66 < pw 67 ∧ pw 67 ≤ pw 70 := by
  have h := iv_b (LL_b T V hn 66)
  have p := pw_pos 66
  have a : pw 67 = 4294967296 * pw 66 := pw_s 66
  have b : pw 68 = 4294967296 * pw 67 := pw_s 67
  have c : pw 69 = 4294967296 * pw 68 := pw_s 68
  have d : pw 70 = 4294967296 * pw 69 := pw_s 69
  omega
theorem cls_neg (L : Nat → Int64) (T : Nat → Int32) (V : Nat → Int64) {n : Nat} (hn : n ≤ 64) : isNeg (sumL L V n) = decide (iv (LL T V n) 66 < 0) := by
  unfold isNeg
  apply decide_eq_decide.mpr
  rw [car_cg (L := LL T V n) (fun j hj => sumL_at L T V n j hj), car_neg (LL_b T V hn 67), LL_67]
theorem lim_cg {L L' : Nat → Int64} (h : ∀ j, j < 67 → L' j = L j) : ∀ j, j < 67 → limN L' j = limN L j := by
  intro j hj; unfold limN; rw [if_pos hj, if_pos hj, h j hj]
theorem lim_dg {L : Nat → Int64} {j : Nat} (hj : j < 67) : limN (carL L 67) j = dg L j := by
  unfold limN; rw [if_pos hj]
  show uN (carL L 67 j) % 2 ^ 32 = _
  rw [car_dg hj, Nat.mod_eq_of_lt (dg_lt L j)]
theorem cls_num (L : Nat → Int64) (T : Nat → Int32) (V : Nat → Int64) {n : Nat} (hn : n ≤ 64) : vaD (limN (endL (sumL L V n))) 67 = (iv (LL T V n) 66).natAbs := by
  have hv := LL_v T V hn
  have hb := LL_b T V hn 67
  have hL : ∀ j, j < 67 → sumL L V n j = LL T V n j := fun j hj => sumL_at L T V n j hj
  unfold endL
  rw [cls_neg L T V hn]
  by_cases c : iv (LL T V n) 66 < 0
  · rw [if_pos (decide_eq_true c)]
    have hd : ∀ j, j < 67 → negL (carL (sumL L V n) 67) j = -(carL (LL T V n) 67 j) := by
      intro j hj; unfold negL setL; rw [if_pos hj]; show -(carL (sumL L V n) 67 j) = _; rw [carL_cg hL j hj]
    have hbd : bdd (carL (LL T V n) 67) 67 := fun j hj => by rw [car_ti hj]; have := dg_lt (LL T V n) j; omega
    have hbn : bdd (negL (carL (sumL L V n) 67)) 67 := fun j hj => by
      have h := hbd j hj
      rw [hd j hj, tI_neg (by omega)]; omega
    have e1 : iv (negL (carL (sumL L V n) 67)) 67 = -((vaD (dg (LL T V n)) 67 : Nat) : Int) := by rw [iv_neg hbd hd, iv_dg (fun j hj => car_ti hj)]
    obtain ⟨-, hs⟩ := car_spec hb
    have e2 := (sg_iff (vaD_pw (fun j _ => dg_lt (LL T V n) j)) (pw_pos 67) hs).2.2 (by rw [LL_67]; exact c) (by rw [LL_67]; omega)
    rw [LL_67] at e2
    rw [e2] at e1
    obtain ⟨-, hs2⟩ := car_spec hbn
    have e3 := (sg_iff (vaD_pw (fun j _ => dg_lt (negL (carL (sumL L V n) 67)) j)) (pw_pos 67) hs2).2.2 (by rw [e1]; omega) (by rw [e1]; omega)
    rw [vaD_cg (D := dg (negL (carL (sumL L V n) 67))) (fun j hj => lim_dg hj)]
    rw [e1] at e3
    omega
  · rw [if_neg (by rw [decide_eq_false c]; exact Bool.false_ne_true)]
    rw [vaD_cg (D := limN (carL (LL T V n) 67)) (fun j hj => lim_cg (carL_cg hL) j hj), vaD_cg (D := dg (LL T V n)) (fun j hj => lim_dg hj)]
    rw [num_pos hb (by rw [LL_67]; omega) (by rw [LL_67]; omega), LL_67]
theorem cv_dg {L : Nat → Int64} : cvN (carL L 70) = vaD (dg L) 70 := by
  unfold cvN
  exact vaD_cg (fun j hj => by rw [car_dg hj, Nat.mod_eq_of_lt (dg_lt L j)])
theorem cv_cg {L L' : Nat → Int64} (h : ∀ j, j < 70 → L' j = L j) : cvN (carL L' 70) = cvN (carL L 70) := by
  unfold cvN
  exact vaD_cg (fun j hj => by rw [carL_cg h j hj])
theorem mod_nng0 (C : Nat → Int64) (T : Nat → Int32) (V : Nat → Int64) {n : Nat} (hn : n ≤ 64) : nng (msL C false V n) = decide (¬ iv (LL T V n) 66 < 0) := by
  unfold nng
  apply decide_eq_decide.mpr
  rw [car_cg (L := LL T V n) (fun j hj => msL_at C T V n j hj), car_neg (LL_b T V hn 70), LL_70]
theorem mod_num0 (C : Nat → Int64) (T : Nat → Int32) (V : Nat → Int64) {n : Nat} (hn : n ≤ 64) (h : ¬ iv (LL T V n) 66 < 0) : cvN (carL (msL C false V n) 70) = (iv (LL T V n) 66).natAbs := by
  have hv := LL_v T V hn
  rw [cv_cg (L := LL T V n) (fun j hj => msL_at C T V n j hj), cv_dg, num_pos (LL_b T V hn 70) (by rw [LL_70]; omega) (by rw [LL_70]; omega), LL_70]
theorem mod_L1 (C : Nat → Int64) (T : Nat → Int32) (V : Nat → Int64) {n : Nat} : ∀ j, j < 70 → msL C true V n j = -(LL T V n j) := fun j hj => by rw [msL_at1 C T V n j hj, fsum_neg]; rfl
theorem mod_b1 (C : Nat → Int64) (T : Nat → Int32) (V : Nat → Int64) {n : Nat} (hn : n ≤ 64) : bdd (msL C true V n) 70 := fun j hj => by
  have h := LL_b T V hn 70 j hj
  rw [mod_L1 C T V j hj, tI_neg (by omega)]; omega
theorem mod_v1 (C : Nat → Int64) (T : Nat → Int32) (V : Nat → Int64) {n : Nat} (hn : n ≤ 64) : iv (msL C true V n) 70 = -(iv (LL T V n) 66) := by rw [iv_neg (LL_b T V hn 70) (mod_L1 C T V), LL_70]
theorem mod_nng1 (C : Nat → Int64) (T : Nat → Int32) (V : Nat → Int64) {n : Nat} (hn : n ≤ 64) (h : iv (LL T V n) 66 < 0) : nng (msL C true V n) = true := by
  unfold nng
  refine decide_eq_true ?_
  rw [car_neg (mod_b1 C T V hn), mod_v1 C T V hn]; omega
theorem mod_num1 (C : Nat → Int64) (T : Nat → Int32) (V : Nat → Int64) {n : Nat} (hn : n ≤ 64) (h : iv (LL T V n) 66 < 0) : cvN (carL (msL C true V n) 70) = (iv (LL T V n) 66).natAbs := by
  have hv := LL_v T V hn
  rw [cv_dg, num_pos (mod_b1 C T V hn) (by rw [mod_v1 C T V hn]; omega) (by rw [mod_v1 C T V hn]; omega), mod_v1 C T V hn]; omega
