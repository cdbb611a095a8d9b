/-! doubles: the digits rounded once -/
theorem nI_64 {k : Nat} (h : k < 2 ^ 31) : (nI k).toInt64 = lN k := by
  apply Int64.toInt_inj.mp
  rw [Int32.toInt_toInt64, pf_lI (by omega)]
  show (Int32.ofNat k).toInt = k
  rw [Int32.toInt_ofNat']
  show Int.bmod (k : Int) 4294967296 = k
  rw [Int.bmod_def]
  split <;> omega
theorem lN_0 {a : Nat} (h : a < 2 ^ 64) : lN a = 0 ↔ a = 0 := lNeq (b := 0) h (by decide)
theorem hbK_bl {D : Nat → Nat} (h : ∀ j, D j < 2 ^ 32) (k : Nat) : hbK D k = bl (vaD D k) := by
  induction k with
  | zero => rfl
  | succ k ih =>
    have hk := h k
    show (if lN (D k) = 0 then hbK D k else k * 32 + Nat.log2 (D k) + 1) = bl (vaD D k + D k * 2 ^ (32 * k))
    by_cases c : D k = 0
    · rw [if_pos ((lN_0 (by omega)).mpr c), ih, c, Nat.zero_mul, Nat.add_zero]
    · rw [if_neg (fun q => c ((lN_0 (by omega)).mp q))]
      have hv := vaD_lt (n := k) (fun j _ => h j)
      have h1 : 2 ^ Nat.log2 (D k) ≤ D k := Nat.log2_self_le c
      have h2 : D k < 2 ^ (Nat.log2 (D k) + 1) := Nat.lt_log2_self
      refine bl_of ?_ (Or.inr ?_)
      · rw [show k * 32 + Nat.log2 (D k) + 1 = (Nat.log2 (D k) + 1) + 32 * k by omega, Nat.pow_add]
        have : (D k + 1) * 2 ^ (32 * k) ≤ 2 ^ (Nat.log2 (D k) + 1) * 2 ^ (32 * k) := Nat.mul_le_mul_right _ h2
        rw [Nat.add_mul, Nat.one_mul] at this
        omega
      · rw [show k * 32 + Nat.log2 (D k) + 1 - 1 = Nat.log2 (D k) + 32 * k by omega, Nat.pow_add]
        have := Nat.mul_le_mul_right (2 ^ (32 * k)) h1
        omega
theorem vaD_tb {D : Nat → Nat} (h : ∀ j, D j < 2 ^ 32) (h0 : ∀ j, 67 ≤ j → D j = 0) (i : Nat) : (vaD D 67).testBit i = (D (i / 32)).testBit (i % 32) := by
  rw [Nat.testBit_eq_decide_div_mod_eq, Nat.testBit_eq_decide_div_mod_eq]
  by_cases c : i < 32 * 67
  · rw [vaD_bit (fun j _ => h j) c]
  · have hv := vaD_lt (n := 67) (fun j _ => h j)
    have e : vaD D 67 / 2 ^ i = 0 := Nat.div_eq_of_lt (Nat.lt_of_lt_of_le hv (Nat.pow_le_pow_right (by decide) (by omega)))
    rw [e, h0 _ (by omega), Nat.zero_div]
theorem setF_bit {D : Nat → Nat} (h : ∀ j, D j < 2 ^ 32) (h0 : ∀ j, 67 ≤ j → D j = 0) (b : Nat) : setF D b = decide (vaD D 67 / 2 ^ b % 2 = 1) := by
  have hb := h (b / 32)
  rw [← Nat.testBit_eq_decide_div_mod_eq, vaD_tb h h0, Nat.testBit_eq_decide_div_mod_eq]
  unfold setF
  apply decide_eq_decide.mpr
  rw [show jushr (lN (D (b / 32))) (nI (b % 32)) &&& 1 = lN (D (b / 32) / 2 ^ (b % 32) % 2) from wb_bit (by omega) (by omega), lN_0 (by omega)]
  omega
theorem dgF_of {D : Nat → Nat} {N : Nat} (h : ∀ j, D j < 2 ^ 32) (hN : ∀ i, N.testBit i = (D (i / 32)).testBit (i % 32)) (b : Nat) : dgF D b = lN (N / 2 ^ b % 2 ^ 53) := by
  have a0 := h (b / 32)
  have a1 := h (b / 32 + 1)
  have a2 := h (b / 32 + 2)
  unfold dgF
  rw [show jshl (lN (D (b / 32 + 1))) (nI 32) = lN (D (b / 32 + 1) * 2 ^ 32) from wb_shl _ (by decide)]
  rw [wb_or (by omega) (by omega)]
  have hX : D (b / 32) ||| D (b / 32 + 1) * 2 ^ 32 < 2 ^ 64 := Nat.or_lt_two_pow (by omega) (by omega)
  rw [show jushr (lN (D (b / 32) ||| D (b / 32 + 1) * 2 ^ 32)) (nI (b % 32)) = lN ((D (b / 32) ||| D (b / 32 + 1) * 2 ^ 32) / 2 ^ (b % 32)) from wb_shr hX (by omega)]
  rw [show jshl (lN (D (b / 32 + 2))) (nI (32 - b % 32)) = lN (D (b / 32 + 2) * 2 ^ (32 - b % 32)) from wb_shl _ (by omega)]
  rw [show jshl (lN (D (b / 32 + 2) * 2 ^ (32 - b % 32))) (nI 32) = lN (D (b / 32 + 2) * 2 ^ (32 - b % 32) * 2 ^ 32) from wb_shl _ (by decide)]
  rw [wb_mod (D (b / 32 + 2) * 2 ^ (32 - b % 32) * 2 ^ 32)]
  rw [wb_or (Nat.lt_of_le_of_lt (Nat.div_le_self _ _) hX) (Nat.mod_lt _ (by decide))]
  rw [show (9007199254740991 : Int64) = lN (2 ^ 53 - 1) from rfl]
  rw [wb_mask (Nat.or_lt_two_pow (Nat.lt_of_le_of_lt (Nat.div_le_self _ _) hX) (Nat.mod_lt _ (by decide))) (by decide)]
  congr 1
  apply Nat.eq_of_testBit_eq
  intro i
  rw [Nat.testBit_mod_two_pow, Nat.testBit_mod_two_pow]
  by_cases c : i < 53
  · rw [decide_eq_true c, Bool.true_and, Bool.true_and, Nat.testBit_or, Nat.testBit_div_two_pow, Nat.testBit_or, Nat.testBit_mod_two_pow, decide_eq_true (show i < 64 by omega), Bool.true_and, Nat.testBit_mul_two_pow, Nat.testBit_mul_two_pow, Nat.testBit_mul_two_pow, Nat.testBit_div_two_pow, hN]
    have big : ∀ (x k : Nat), x < 2 ^ 32 → 32 ≤ k → x.testBit k = false := fun x k hx hk => Nat.testBit_lt_two_pow (Nat.lt_of_lt_of_le hx (Nat.pow_le_pow_right (by decide) hk))
    rcases (show i + b % 32 < 32 ∨ (32 ≤ i + b % 32 ∧ i + b % 32 < 64) ∨ 64 ≤ i + b % 32 by omega) with q | q | q
    · rw [show (i + b) / 32 = b / 32 by omega, show (i + b) % 32 = i + b % 32 by omega, decide_eq_false (show ¬ i + b % 32 ≥ 32 by omega)]
      by_cases q2 : i ≥ 32
      · rw [decide_eq_false (show ¬ i - 32 ≥ 32 - b % 32 by omega)]; simp
      · rw [decide_eq_false q2]; simp
    · rw [show (i + b) / 32 = b / 32 + 1 by omega, show (i + b) % 32 = i + b % 32 - 32 by omega, decide_eq_true (show i + b % 32 ≥ 32 by omega), big _ (i + b % 32) a0 (by omega)]
      by_cases q2 : i ≥ 32
      · rw [decide_eq_false (show ¬ i - 32 ≥ 32 - b % 32 by omega)]; simp
      · rw [decide_eq_false q2]; simp
    · rw [show (i + b) / 32 = b / 32 + 2 by omega, show (i + b) % 32 = i - 32 - (32 - b % 32) by omega, decide_eq_true (show i + b % 32 ≥ 32 by omega), big _ (i + b % 32) a0 (by omega), big _ (i + b % 32 - 32) a1 (by omega), decide_eq_true (show i ≥ 32 by omega), decide_eq_true (show i - 32 ≥ 32 - b % 32 by omega)]; simp
  · rw [decide_eq_false c]; rfl
theorem dgF_eq {D : Nat → Nat} (h : ∀ j, D j < 2 ^ 32) (h0 : ∀ j, 67 ≤ j → D j = 0) (b : Nat) : dgF D b = lN (vaD D 67 / 2 ^ b % 2 ^ 53) := dgF_of h (vaD_tb h h0) b
theorem anyP_iff {D : Nat → Nat} (h : ∀ j, D j < 2 ^ 32) (k : Nat) : anyP D k = true ↔ vaD D k ≠ 0 := by
  induction k with
  | zero => exact ⟨fun q => absurd (show false = true from q) Bool.false_ne_true, fun q => absurd rfl q⟩
  | succ k ih =>
    have hk := h k
    have hp := Nat.two_pow_pos (32 * k)
    show (anyP D k || decide (¬ lN (D k) = 0)) = true ↔ vaD D k + D k * 2 ^ (32 * k) ≠ 0
    rw [Bool.or_eq_true, ih, decide_eq_true_iff, lN_0 (by omega)]
    constructor
    · rintro (q | q)
      · omega
      · have := Nat.mul_pos (Nat.pos_of_ne_zero q) hp; omega
    · intro q
      by_cases q2 : D k = 0
      · rw [q2, Nat.zero_mul] at q; exact Or.inl q
      · exact Or.inr q2
theorem vaD_app (D : Nat → Nat) (q k : Nat) : ∃ z, vaD D (q + k) = vaD D q + z * 2 ^ (32 * q) := by
  induction k with
  | zero => exact ⟨0, by rw [Nat.zero_mul]; rfl⟩
  | succ k ih =>
    obtain ⟨z, hz⟩ := ih
    refine ⟨z + D (q + k) * 2 ^ (32 * k), ?_⟩
    show vaD D (q + k) + D (q + k) * 2 ^ (32 * (q + k)) = _
    rw [hz, show 32 * (q + k) = 32 * k + 32 * q by omega, Nat.pow_add, Nat.add_mul, Nat.mul_assoc]; omega
theorem vaD_up {D : Nat → Nat} {n : Nat} (h0 : ∀ j, n ≤ j → D j = 0) (k : Nat) : vaD D (n + k) = vaD D n := by
  induction k with
  | zero => rfl
  | succ k ih => show vaD D (n + k) + D (n + k) * _ = _; rw [ih, h0 _ (by omega), Nat.zero_mul]; rfl
theorem mod_calc {A d z q r b : Nat} (hv : A < 2 ^ (32 * q)) (hq : b = r + 32 * q) (hr : r < 32) : (A + d * 2 ^ (32 * q) + z * 2 ^ (32 * (q + 1))) % 2 ^ b = A + d % 2 ^ r * 2 ^ (32 * q) := by
  have hb : 2 ^ b = 2 ^ r * 2 ^ (32 * q) := by rw [← Nat.pow_add, hq]
  have hc : 2 ^ (32 * (q + 1)) = 2 ^ (32 - r) * 2 ^ b := by rw [← Nat.pow_add]; congr 1; omega
  have e2 := Nat.div_add_mod d (2 ^ r)
  have e3 : d * 2 ^ (32 * q) = d % 2 ^ r * 2 ^ (32 * q) + d / 2 ^ r * 2 ^ b := by
    rw [hb, ← Nat.mul_assoc, ← Nat.add_mul, Nat.mul_comm (d / 2 ^ r), Nat.add_comm, e2]
  have lt : A + d % 2 ^ r * 2 ^ (32 * q) < 2 ^ b := by
    rw [hb]
    have h1 : d % 2 ^ r + 1 ≤ 2 ^ r := Nat.mod_lt _ (Nat.two_pow_pos _)
    have h2 := Nat.mul_le_mul_right (2 ^ (32 * q)) h1
    rw [Nat.add_mul, Nat.one_mul] at h2
    omega
  rw [hc, ← Nat.mul_assoc, Nat.add_mul_mod_self_right, e3, ← Nat.add_assoc, Nat.add_mul_mod_self_right, Nat.mod_eq_of_lt lt]
theorem vaD_mod {D : Nat → Nat} {n : Nat} (h : ∀ j, D j < 2 ^ 32) (h0 : ∀ j, n ≤ j → D j = 0) (b : Nat) : vaD D n % 2 ^ b = vaD D (b / 32) + D (b / 32) % 2 ^ (b % 32) * 2 ^ (32 * (b / 32)) := by
  have e : vaD D n = vaD D (n + (b / 32 + 1)) := (vaD_up h0 _).symm
  obtain ⟨z, hz⟩ := vaD_app D (b / 32 + 1) n
  rw [e, show n + (b / 32 + 1) = b / 32 + 1 + n by omega, hz]
  exact mod_calc (vaD_lt (fun j _ => h j)) (by omega) (by omega)
theorem anyF_eq {D : Nat → Nat} (h : ∀ j, D j < 2 ^ 32) (h0 : ∀ j, 67 ≤ j → D j = 0) (b : Nat) : anyF D b = decide (¬ vaD D 67 % 2 ^ b = 0) := by
  have hb := h (b / 32)
  have hp := Nat.two_pow_pos (32 * (b / 32))
  have hm : D (b / 32) % 2 ^ (b % 32) < 2 ^ 32 := Nat.lt_of_le_of_lt (Nat.mod_le _ _) hb
  have e : lN (D (b / 32)) &&& (jshl 1 (nI (b % 32)) - 1) = lN (D (b / 32) % 2 ^ (b % 32)) := by
    rw [show jshl 1 (nI (b % 32)) = lN (1 * 2 ^ (b % 32)) from wb_shl 1 (by omega), Nat.one_mul]
    have : lN (2 ^ (b % 32)) - 1 = lN (2 ^ (b % 32) - 1) := by
      have hq := Nat.two_pow_pos (b % 32)
      obtain ⟨m, hm⟩ : ∃ m, 2 ^ (b % 32) = m + 1 := ⟨2 ^ (b % 32) - 1, by omega⟩
      rw [hm, Nat.add_sub_cancel]
      show Int64.ofNat (m + 1) - 1 = Int64.ofNat m
      rw [Int64.ofNat_add]; exact Int64.add_sub_cancel _ _
    rw [this, wb_mask (by omega) (by omega)]
  unfold anyF
  rw [e]
  apply Bool.eq_iff_iff.mpr
  rw [Bool.or_eq_true, anyP_iff h, decide_eq_true_iff, decide_eq_true_iff, lN_0 (by omega), vaD_mod h h0]
  constructor
  · rintro (q | q)
    · omega
    · have := Nat.mul_pos (Nat.pos_of_ne_zero q) hp; omega
  · intro q
    by_cases q2 : D (b / 32) % 2 ^ (b % 32) = 0
    · rw [q2, Nat.zero_mul] at q; exact Or.inl (by omega)
    · exact Or.inr q2
theorem vaD_hi {D : Nat → Nat} (h : ∀ j, D j < 2 ^ 32) : bl (vaD D 67) ≤ 32 * 67 := bl_le (vaD_lt (fun j _ => h j))
theorem rszF_nr {D : Nat → Nat} (h : ∀ j, D j < 2 ^ 32) (h0 : ∀ j, 67 ≤ j → D j = 0) : rszF D = nrF (vaD D 67) := by
  have hb := vaD_hi h
  have hN := bl_lt (vaD D 67)
  have h53 := @m53 (vaD D 67)
  unfold rszF nrF
  rw [hbK_bl h, dgF_eq h h0, dgF_eq h h0]
  by_cases c : bl (vaD D 67) ≤ 53
  · rw [if_pos c, if_pos (by omega), Nat.pow_zero, Nat.div_one, Nat.mod_eq_of_lt (Nat.lt_of_lt_of_le hN (Nat.pow_le_pow_right (by decide) c))]
  · rw [if_neg c, if_neg (show ¬ bl (vaD D 67) - 53 = 0 by omega), Nat.mod_eq_of_lt h53]
    have hr : rupF D (bl (vaD D 67) - 53) = decide (vaD D 67 / 2 ^ (bl (vaD D 67) - 53 - 1) % 2 = 1 ∧ (¬ vaD D 67 % 2 ^ (bl (vaD D 67) - 53 - 1) = 0 ∨ vaD D 67 / 2 ^ (bl (vaD D 67) - 53) % 2 = 1)) := by
      unfold rupF
      rw [setF_bit h h0, setF_bit h h0, anyF_eq h h0]
      apply Bool.eq_iff_iff.mpr
      rw [Bool.and_eq_true, Bool.or_eq_true, decide_eq_true_iff, decide_eq_true_iff, decide_eq_true_iff, decide_eq_true_iff]
      constructor
      · exact fun q => ⟨q.1, q.2.symm⟩
      · exact fun q => ⟨q.1, q.2.symm⟩
    have hl : (nI (bl (vaD D 67) - 53)).toInt64 = lN (bl (vaD D 67) - 53) := nI_64 (by omega)
    have hsh : jshl (lN (bl (vaD D 67) - 53)) (nI 52) = lN ((bl (vaD D 67) - 53) * 2 ^ 52) := wb_shl _ (by decide)
    have hlo : 2 ^ 52 ≤ vaD D 67 / 2 ^ (bl (vaD D 67) - 53) := by
      rw [Nat.le_div_iff_mul_le (Nat.two_pow_pos _), ← Nat.pow_add]
      have hz : vaD D 67 ≠ 0 := fun q => c (by rw [q]; decide)
      have e : bl (vaD D 67) = Nat.log2 (vaD D 67) + 1 := by show (if vaD D 67 = 0 then 0 else _) = _; rw [if_neg hz]
      rw [show 52 + (bl (vaD D 67) - 53) = Nat.log2 (vaD D 67) by omega]
      exact Nat.log2_self_le hz
    have ad : ∀ a b : Nat, lN a + lN b = lN (a + b) := fun a b => (Int64.ofNat_add a b).symm
    have ml : ∀ a b : Nat, lN a * lN b = lN (a * b) := fun a b => (Int64.ofNat_mul a b).symm
    have sb : ∀ a b : Nat, lN (a + b) - lN b = lN a := fun a b => by rw [← ad]; exact Int64.add_sub_cancel _ _
    rw [hl, hsh, hr]
    unfold m2F
    generalize vaD D 67 / 2 ^ (bl (vaD D 67) - 53) = m at *
    generalize bl (vaD D 67) - 53 = k at *
    have one : (1 : Int64) = lN 1 := rfl
    have two : (4503599627370496 : Int64) = lN (2 ^ 52) := rfl
    by_cases u : vaD D 67 / 2 ^ (k - 1) % 2 = 1 ∧ (¬ vaD D 67 % 2 ^ (k - 1) = 0 ∨ m % 2 = 1)
    · rw [if_pos u, if_pos (decide_eq_true u)]
      by_cases e : m + 1 = 9007199254740992
      · rw [if_pos e]
        by_cases f : 2046 ≤ k
        · rw [if_pos f, if_neg (show ¬ k + 1 ≤ 2045 by omega)]
        · rw [if_neg f]
          by_cases g : k + 1 ≤ 2045
          · rw [if_pos g, two, one, ad, ad, ad, ml, ad, sb]
            exact congrArg lN (by omega)
          · rw [if_neg g, one, ad, ad, show k * 2 ^ 52 + m + 1 = 9218868437227405312 by omega]; rfl
      · rw [if_neg e]
        by_cases f : 2046 ≤ k
        · rw [if_pos f, if_neg (by omega)]
        · rw [if_neg f, if_pos (by omega), two, one, ad, ad, ad, ml, ad]
          rw [show (k + 1) * 2 ^ 52 + (m + 1) = k * 2 ^ 52 + m + 1 + 2 ^ 52 by omega, sb]
    · rw [if_neg u, if_neg (fun q => u (of_decide_eq_true q)), if_neg (show ¬ m = 9007199254740992 by omega)]
      by_cases f : 2046 ≤ k
      · rw [if_pos f, if_neg (by omega)]
      · rw [if_neg f, if_pos (by omega), two, one, ad, ad, ml, ad]
        rw [show (k + 1) * 2 ^ 52 + m = k * 2 ^ 52 + m + 2 ^ 52 by omega, sb]
theorem LL_perm {T T' : Nat → Int32} {V V' : Nat → Int64} {n : Nat} (h : (rws T V n).Perm (rws T' V' n)) : LL T V n = LL T' V' n := by funext j; exact fsum_perm h
theorem realF_eq (L C : Nat → Int64) {T T' : Nat → Int32} {V V' : Nat → Int64} {n : Nat} (hn : n ≤ 64) (h : (rws T V n).Perm (rws T' V' n)) : realF L V n = rlM C V' n := by
  have hd := endL_dg (sumL L V n)
  have e : rszF (limN (endL (sumL L V n))) = nrF (iv (LL T V n) 66).natAbs := by rw [rszF_nr (isDg_lt hd) hd.2, cls_num L T V hn]
  have hp := LL_perm h
  unfold realF rlM
  rw [e, cls_neg L T V hn, mod_nng0 C T' V' hn, ← hp]
  by_cases c : iv (LL T V n) 66 < 0
  · rw [if_pos (decide_eq_true c), if_neg (by rw [decide_eq_false (fun q => q c)]; exact Bool.false_ne_true), if_pos (mod_nng1 _ T' V' hn (by rw [← hp]; exact c)), mod_num1 _ T' V' hn (by rw [← hp]; exact c), ← hp]
  · rw [if_neg (by rw [decide_eq_false c]; exact Bool.false_ne_true), if_pos (decide_eq_true c), mod_num0 C T' V' hn (by rw [← hp]; exact c), ← hp]
