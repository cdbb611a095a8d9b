/-! what is reached and what is wrong: the class's bits and the model's row -/
theorem bt1 : ∀ i, i < 32 → bt (nI 1) i = decide (i = 0) := by decide +kernel
theorem hold_bt {m : Int32} {s : Nat} (hs : s < 32) : hold m s = bt m s := by
  unfold hold
  have h0 : bt (m >>> (nI s &&& 31)) 0 = bt m s := by rw [b_sshr s hs m (by decide), if_pos (by omega)]; rfl
  have key : ((m >>> (nI s &&& 31)) &&& nI 1 = 0) ↔ bt m s = false := by
    constructor
    · intro h
      have h2 := congrArg (fun x => bt x 0) h
      have h2 : bt ((m >>> (nI s &&& 31)) &&& nI 1) 0 = bt 0 0 := h2
      rw [b_and, h0, bt1 0 (by decide), b_0] at h2
      simpa using h2
    · intro h
      apply b_ext
      intro i hi
      rw [b_and, b_0, bt1 i hi]
      by_cases e : i = 0
      · subst e; rw [h0, h]; rfl
      · rw [decide_eq_false e, Bool.and_false]
  cases hb : bt m s
  · exact decide_eq_false (fun q => q (key.mpr hb))
  · exact decide_eq_true (fun q => by rw [key.mp q] at hb; exact Bool.false_ne_true hb)
theorem bit_bt : ∀ k, k < 8 → ∀ j, j < 8 → bt (bitI k) j = decide (j = k) := by decide +kernel
theorem hold_or (a b : Int32) {j : Nat} (hj : j < 8) : hold (a ||| b) j = (hold a j || hold b j) := by rw [hold_bt (by omega), hold_bt (by omega), hold_bt (by omega), b_or]
theorem hold_bit {k j : Nat} (hk : k < 8) (hj : j < 8) : hold (bitI k) j = decide (j = k) := by rw [hold_bt (by omega), bit_bt k hk j hj]
theorem hold_0 {j : Nat} (hj : j < 8) : hold (nI 0) j = false := by rw [hold_bt (by omega)]; exact b_0 j
def svS (S : Nat → Nat) (s j : Nat) : Nat → Bool
  | 0 => false
  | v + 1 => svS S s j v || decide (j = S (4 * s + v))
theorem sfr_hold {S : Nat → Nat} (hS : ∀ j, S j < 8) (s : Nat) {j : Nat} (hj : j < 8) (v : Nat) : hold (sfr S s v) j = svS S s j v := by
  induction v with
  | zero => exact hold_0 hj
  | succ v ih => show hold (sfr S s v ||| bitI (S (s * 4 + v))) j = _; rw [hold_or _ _ hj, ih, hold_bit (hS _) hj, Nat.mul_comm s 4]; rfl
theorem rkS_blk {S : Nat → Nat} {R : Nat → Bool} {s : Nat} (j : Nat) (v : Nat) (hv : v ≤ 4) : rkS S R (4 * s + v) j = (rkS S R (4 * s) j || (rkS S R (4 * s) s && svS S s j v)) := by
  induction v generalizing j with
  | zero => show rkS S R (4 * s) j = _; unfold svS; rw [Bool.and_false, Bool.or_false]
  | succ v ih =>
    show updN (rkS S R (4 * s + v)) (S (4 * s + v)) (rkS S R (4 * s + v) (S (4 * s + v)) || rkS S R (4 * s + v) ((4 * s + v) / 4)) j = _
    have e1 : (4 * s + v) / 4 = s := by omega
    have e2 : rkS S R (4 * s + v) s = rkS S R (4 * s) s := by
      rw [ih s (by omega)]
      cases rkS S R (4 * s) s <;> simp
    rw [e1, e2]
    unfold svS
    by_cases c : j = S (4 * s + v)
    · subst c
      rw [updN_self, ih _ (by omega), decide_eq_true rfl]
      cases rkS S R (4 * s) (S (4 * s + v)) <;> cases rkS S R (4 * s) s <;> simp
    · rw [updN_ne _ _ c, ih j (by omega), decide_eq_false c, Bool.or_false]
theorem rin_eq {S : Nat → Nat} (hS : ∀ j, S j < 8) {m : Int32} {R : Nat → Bool} (h : ∀ j, j < 8 → hold m j = R j) (s : Nat) (hs : s ≤ 8) : ∀ j, j < 8 → hold (rin S m s) j = rkS S R (4 * s) j := by
  induction s with
  | zero => exact h
  | succ s ih =>
    intro j hj
    have i1 := ih (by omega)
    rw [show 4 * (s + 1) = 4 * s + 4 by omega, rkS_blk j 4 (Nat.le_refl _), ← i1 j hj, ← i1 s (by omega)]
    show hold (if hold (rin S m s) s = true then rin S m s ||| sfr S s 4 else rin S m s) j = _
    by_cases c : hold (rin S m s) s = true
    · rw [if_pos c, hold_or _ _ hj, sfr_hold hS s hj, c, Bool.true_and]
    · rw [if_neg c, show hold (rin S m s) s = false from by cases h9 : hold (rin S m s) s; rfl; exact absurd h9 c, Bool.false_and, Bool.or_false]
theorem rout_eq {S : Nat → Nat} (hS : ∀ j, S j < 8) {b : Nat} (hb : b < 8) (R : Nat → Bool) (r : Nat) : ∀ j, j < 8 → hold (rout S b r) j = rtS S (rc0 R b 8) r j := by
  induction r with
  | zero => intro j hj; show hold (bitI b) j = rc0 R b 8 j; rw [hold_bit hb hj]; unfold rc0; rw [if_pos hj]
  | succ r ih => exact fun j hj => rin_eq hS ih 8 (Nat.le_refl _) j hj
theorem lokF_stuck {S J : Nat → Nat} {R : Nat → Bool} {s f k : Nat} {w : zQ4} (h : ¬ w.1 = 0) : lokF S J R s f k w = w := by
  cases f with
  | zero => rfl
  | succ f => unfold lokF; rw [if_neg h]
theorem ltfF_stuck {S J : Nat → Nat} {m : Int32} {s f k : Nat} {w : zQ4} (h : ¬ w.1 = 0) : ltfF S J m s f k w = w := by
  cases f with
  | zero => rfl
  | succ f => unfold ltfF; rw [if_neg h]
theorem mckF_stuck {S J : Nat → Nat} {b : Nat} {R : Nat → Bool} {f k : Nat} {w : zQ4} (h : ¬ w.1 = 0) : mckF S J b R f k w = w := by
  cases f with
  | zero => rfl
  | succ f => unfold mckF; rw [if_neg h]
theorem ltF_stuck {S J : Nat → Nat} {b : Nat} {m : Int32} {f k : Nat} {w : zQ4} (h : ¬ w.1 = 0) : ltF S J b m f k w = w := by
  cases f with
  | zero => rfl
  | succ f => unfold ltF; rw [if_neg h]
theorem n20 : ¬ (nI 2 : Int32) = 0 := by decide
theorem n10 : ¬ (nI 1 : Int32) = 0 := by decide
theorem lts_dich (S J : Nat → Nat) (s t f v : Nat) (w w' : zQ4) : (ltsF S J s t f v w = w ∧ ltsF S J s t f v w' = w') ∨ ∃ u, ltsF S J s t f v w = (nI 2, nI s, nI t, nI u) ∧ ltsF S J s t f v w' = (nI 2, nI s, nI t, nI u) := by
  induction f generalizing v with
  | zero => exact Or.inl ⟨rfl, rfl⟩
  | succ f ih =>
    unfold ltsF
    split
    · exact ih (v + 1)
    · exact Or.inr ⟨v, rfl, rfl⟩
theorem lok_blk {S J : Nat → Nat} {R : Nat → Bool} {s t g : Nat} {w : zQ4} (hw : w.1 = 0) (d v : Nat) (hd : v + d = 4) : lokF S J R s (g + d) (4 * t + v) w = lokF S J R s g (4 * t + 4) (if R t = true then ltsF S J s t d v w else w) := by
  induction d generalizing v with
  | zero =>
    obtain rfl : v = 4 := by omega
    show lokF S J R s g (4 * t + 4) w = lokF S J R s g (4 * t + 4) (if R t = true then w else w)
    split <;> rfl
  | succ d ih =>
    show lokF S J R s (g + d + 1) (4 * t + v) w = _
    conv => lhs; unfold lokF
    rw [if_pos hw, show (4 * t + v) / 4 = t by omega, show (4 * t + v) % 4 = v by omega]
    conv => rhs; unfold ltsF
    by_cases r : R t = true
    · rw [if_pos r]
      by_cases c : J (s * 8 + S (t * 4 + v)) = S (J (s * 8 + t) * 4 + v)
      · rw [if_pos c, if_neg (fun q => q.2 (by rw [Nat.mul_comm 8 s, Nat.mul_comm 4 t, Nat.mul_comm 4 (J (s * 8 + t))]; exact c)), show 4 * t + v + 1 = 4 * t + (v + 1) by omega, ih (v + 1) (by omega), if_pos r]
      · rw [if_neg c, if_pos ⟨r, fun q => c (by rw [Nat.mul_comm 8 s, Nat.mul_comm 4 t, Nat.mul_comm 4 (J (s * 8 + t))] at q; exact q)⟩, lokF_stuck n20, lokF_stuck n20]
    · rw [if_neg r, if_neg (fun q => r q.1), show 4 * t + v + 1 = 4 * t + (v + 1) by omega, ih (v + 1) (by omega), if_neg r]
theorem lok_eq {S J : Nat → Nat} {m : Int32} {R : Nat → Bool} (h : ∀ j, j < 8 → hold m j = R j) (s : Nat) {w w' : zQ4} (hw : w.1 = 0) (hw' : w'.1 = 0) (f t : Nat) (hf : t + f = 8) : (ltfF S J m s f t w = w ∧ lokF S J R s (4 * f) (4 * t) w' = w') ∨ ∃ t2 v, ltfF S J m s f t w = (nI 2, nI s, nI t2, nI v) ∧ lokF S J R s (4 * f) (4 * t) w' = (nI 2, nI s, nI t2, nI v) := by
  induction f generalizing t with
  | zero => exact Or.inl ⟨rfl, rfl⟩
  | succ f ih =>
    rw [show 4 * (f + 1) = 4 * f + 4 by omega, show 4 * t = 4 * t + 0 by omega, lok_blk hw' 4 0 rfl]
    conv => enter [1, 1, 1]; unfold ltfF
    conv => enter [2, 1, t2, 1, v, 1, 1]; unfold ltfF
    rw [if_pos hw, h t (by omega)]
    by_cases r : R t = true
    · rw [if_pos r, if_pos r]
      rcases lts_dich S J s t 4 0 w w' with ⟨q1, q2⟩ | ⟨u, q1, q2⟩
      · rw [q1, q2]; exact ih (t + 1) (by omega)
      · rw [q1, q2, ltfF_stuck n20, lokF_stuck n20]
        exact Or.inr ⟨t, u, rfl, rfl⟩
    · rw [if_neg r, if_neg r]; exact ih (t + 1) (by omega)
def rQ (q q' : zQ4) : Prop := (q = (nI 0, (-3), (-3), (-3)) ∧ q'.1 = nI 0) ∨ (∃ s, q = (nI 1, nI s, (-3), (-3)) ∧ q'.1 = nI 1 ∧ q'.2.1 = nI s) ∨ ∃ s t v, q = (nI 2, nI s, nI t, nI v) ∧ q' = (nI 2, nI s, nI t, nI v)
theorem mck_eq {S J : Nat → Nat} {b : Nat} {m : Int32} {R : Nat → Bool} (h : ∀ j, j < 8 → hold m j = R j) (f i : Nat) (hf : i + f = 8) {w w' : zQ4} (hq : rQ w w') : rQ (ltF S J b m f i w) (mckF S J b R f i w') := by
  induction f generalizing i w w' with
  | zero => exact hq
  | succ f ih =>
    rcases hq with ⟨q1, q2⟩ | ⟨s, q1, q2, q3⟩ | ⟨s, t, v, q1, q2⟩
    · have z1 : w.1 = 0 := by rw [q1]; rfl
      have z2 : w'.1 = 0 := q2
      unfold ltF mckF
      rw [if_pos z1, if_pos z2, h i (by omega)]
      apply ih (i + 1) (by omega)
      by_cases r : R i = true
      · rw [if_pos r, if_pos r]
        unfold ltf lokA
        rw [Nat.mul_comm 8 i]
        by_cases c : J (i * 8 + b) = i
        · rw [if_pos c, if_pos c]
          rcases lok_eq h i z1 z2 8 0 rfl with ⟨e1, e2⟩ | ⟨t2, v, e1, e2⟩
          · have e2 : lokF S J R i 32 0 w' = w' := e2
            rw [e1, e2]; exact Or.inl ⟨q1, q2⟩
          · have e2 : lokF S J R i 32 0 w' = _ := e2
            rw [e1, e2]; exact Or.inr (Or.inr ⟨i, t2, v, rfl, rfl⟩)
        · rw [if_neg c, if_neg c]; exact Or.inr (Or.inl ⟨i, rfl, rfl, rfl⟩)
      · rw [if_neg r, if_neg r]; exact Or.inl ⟨q1, q2⟩
    · rw [ltF_stuck (by rw [q1]; exact n10), mckF_stuck (by rw [q2]; exact n10)]; exact Or.inr (Or.inl ⟨s, q1, q2, q3⟩)
    · rw [ltF_stuck (by rw [q1]; exact n20), mckF_stuck (by rw [q2]; exact n20)]; exact Or.inr (Or.inr ⟨s, t, v, q1, q2⟩)
theorem ck_eq {S J : Nat → Nat} {b : Nat} (hS : ∀ j, S j < 8) (hb : b < 8) (R : Nat → Bool) (w : zQ4) (q : Int32) : ckA S J b q = ckM S J b R w q := by
  have hq : rQ (ltAll S J b) (mckA S J b R w) := mck_eq (rout_eq hS hb R 8) 8 0 rfl (Or.inl ⟨rfl, rfl⟩)
  unfold ckA ckM
  by_cases c : q < 0 ∨ nI 4 ≤ q
  · rw [if_pos c, if_pos (c.imp id (fun h => by
      rw [i_lt]; rw [Int32.le_iff_toInt_le] at h
      have h3 : (nI 3).toInt = 3 := rfl
      have h4 : (nI 4).toInt = 4 := rfl
      omega))]
  · rw [if_neg c, if_neg (fun h => c (h.imp id (fun h => by
      rw [i_lt] at h; rw [Int32.le_iff_toInt_le]
      have h3 : (nI 3).toInt = 3 := rfl
      have h4 : (nI 4).toInt = 4 := rfl
      omega)))]
    obtain ⟨j, hj, rfl⟩ := fi_of (n := 4) (f := q) (by decide) (fun h => c (Or.inl h)) (fun h => c (Or.inr h))
    generalize ltAll S J b = x at hq
    generalize mckA S J b R w = y at hq
    rcases hq with ⟨q1, q2⟩ | ⟨s, q1, q2, q3⟩ | ⟨s, t, v, q1, q2⟩
    · rw [q1, q2]
      rcases (show j = 0 ∨ j = 1 ∨ j = 2 ∨ j = 3 by omega) with rfl | rfl | rfl | rfl
      · rfl
      · rw [if_neg (show ¬ nI 1 = nI 0 by decide), if_pos rfl, if_neg (show ¬ nI 1 = 0 by decide), if_pos (Or.inl (show nI 0 = 0 by decide))]
      · rw [if_neg (show ¬ nI 2 = nI 0 by decide), if_neg (show ¬ nI 2 = nI 1 by decide), if_pos rfl, if_neg (show ¬ nI 2 = 0 by decide), if_pos (Or.inl (show nI 0 = 0 by decide))]
      · rw [if_neg (show ¬ nI 3 = nI 0 by decide), if_neg (show ¬ nI 3 = nI 1 by decide), if_neg (show ¬ nI 3 = nI 2 by decide), if_neg (show ¬ nI 3 = 0 by decide), if_pos (Or.inl (show nI 0 = 0 by decide))]
    · rw [q1, q2, q3]
      rcases (show j = 0 ∨ j = 1 ∨ j = 2 ∨ j = 3 by omega) with rfl | rfl | rfl | rfl
      · rfl
      · rw [if_neg (show ¬ nI 1 = nI 0 by decide), if_pos rfl, if_neg (show ¬ nI 1 = 0 by decide), if_neg (show ¬ (nI 1 = 0 ∨ nI 1 = nI 1 ∧ nI 1 < nI 1) by decide), if_pos rfl]
      · rw [if_neg (show ¬ nI 2 = nI 0 by decide), if_neg (show ¬ nI 2 = nI 1 by decide), if_pos rfl, if_neg (show ¬ nI 2 = 0 by decide), if_pos (show (nI 1 = 0 ∨ nI 1 = nI 1 ∧ nI 1 < nI 2) by decide)]
      · rw [if_neg (show ¬ nI 3 = nI 0 by decide), if_neg (show ¬ nI 3 = nI 1 by decide), if_neg (show ¬ nI 3 = nI 2 by decide), if_neg (show ¬ nI 3 = 0 by decide), if_pos (show (nI 1 = 0 ∨ nI 1 = nI 1 ∧ nI 1 < nI 3) by decide)]
    · rw [q1, q2]
      rcases (show j = 0 ∨ j = 1 ∨ j = 2 ∨ j = 3 by omega) with rfl | rfl | rfl | rfl
      · rfl
      · rw [if_neg (show ¬ nI 1 = nI 0 by decide), if_pos rfl, if_neg (show ¬ nI 1 = 0 by decide), if_neg (show ¬ (nI 2 = 0 ∨ nI 2 = nI 1 ∧ nI 1 < nI 1) by decide)]
      · rw [if_neg (show ¬ nI 2 = nI 0 by decide), if_neg (show ¬ nI 2 = nI 1 by decide), if_pos rfl, if_neg (show ¬ nI 2 = 0 by decide), if_neg (show ¬ (nI 2 = 0 ∨ nI 2 = nI 1 ∧ nI 1 < nI 2) by decide)]
      · rw [if_neg (show ¬ nI 3 = nI 0 by decide), if_neg (show ¬ nI 3 = nI 1 by decide), if_neg (show ¬ nI 3 = nI 2 by decide), if_neg (show ¬ nI 3 = 0 by decide), if_neg (show ¬ (nI 2 = 0 ∨ nI 2 = nI 1 ∧ nI 1 < nI 3) by decide)]
