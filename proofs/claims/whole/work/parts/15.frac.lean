/-! fractions in lowest terms -/
def pof (up : Int64) (d : Nat) (w : Int32) : Int64 := (if w = 0 then up else lN d) / lN (Nat.gcd up.toInt.natAbs d)
theorem l_abs {x : Int64} (h : x ≠ (-9223372036854775808)) : (if 0 < x then x else -x) = lN x.toInt.natAbs := by
  have h0 : x.toInt ≠ -9223372036854775808 := fun q => h (Int64.toInt_inj.mp (by rw [q]; rfl))
  have h1 := x.toInt_lt
  have h2 := x.le_toInt
  apply Int64.toInt_inj.mp
  rw [pk_lT (by omega)]
  split
  · rename_i c
    rw [Int64.lt_iff_toInt_lt] at c
    have c : 0 < x.toInt := c
    omega
  · rename_i c
    rw [Int64.lt_iff_toInt_lt] at c
    have c : ¬ 0 < x.toInt := c
    rw [Int64.toInt_neg, Int.bmod_def]
    split <;> omega
theorem l_absb {x : Int64} (h : x ≠ (-9223372036854775808)) : x.toInt.natAbs < 2 ^ 63 := by
  have h0 : x.toInt ≠ -9223372036854775808 := fun q => h (Int64.toInt_inj.mp (by rw [q]; rfl))
  have h1 := x.toInt_lt
  have h2 := x.le_toInt
  omega
theorem lN_ne0 {y : Nat} (h : 0 < y) (h2 : y < 2 ^ 63) : ¬ lN y = 0 := by
  intro q
  have q := congrArg Int64.toInt q
  rw [pk_lT h2] at q
  have q : (y : Int) = 0 := q
  omega
theorem gcd_step {x y : Nat} : Nat.gcd y (x % y) = Nat.gcd x y := by rw [Nat.gcd_comm x y, Nat.gcd_rec y x, Nat.gcd_comm]
/-- each step but the first halves the product -/
theorem euc_step {x y k i : Nat} (hy : 0 < y) (hxy : y ≤ x) (h : x * y * 2 ^ i ≤ k) : y * (x % y) * 2 ^ (i + 1) ≤ k := by
  have h1 : 2 * (x % y) ≤ x := by
    have e := Nat.div_add_mod x y
    have l := Nat.mod_lt x hy
    have d : 1 ≤ x / y := Nat.div_pos hxy hy
    have : y * 1 ≤ y * (x / y) := Nat.mul_le_mul_left _ d
    omega
  calc y * (x % y) * 2 ^ (i + 1) = (2 * (x % y)) * (y * 2 ^ i) := by rw [Nat.pow_succ]; ac_rfl
    _ ≤ x * (y * 2 ^ i) := Nat.mul_le_mul_right _ h1
    _ = x * y * 2 ^ i := by ac_rfl
    _ ≤ k := h
theorem euc_end {x y i : Nat} (hx : 0 < x) (hi : 100 ≤ i) (h : x * y * 2 ^ i ≤ 2 ^ 26) : y = 0 := by
  rcases Nat.eq_zero_or_pos y with q | q
  · exact q
  · exfalso
    have a : 1 ≤ x * y := Nat.mul_pos hx q
    have b : 2 ^ 100 ≤ 2 ^ i := Nat.pow_le_pow_right (by decide) hi
    have c : 1 * 2 ^ 100 ≤ x * y * 2 ^ i := Nat.mul_le_mul a b
    omega
set_option maxHeartbeats 4000000 in
set_option maxRecDepth 100000 in
theorem kX3_greatestDivisor (l : Launch) (E : zE) (a d : Nat) (ha : a < 2 ^ 63) (hd : d ≤ 4096) (hd0 : 0 < d) : Met l yX3_greatestDivisor wsX3_greatestDivisor (rmL 0) (va_Pc [.long (lN a), .long (lN d)] (zW E [])) (vp_Sl (fun r9 => r9 = lN (Nat.gcd a d))) 0 0 (fun _ => False) := by
  refine z_ofRl (cc := cX3_greatestDivisor) (maxL := 11) (own := RX3) (by decide) rfl rfl (Nat.le_of_ble_eq_true rfl) ?_
  intro p e s m args below meth c R Q B hP ret ls hl
  obtain ⟨hx, hb, hml, hown, hts, hK, hRf, hRl⟩ := B
  have hl : lv_has ls 11 [(0, .long (lN a)), (2, .long (lN d))] := hl
  refine lv_lload_n hx hb dX3_greatestDivisor_0 rfl (lv_at hl 0 rfl) ?_
  refine lv_lstore (lv' := [(4, .long (lN a)), (0, .long (lN a)), (2, .long (lN d))]) hx hb dX3_greatestDivisor_1 hl (by decide) rfl (fun ls hl => ?_)
  refine lv_lload_n hx hb dX3_greatestDivisor_3 rfl (lv_at hl 2 rfl) ?_
  refine lv_lstore (lv' := [(6, .long (lN d)), (4, .long (lN a)), (0, .long (lN a)), (2, .long (lN d))]) hx hb dX3_greatestDivisor_4 hl (by decide) rfl (fun ls hl => ?_)
  refine lv_iconst (v := nI 0) hx hb dX3_greatestDivisor_6 (by decide) ?_
  refine lv_istore (lv' := [(8, .int (nI 0)), (6, .long (lN d)), (4, .long (lN a)), (0, .long (lN a)), (2, .long (lN d))]) hx hb dX3_greatestDivisor_7 hl (by decide) rfl (fun ls hl => ?_)
  have lp : ∀ (fu : Nat) (x : Nat) (y : Nat) (i : Nat) (ls : Array Slot), 100 - i < fu → (Nat.gcd x y = Nat.gcd a d) → (i ≤ 100) → (x < 2 ^ 63) → (y ≤ 4096) → ((i = 0 ∧ y = d) ∨ (y < x ∧ x ≤ 4096 ∧ x * y * 2 ^ i ≤ 2 ^ 26)) → lv_has ls 11 [(0, .long (lN a)), (2, .long (lN d)), (4, .long (lN x)), (6, .long (lN y)), (8, .int (nI i))] → W p l e R s m args below meth c s.heap [] 0 0 Q (F0 m 9 ls []) := by
    intro fu
    induction fu with
    | zero => intros; exact absurd (by assumption) (Nat.not_lt_zero _)
    | succ fu ihlp =>
      intro x y i ls hfu hg hi hx1 hy1 hk hl
      refine lv_iload hx hb dX3_greatestDivisor_9 (lv_at hl 4 rfl) ?_
      refine lv_bipush (v := nI 100) hx hb dX3_greatestDivisor_11 (by decide) ?_
      refine zn_icmp_ge (tgt := 44) hx hb dX3_greatestDivisor_13 (by decide) (by omega) (by omega) (fun c_1 => ?_) (fun c_1 => ?_)
      · obtain rfl : i = 100 := by omega
        have hy0 : y = 0 := by
          rcases hk with h9 | h9
          · omega
          · exact euc_end (by omega) (Nat.le_refl _) h9.2.2
        subst hy0
        refine lv_lload hx hb dX3_greatestDivisor_44 (lv_at hl 2 rfl) ?_
        exact z_retl (by rw [← hg, Nat.gcd_zero_right]) (ret _ _ dX3_greatestDivisor_46)
      · refine lv_lload hx hb dX3_greatestDivisor_16 (lv_at hl 3 rfl) ?_
        refine lv_lconst (v := 0) hx hb dX3_greatestDivisor_18 rfl ?_
        refine zl_eq (tgt := 44) hx hb dX3_greatestDivisor_19 dX3_greatestDivisor_20 (by decide) (fun c_2 => ?_) (fun c_2 => ?_)
        · have hy0 : y = 0 := by
            have h9 := congrArg Int64.toInt c_2
            rw [pk_lT (by omega)] at h9
            have h9 : (y : Int) = 0 := h9
            omega
          subst hy0
          refine lv_lload hx hb dX3_greatestDivisor_44 (lv_at hl 2 rfl) ?_
          exact z_retl (by rw [← hg, Nat.gcd_zero_right]) (ret _ _ dX3_greatestDivisor_46)
        · have hyp : 0 < y := Nat.pos_of_ne_zero (fun q9 => c_2 (by rw [q9]; rfl))
          have hml2 := Nat.mod_lt x hyp
          have hk2 : x % y < y ∧ y ≤ 4096 ∧ y * (x % y) * 2 ^ (i + 1) ≤ 2 ^ 26 := by
            refine ⟨hml2, hy1, ?_⟩
            rcases hk with h9 | h9
            · rw [h9.1]
              have : y * (x % y) ≤ 4096 * 4096 := Nat.mul_le_mul hy1 (by omega)
              omega
            · exact euc_step hyp (by omega) h9.2.2
          refine lv_lload hx hb dX3_greatestDivisor_23 (lv_at hl 2 rfl) ?_
          refine lv_lload hx hb dX3_greatestDivisor_25 (lv_at hl 3 rfl) ?_
          refine lv_lrem hx hb dX3_greatestDivisor_27 (lN_ne0 hyp (by omega)) ?_
          refine lv_lstore (lv' := [(9, .long ((lN x) - (lN x) / (lN y) * (lN y))), (0, .long (lN a)), (2, .long (lN d)), (4, .long (lN x)), (6, .long (lN y)), (8, .int (nI i))]) hx hb dX3_greatestDivisor_28 hl (by decide) rfl (fun ls hl => ?_)
          refine lv_lload hx hb dX3_greatestDivisor_30 (lv_at hl 4 rfl) ?_
          refine lv_lstore (lv' := [(4, .long (lN y)), (9, .long ((lN x) - (lN x) / (lN y) * (lN y))), (0, .long (lN a)), (2, .long (lN d)), (6, .long (lN y)), (8, .int (nI i))]) hx hb dX3_greatestDivisor_32 hl (by decide) rfl (fun ls hl => ?_)
          refine lv_lload hx hb dX3_greatestDivisor_34 (lv_at hl 1 rfl) ?_
          refine lv_lstore (lv' := [(6, .long ((lN x) - (lN x) / (lN y) * (lN y))), (4, .long (lN y)), (9, .long ((lN x) - (lN x) / (lN y) * (lN y))), (0, .long (lN a)), (2, .long (lN d)), (8, .int (nI i))]) hx hb dX3_greatestDivisor_36 hl (by decide) rfl (fun ls hl => ?_)
          refine lv_iinc (v := nI (i + 1)) (lv' := [(8, .int (nI (i + 1))), (6, .long ((lN x) - (lN x) / (lN y) * (lN y))), (4, .long (lN y)), (9, .long ((lN x) - (lN x) / (lN y) * (lN y))), (0, .long (lN a)), (2, .long (lN d))]) hx hb dX3_greatestDivisor_38 hl (k := 5) rfl (z_inc _ 1) (by decide) rfl (fun ls hl => ?_)
          refine lv_goto (tgt := 9) hx hb dX3_greatestDivisor_41 (by decide) ?_
          exact ihlp y (x % y) (i + 1) ls (by omega) (by rw [gcd_step]; exact hg) (by omega) (by omega) (by omega) (Or.inr hk2) (lv_sub hl [4, 5, 2, 1, 0] (by rw [← pk_lRem hx1 (by omega) (by omega)]; rfl))
  exact lp _ a d 0 ls (Nat.lt_succ_self _) (rfl) (Nat.zero_le _) (ha) (hd) (Or.inl ⟨rfl, rfl⟩) (lv_sub hl [3, 4, 2, 1, 0] rfl)
set_option maxHeartbeats 4000000 in
set_option maxRecDepth 100000 in
theorem kX3_partOfFraction (l : Launch) (E : zE) (up : Int64) (d : Nat) (w : Int32) (hup : up ≠ (-9223372036854775808)) (hd : d ≤ 4096) (hd0 : 0 < d) : Met l yX3_partOfFraction wsX3_partOfFraction (rmL 1) (va_Pc [.long up, .long (lN d), .int w] (zW E [])) (vp_Sl (fun r9 => r9 = pof up d w)) 0 0 (fun _ => False) := by
  refine z_ofRl (cc := cX3_partOfFraction) (maxL := 9) (own := RX3) (by decide) rfl rfl (Nat.le_of_ble_eq_true rfl) ?_
  intro p e s m args below meth c R Q B hP ret ls hl
  obtain ⟨hx, hb, hml, hown, hts, hK, hRf, hRl⟩ := B
  have hl : lv_has ls 9 [(0, .long up), (2, .long (lN d)), (4, .int w)] := hl
  have hgp : 0 < Nat.gcd up.toInt.natAbs d := Nat.gcd_pos_of_pos_right _ hd0
  have hgl : Nat.gcd up.toInt.natAbs d ≤ d := Nat.gcd_le_right _ hd0
  refine lv_iload hx hb dX3_partOfFraction_0 (lv_at hl 2 rfl) ?_
  refine lv_if_ne (tgt := 9) hx hb dX3_partOfFraction_2 (by decide) (fun c_1 => ?_) (fun c_1 => ?_)
  · refine lv_lload_n hx hb dX3_partOfFraction_9 rfl (lv_at hl 1 rfl) ?_
    refine lv_lstore (lv' := [(5, .long (lN d)), (0, .long up), (2, .long (lN d)), (4, .int w)]) hx hb dX3_partOfFraction_10 hl (by decide) rfl (fun ls hl => ?_)
    refine lv_lload_n hx hb dX3_partOfFraction_12 rfl (lv_at hl 1 rfl) ?_
    refine va_mabs_long hx hb (by rw [hml]; exact hl.1.symm) hown (hts (.methodLink RX3 193 Lib.MathLoose.abs_long.x) (by decide +kernel)) (hts (.static Lib.MathLoose.abs_long.x) (by decide +kernel)) (hts (.initialized "java/lang/Math") (by decide +kernel)) (hts (.code Lib.MathLoose.abs_long.x Lib.MathLoose.abs_long.code 2 (some .long)) (by decide +kernel)) (Nat.le_trans (Nat.le_of_ble_eq_true rfl) hRf) (Nat.le_trans (Nat.le_of_ble_eq_true rfl) hRl) (Nat.zero_le _) (Nat.zero_le _) dX3_partOfFraction_13 ?_
    refine W.eq (g2 := F0 m 16 ls ([.long (lN up.toInt.natAbs)])) (by rw [l_abs hup]) ?_
    refine lv_lload_n hx hb dX3_partOfFraction_16 rfl (lv_at hl 2 rfl) ?_
    refine zc_l (W.runS ⟨hx, hb, hml, hown, hts⟩ (kX3_greatestDivisor l E up.toInt.natAbs d (l_absb hup) hd hd0) (cwS 2 hts gX3_partOfFraction_X3_greatestDivisor rfl rfl rfl (by decide +kernel) ⟨Nat.le_trans (Nat.le_of_ble_eq_true rfl) hRf, Nat.le_trans (Nat.le_of_ble_eq_true rfl) hRl⟩) (z_preR (av := [.long (lN up.toInt.natAbs), .long (lN d)]) (hP.sub (ws' := []) [] rfl) hK) rfl rfl hl.1 rfl (lv_room (Nat.le_of_ble_eq_true rfl)) dX3_partOfFraction_17 ⟨Nat.zero_le _, Nat.zero_le _⟩) ?_
    refine lv_lstore (lv' := [(7, .long (lN (Nat.gcd up.toInt.natAbs d))), (5, .long (lN d)), (0, .long up), (2, .long (lN d)), (4, .int w)]) hx hb dX3_partOfFraction_20 hl (by decide) rfl (fun ls hl => ?_)
    refine lv_lload hx hb dX3_partOfFraction_22 (lv_at hl 0 rfl) ?_
    refine lv_lconst (v := 0) hx hb dX3_partOfFraction_24 rfl ?_
    refine zl_ne (tgt := 34) hx hb dX3_partOfFraction_25 dX3_partOfFraction_26 (by decide) (fun c_2 => ?_) (fun c_2 => ?_)
    · refine lv_lload hx hb dX3_partOfFraction_34 (lv_at hl 1 rfl) ?_
      refine lv_lload hx hb dX3_partOfFraction_36 (lv_at hl 0 rfl) ?_
      refine lv_ldiv hx hb dX3_partOfFraction_38 (lN_ne0 hgp (by omega)) ?_
      exact z_retl (by unfold pof; rw [if_neg c_1]) (ret _ _ dX3_partOfFraction_39)
    · exact absurd c_2 (lN_ne0 hgp (by omega))
  · refine lv_lload_n hx hb dX3_partOfFraction_5 rfl (lv_at hl 0 rfl) ?_
    refine lv_goto (tgt := 10) hx hb dX3_partOfFraction_6 (by decide) ?_
    refine lv_lstore (lv' := [(5, .long up), (0, .long up), (2, .long (lN d)), (4, .int w)]) hx hb dX3_partOfFraction_10 hl (by decide) rfl (fun ls hl => ?_)
    refine lv_lload_n hx hb dX3_partOfFraction_12 rfl (lv_at hl 1 rfl) ?_
    refine va_mabs_long hx hb (by rw [hml]; exact hl.1.symm) hown (hts (.methodLink RX3 193 Lib.MathLoose.abs_long.x) (by decide +kernel)) (hts (.static Lib.MathLoose.abs_long.x) (by decide +kernel)) (hts (.initialized "java/lang/Math") (by decide +kernel)) (hts (.code Lib.MathLoose.abs_long.x Lib.MathLoose.abs_long.code 2 (some .long)) (by decide +kernel)) (Nat.le_trans (Nat.le_of_ble_eq_true rfl) hRf) (Nat.le_trans (Nat.le_of_ble_eq_true rfl) hRl) (Nat.zero_le _) (Nat.zero_le _) dX3_partOfFraction_13 ?_
    refine W.eq (g2 := F0 m 16 ls ([.long (lN up.toInt.natAbs)])) (by rw [l_abs hup]) ?_
    refine lv_lload_n hx hb dX3_partOfFraction_16 rfl (lv_at hl 2 rfl) ?_
    refine zc_l (W.runS ⟨hx, hb, hml, hown, hts⟩ (kX3_greatestDivisor l E up.toInt.natAbs d (l_absb hup) hd hd0) (cwS 2 hts gX3_partOfFraction_X3_greatestDivisor rfl rfl rfl (by decide +kernel) ⟨Nat.le_trans (Nat.le_of_ble_eq_true rfl) hRf, Nat.le_trans (Nat.le_of_ble_eq_true rfl) hRl⟩) (z_preR (av := [.long (lN up.toInt.natAbs), .long (lN d)]) (hP.sub (ws' := []) [] rfl) hK) rfl rfl hl.1 rfl (lv_room (Nat.le_of_ble_eq_true rfl)) dX3_partOfFraction_17 ⟨Nat.zero_le _, Nat.zero_le _⟩) ?_
    refine lv_lstore (lv' := [(7, .long (lN (Nat.gcd up.toInt.natAbs d))), (5, .long up), (0, .long up), (2, .long (lN d)), (4, .int w)]) hx hb dX3_partOfFraction_20 hl (by decide) rfl (fun ls hl => ?_)
    refine lv_lload hx hb dX3_partOfFraction_22 (lv_at hl 0 rfl) ?_
    refine lv_lconst (v := 0) hx hb dX3_partOfFraction_24 rfl ?_
    refine zl_ne (tgt := 34) hx hb dX3_partOfFraction_25 dX3_partOfFraction_26 (by decide) (fun c_3 => ?_) (fun c_3 => ?_)
    · refine lv_lload hx hb dX3_partOfFraction_34 (lv_at hl 1 rfl) ?_
      refine lv_lload hx hb dX3_partOfFraction_36 (lv_at hl 0 rfl) ?_
      refine lv_ldiv hx hb dX3_partOfFraction_38 (lN_ne0 hgp (by omega)) ?_
      exact z_retl (by unfold pof; rw [if_pos c_1]) (ret _ _ dX3_partOfFraction_39)
    · exact absurd c_3 (lN_ne0 hgp (by omega))
