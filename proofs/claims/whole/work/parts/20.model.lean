/-! The model: one object, twelve rows -/
def mW (E : zE) (m0 k0 q0 t0 v0 c0 o0 s0 j0 r0 f0 g0 h0 : Nat) (cd : Int32) (n : Nat) (K M : Nat → Nat) (TT : Nat → Int32) (VV CC : Nat → Int64) (OO : Nat → Nat) (b : Nat) (S J : Nat → Nat) (RR : Nat → Bool) (w1 w2 w3 w4 : Int32) (SF SM FD : Nat → Nat) : va_W := [(m0, .inr (5, [.int cd, .int (nI n), .ref k0, .ref q0, .ref t0, .ref v0, .ref c0, .ref o0, .int (nI b), .ref s0, .ref j0, .ref r0, .int w1, .int w2, .int w3, .int w4, .ref f0, .ref g0, .ref h0])), (k0, .inl (E.2.1, 12, .inl (fun j => nI (K j)))), (q0, .inl (E.2.1, 12, .inl (fun j => nI (M j)))), (t0, .inl (E.2.1, 768, .inl TT)), (v0, .inl (E.2.2.1, 768, .inr (.inl VV))), (c0, .inl (E.2.2.1, 70, .inr (.inl CC))), (o0, .inl (E.2.1, 64, .inl (fun j => nI (OO j)))), (s0, .inl (E.2.1, 32, .inl (fun j => nI (S j)))), (j0, .inl (E.2.1, 64, .inl (fun j => nI (J j)))), (r0, .inl (E.2.2.2.1, 8, .inl (fun j => bI (RR j)))), (f0, .inl (E.2.1, 140, .inl (fun j => nI (SF j)))), (g0, .inl (E.2.1, 140, .inl (fun j => nI (SM j)))), (h0, .inl (E.2.1, 140, .inl (fun j => nI (FD j))))]
/-- row i of fold j -/
def vw {α : Type} (X : Nat → α) (j : Nat) : Nat → α := fun i => X (64 * j + i)
theorem fd_some {n : Nat} {f : Int32} (hn : n < 2 ^ 31) (h : (fidx n f).isSome = true) : ∃ j : Nat, j < n ∧ f = nI j ∧ fidx n f = some j := by
  rcases fi_cases n f hn with q | q
  · rw [q] at h; cases h
  · exact q
theorem fd_none {n : Nat} {f : Int32} (h : (fidx n f).isSome = false) : fidx n f = none := by
  cases e : fidx n f with
  | none => rfl
  | some j => rw [e] at h; cases h
theorem fk_some {n : Nat} {K : Nat → Nat} {f : Int32} {k : Nat} (hn : n < 2 ^ 31) (h : (fok n K f k).isSome = true) : ∃ j : Nat, j < n ∧ f = nI j ∧ K j = k ∧ fok n K f k = some j := by
  rcases fok_cases n K f k hn with q | q
  · rw [q] at h; cases h
  · exact q
theorem fk_none {n : Nat} {K : Nat → Nat} {f : Int32} {k : Nat} (h : (fok n K f k).isSome = false) : fok n K f k = none := by
  cases e : fok n K f k with
  | none => rfl
  | some j => rw [e] at h; cases h
def inL (v a z : Int64) : Bool := decide (¬ v < a ∧ ¬ z < v)
def mVal (k : Nat) (v : Int64) : Bool := decide (k = 0 ∨ (k = 2 ∧ inL v (-1000000) 1000000 = true) ∨ (k = 3 ∧ inL v (-100000000000000000) 100000000000000000 = true) ∨ (k = 4 ∧ inL v 0 3 = true))
def mBits (v : Int64) : Int64 := if jshl v (nI 1) = 0 then 0 else v
def mFin (v : Int64) : Bool := decide (¬ jushr v (nI 52) &&& 2047 = 2047)
set_option maxHeartbeats 4000000 in
set_option maxRecDepth 100000 in
theorem kX4_in (l : Launch) (E : zE) (v a z : Int64) : Met l yX4_in wsX4_in (rmL 0) (va_Pc [.long v, .long a, .long z] (zW E [])) (vp_Si (fun r9 => r9 = bI (inL v a z))) 0 0 (fun _ => False) := by
  refine z_ofRz (cc := cX4_in) (maxL := 6) (own := RX4) (by decide) rfl rfl (Nat.le_of_ble_eq_true rfl) ?_
  intro p e s m args below meth c R Q B hP ret ls hl
  obtain ⟨hx, hb, hml, hown, hts, hK, hRf, hRl⟩ := B
  have hl : lv_has ls 6 [(0, .long v), (2, .long a), (4, .long z)] := hl
  refine lv_lload_n hx hb dX4_in_0 rfl (lv_at hl 0 rfl) ?_
  refine lv_lload_n hx hb dX4_in_1 rfl (lv_at hl 1 rfl) ?_
  refine zl_lt (tgt := 17) hx hb dX4_in_2 dX4_in_3 (by decide) (fun c_1 => ?_) (fun c_1 => ?_)
  · refine lv_iconst (v := nI 0) hx hb dX4_in_17 (by decide) ?_
    exact z_reti (by rw [show inL v a z = false from by unfold inL; simp [c_1]]; rfl) (ret _ _ dX4_in_18)
  · refine lv_lload_n hx hb dX4_in_6 rfl (lv_at hl 0 rfl) ?_
    refine lv_lload hx hb dX4_in_7 (lv_at hl 2 rfl) ?_
    refine zl_gt (tgt := 17) hx hb dX4_in_9 dX4_in_10 (by decide) (fun c_2 => ?_) (fun c_2 => ?_)
    · refine lv_iconst (v := nI 0) hx hb dX4_in_17 (by decide) ?_
      exact z_reti (by rw [show inL v a z = false from by unfold inL; simp [c_1, c_2]]; rfl) (ret _ _ dX4_in_18)
    · refine lv_iconst (v := nI 1) hx hb dX4_in_13 (by decide) ?_
      refine lv_goto (tgt := 18) hx hb dX4_in_14 (by decide) ?_
      exact z_reti (by rw [show inL v a z = true from by unfold inL; simp [c_1, c_2]]; rfl) (ret _ _ dX4_in_18)
set_option maxHeartbeats 4000000 in
set_option maxRecDepth 100000 in
theorem kX4_isValue (l : Launch) (E : zE) (k : Nat) (hk : k < 5) (v : Int64) : Met l yX4_isValue wsX4_isValue (rmL 1) (va_Pc [.int (nI k), .long v] (zW E [])) (vp_Si (fun r9 => r9 = bI (mVal k v))) 0 0 (fun _ => False) := by
  refine z_ofRz (cc := cX4_isValue) (maxL := 3) (own := RX4) (by decide) rfl rfl (Nat.le_of_ble_eq_true rfl) ?_
  intro p e s m args below meth c R Q B hP ret ls hl
  obtain ⟨hx, hb, hml, hown, hts, hK, hRf, hRl⟩ := B
  have hl : lv_has ls 3 [(0, .int (nI k)), (1, .long v)] := hl
  refine lv_iload_n hx hb dX4_isValue_0 rfl (lv_at hl 0 rfl) ?_
  refine zn_if_eq (tgt := 56) hx hb dX4_isValue_1 (by decide) (by omega) (fun c_1 => ?_) (fun c_1 => ?_)
  · refine lv_iconst (v := nI 1) hx hb dX4_isValue_56 (by decide) ?_
    refine lv_goto (tgt := 61) hx hb dX4_isValue_57 (by decide) ?_
    exact z_reti (by rw [show mVal k v = true from by unfold mVal; simp [c_1] <;> omega]; rfl) (ret _ _ dX4_isValue_61)
  · refine lv_iload_n hx hb dX4_isValue_4 rfl (lv_at hl 0 rfl) ?_
    refine lv_iconst (v := nI 2) hx hb dX4_isValue_5 (by decide) ?_
    refine zn_icmp_ne (tgt := 22) hx hb dX4_isValue_6 (by decide) (by omega) (by omega) (fun c_2 => ?_) (fun c_2 => ?_)
    · refine lv_iload_n hx hb dX4_isValue_22 rfl (lv_at hl 0 rfl) ?_
      refine lv_iconst (v := nI 3) hx hb dX4_isValue_23 (by decide) ?_
      refine zn_icmp_ne (tgt := 40) hx hb dX4_isValue_24 (by decide) (by omega) (by omega) (fun c_3 => ?_) (fun c_3 => ?_)
      · refine lv_iload_n hx hb dX4_isValue_40 rfl (lv_at hl 0 rfl) ?_
        refine lv_iconst (v := nI 4) hx hb dX4_isValue_41 (by decide) ?_
        refine zn_icmp_ne (tgt := 60) hx hb dX4_isValue_42 (by decide) (by omega) (by omega) (fun c_4 => ?_) (fun c_4 => ?_)
        · refine lv_iconst (v := nI 0) hx hb dX4_isValue_60 (by decide) ?_
          exact z_reti (by rw [show mVal k v = false from by unfold mVal; simp [c_1, c_2, c_3, c_4] <;> omega]; rfl) (ret _ _ dX4_isValue_61)
        · refine lv_lload_n hx hb dX4_isValue_45 rfl (lv_at hl 1 rfl) ?_
          refine lv_lconst (v := 0) hx hb dX4_isValue_46 rfl ?_
          refine lv_ldc2 (v := 3) hx hb hown (hts (.constantLong RX4 71 (3)) (by decide +kernel)) dX4_isValue_47 ?_
          refine zc_i (W.runS ⟨hx, hb, hml, hown, hts⟩ (kX4_in l E v 0 3) (cwS 3 hts gX4_isValue_X4_in rfl rfl rfl (by decide +kernel) ⟨Nat.le_trans (Nat.le_of_ble_eq_true rfl) hRf, Nat.le_trans (Nat.le_of_ble_eq_true rfl) hRl⟩) (z_preR (av := [.long v, .long 0, .long 3]) (hP.sub (ws' := []) [] rfl) hK) rfl rfl hl.1 rfl (lv_room (Nat.le_of_ble_eq_true rfl)) dX4_isValue_50 ⟨Nat.zero_le _, Nat.zero_le _⟩) ?_
          refine zb_if_eq (tgt := 60) hx hb dX4_isValue_53 (by decide) (fun c_5 => ?_) (fun c_5 => ?_)
          · refine lv_iconst (v := nI 0) hx hb dX4_isValue_60 (by decide) ?_
            exact z_reti (by rw [show mVal k v = false from by unfold mVal; simp [c_1, c_2, c_3, c_4, c_5] <;> omega]; rfl) (ret _ _ dX4_isValue_61)
          · refine lv_iconst (v := nI 1) hx hb dX4_isValue_56 (by decide) ?_
            refine lv_goto (tgt := 61) hx hb dX4_isValue_57 (by decide) ?_
            exact z_reti (by rw [show mVal k v = true from by unfold mVal; simp [c_1, c_2, c_3, c_4, c_5] <;> omega]; rfl) (ret _ _ dX4_isValue_61)
      · refine lv_lload_n hx hb dX4_isValue_27 rfl (lv_at hl 1 rfl) ?_
        refine lv_ldc2 (v := (-100000000000000000)) hx hb hown (hts (.constantLong RX4 67 (-100000000000000000)) (by decide +kernel)) dX4_isValue_28 ?_
        refine lv_ldc2 (v := 100000000000000000) hx hb hown (hts (.constantLong RX4 69 (100000000000000000)) (by decide +kernel)) dX4_isValue_31 ?_
        refine zc_i (W.runS ⟨hx, hb, hml, hown, hts⟩ (kX4_in l E v (-100000000000000000) 100000000000000000) (cwS 3 hts gX4_isValue_X4_in rfl rfl rfl (by decide +kernel) ⟨Nat.le_trans (Nat.le_of_ble_eq_true rfl) hRf, Nat.le_trans (Nat.le_of_ble_eq_true rfl) hRl⟩) (z_preR (av := [.long v, .long (-100000000000000000), .long 100000000000000000]) (hP.sub (ws' := []) [] rfl) hK) rfl rfl hl.1 rfl (lv_room (Nat.le_of_ble_eq_true rfl)) dX4_isValue_34 ⟨Nat.zero_le _, Nat.zero_le _⟩) ?_
        refine zb_if_ne (tgt := 56) hx hb dX4_isValue_37 (by decide) (fun c_6 => ?_) (fun c_6 => ?_)
        · refine lv_iconst (v := nI 1) hx hb dX4_isValue_56 (by decide) ?_
          refine lv_goto (tgt := 61) hx hb dX4_isValue_57 (by decide) ?_
          exact z_reti (by rw [show mVal k v = true from by unfold mVal; simp [c_1, c_2, c_3, c_6] <;> omega]; rfl) (ret _ _ dX4_isValue_61)
        · refine lv_iload_n hx hb dX4_isValue_40 rfl (lv_at hl 0 rfl) ?_
          refine lv_iconst (v := nI 4) hx hb dX4_isValue_41 (by decide) ?_
          refine zn_icmp_ne (tgt := 60) hx hb dX4_isValue_42 (by decide) (by omega) (by omega) (fun c_7 => ?_) (fun c_7 => ?_)
          · refine lv_iconst (v := nI 0) hx hb dX4_isValue_60 (by decide) ?_
            exact z_reti (by rw [show mVal k v = false from by unfold mVal; simp [c_1, c_2, c_3, c_6, c_7] <;> omega]; rfl) (ret _ _ dX4_isValue_61)
          · refine lv_lload_n hx hb dX4_isValue_45 rfl (lv_at hl 1 rfl) ?_
            refine lv_lconst (v := 0) hx hb dX4_isValue_46 rfl ?_
            refine lv_ldc2 (v := 3) hx hb hown (hts (.constantLong RX4 71 (3)) (by decide +kernel)) dX4_isValue_47 ?_
            refine zc_i (W.runS ⟨hx, hb, hml, hown, hts⟩ (kX4_in l E v 0 3) (cwS 3 hts gX4_isValue_X4_in rfl rfl rfl (by decide +kernel) ⟨Nat.le_trans (Nat.le_of_ble_eq_true rfl) hRf, Nat.le_trans (Nat.le_of_ble_eq_true rfl) hRl⟩) (z_preR (av := [.long v, .long 0, .long 3]) (hP.sub (ws' := []) [] rfl) hK) rfl rfl hl.1 rfl (lv_room (Nat.le_of_ble_eq_true rfl)) dX4_isValue_50 ⟨Nat.zero_le _, Nat.zero_le _⟩) ?_
            refine zb_if_eq (tgt := 60) hx hb dX4_isValue_53 (by decide) (fun c_8 => ?_) (fun c_8 => ?_)
            · refine lv_iconst (v := nI 0) hx hb dX4_isValue_60 (by decide) ?_
              exact z_reti (by rw [show mVal k v = false from by unfold mVal; simp [c_1, c_2, c_3, c_6, c_7, c_8] <;> omega]; rfl) (ret _ _ dX4_isValue_61)
            · refine lv_iconst (v := nI 1) hx hb dX4_isValue_56 (by decide) ?_
              refine lv_goto (tgt := 61) hx hb dX4_isValue_57 (by decide) ?_
              exact z_reti (by rw [show mVal k v = true from by unfold mVal; simp [c_1, c_2, c_3, c_6, c_7, c_8] <;> omega]; rfl) (ret _ _ dX4_isValue_61)
    · refine lv_lload_n hx hb dX4_isValue_9 rfl (lv_at hl 1 rfl) ?_
      refine lv_ldc2 (v := (-1000000)) hx hb hown (hts (.constantLong RX4 59 (-1000000)) (by decide +kernel)) dX4_isValue_10 ?_
      refine lv_ldc2 (v := 1000000) hx hb hown (hts (.constantLong RX4 61 (1000000)) (by decide +kernel)) dX4_isValue_13 ?_
      refine zc_i (W.runS ⟨hx, hb, hml, hown, hts⟩ (kX4_in l E v (-1000000) 1000000) (cwS 3 hts gX4_isValue_X4_in rfl rfl rfl (by decide +kernel) ⟨Nat.le_trans (Nat.le_of_ble_eq_true rfl) hRf, Nat.le_trans (Nat.le_of_ble_eq_true rfl) hRl⟩) (z_preR (av := [.long v, .long (-1000000), .long 1000000]) (hP.sub (ws' := []) [] rfl) hK) rfl rfl hl.1 rfl (lv_room (Nat.le_of_ble_eq_true rfl)) dX4_isValue_16 ⟨Nat.zero_le _, Nat.zero_le _⟩) ?_
      refine zb_if_ne (tgt := 56) hx hb dX4_isValue_19 (by decide) (fun c_9 => ?_) (fun c_9 => ?_)
      · refine lv_iconst (v := nI 1) hx hb dX4_isValue_56 (by decide) ?_
        refine lv_goto (tgt := 61) hx hb dX4_isValue_57 (by decide) ?_
        exact z_reti (by rw [show mVal k v = true from by unfold mVal; simp [c_1, c_2, c_9] <;> omega]; rfl) (ret _ _ dX4_isValue_61)
      · refine lv_iload_n hx hb dX4_isValue_22 rfl (lv_at hl 0 rfl) ?_
        refine lv_iconst (v := nI 3) hx hb dX4_isValue_23 (by decide) ?_
        refine zn_icmp_ne (tgt := 40) hx hb dX4_isValue_24 (by decide) (by omega) (by omega) (fun c_10 => ?_) (fun c_10 => ?_)
        · refine lv_iload_n hx hb dX4_isValue_40 rfl (lv_at hl 0 rfl) ?_
          refine lv_iconst (v := nI 4) hx hb dX4_isValue_41 (by decide) ?_
          refine zn_icmp_ne (tgt := 60) hx hb dX4_isValue_42 (by decide) (by omega) (by omega) (fun c_11 => ?_) (fun c_11 => ?_)
          · refine lv_iconst (v := nI 0) hx hb dX4_isValue_60 (by decide) ?_
            exact z_reti (by rw [show mVal k v = false from by unfold mVal; simp [c_1, c_2, c_9, c_10, c_11] <;> omega]; rfl) (ret _ _ dX4_isValue_61)
          · refine lv_lload_n hx hb dX4_isValue_45 rfl (lv_at hl 1 rfl) ?_
            refine lv_lconst (v := 0) hx hb dX4_isValue_46 rfl ?_
            refine lv_ldc2 (v := 3) hx hb hown (hts (.constantLong RX4 71 (3)) (by decide +kernel)) dX4_isValue_47 ?_
            refine zc_i (W.runS ⟨hx, hb, hml, hown, hts⟩ (kX4_in l E v 0 3) (cwS 3 hts gX4_isValue_X4_in rfl rfl rfl (by decide +kernel) ⟨Nat.le_trans (Nat.le_of_ble_eq_true rfl) hRf, Nat.le_trans (Nat.le_of_ble_eq_true rfl) hRl⟩) (z_preR (av := [.long v, .long 0, .long 3]) (hP.sub (ws' := []) [] rfl) hK) rfl rfl hl.1 rfl (lv_room (Nat.le_of_ble_eq_true rfl)) dX4_isValue_50 ⟨Nat.zero_le _, Nat.zero_le _⟩) ?_
            refine zb_if_eq (tgt := 60) hx hb dX4_isValue_53 (by decide) (fun c_12 => ?_) (fun c_12 => ?_)
            · refine lv_iconst (v := nI 0) hx hb dX4_isValue_60 (by decide) ?_
              exact z_reti (by rw [show mVal k v = false from by unfold mVal; simp [c_1, c_2, c_9, c_10, c_11, c_12] <;> omega]; rfl) (ret _ _ dX4_isValue_61)
            · refine lv_iconst (v := nI 1) hx hb dX4_isValue_56 (by decide) ?_
              refine lv_goto (tgt := 61) hx hb dX4_isValue_57 (by decide) ?_
              exact z_reti (by rw [show mVal k v = true from by unfold mVal; simp [c_1, c_2, c_9, c_10, c_11, c_12] <;> omega]; rfl) (ret _ _ dX4_isValue_61)
        · refine lv_lload_n hx hb dX4_isValue_27 rfl (lv_at hl 1 rfl) ?_
          refine lv_ldc2 (v := (-100000000000000000)) hx hb hown (hts (.constantLong RX4 67 (-100000000000000000)) (by decide +kernel)) dX4_isValue_28 ?_
          refine lv_ldc2 (v := 100000000000000000) hx hb hown (hts (.constantLong RX4 69 (100000000000000000)) (by decide +kernel)) dX4_isValue_31 ?_
          refine zc_i (W.runS ⟨hx, hb, hml, hown, hts⟩ (kX4_in l E v (-100000000000000000) 100000000000000000) (cwS 3 hts gX4_isValue_X4_in rfl rfl rfl (by decide +kernel) ⟨Nat.le_trans (Nat.le_of_ble_eq_true rfl) hRf, Nat.le_trans (Nat.le_of_ble_eq_true rfl) hRl⟩) (z_preR (av := [.long v, .long (-100000000000000000), .long 100000000000000000]) (hP.sub (ws' := []) [] rfl) hK) rfl rfl hl.1 rfl (lv_room (Nat.le_of_ble_eq_true rfl)) dX4_isValue_34 ⟨Nat.zero_le _, Nat.zero_le _⟩) ?_
          refine zb_if_ne (tgt := 56) hx hb dX4_isValue_37 (by decide) (fun c_13 => ?_) (fun c_13 => ?_)
          · refine lv_iconst (v := nI 1) hx hb dX4_isValue_56 (by decide) ?_
            refine lv_goto (tgt := 61) hx hb dX4_isValue_57 (by decide) ?_
            exact z_reti (by rw [show mVal k v = true from by unfold mVal; simp [c_1, c_2, c_9, c_10, c_13] <;> omega]; rfl) (ret _ _ dX4_isValue_61)
          · refine lv_iload_n hx hb dX4_isValue_40 rfl (lv_at hl 0 rfl) ?_
            refine lv_iconst (v := nI 4) hx hb dX4_isValue_41 (by decide) ?_
            refine zn_icmp_ne (tgt := 60) hx hb dX4_isValue_42 (by decide) (by omega) (by omega) (fun c_14 => ?_) (fun c_14 => ?_)
            · refine lv_iconst (v := nI 0) hx hb dX4_isValue_60 (by decide) ?_
              exact z_reti (by rw [show mVal k v = false from by unfold mVal; simp [c_1, c_2, c_9, c_10, c_13, c_14] <;> omega]; rfl) (ret _ _ dX4_isValue_61)
            · refine lv_lload_n hx hb dX4_isValue_45 rfl (lv_at hl 1 rfl) ?_
              refine lv_lconst (v := 0) hx hb dX4_isValue_46 rfl ?_
              refine lv_ldc2 (v := 3) hx hb hown (hts (.constantLong RX4 71 (3)) (by decide +kernel)) dX4_isValue_47 ?_
              refine zc_i (W.runS ⟨hx, hb, hml, hown, hts⟩ (kX4_in l E v 0 3) (cwS 3 hts gX4_isValue_X4_in rfl rfl rfl (by decide +kernel) ⟨Nat.le_trans (Nat.le_of_ble_eq_true rfl) hRf, Nat.le_trans (Nat.le_of_ble_eq_true rfl) hRl⟩) (z_preR (av := [.long v, .long 0, .long 3]) (hP.sub (ws' := []) [] rfl) hK) rfl rfl hl.1 rfl (lv_room (Nat.le_of_ble_eq_true rfl)) dX4_isValue_50 ⟨Nat.zero_le _, Nat.zero_le _⟩) ?_
              refine zb_if_eq (tgt := 60) hx hb dX4_isValue_53 (by decide) (fun c_15 => ?_) (fun c_15 => ?_)
              · refine lv_iconst (v := nI 0) hx hb dX4_isValue_60 (by decide) ?_
                exact z_reti (by rw [show mVal k v = false from by unfold mVal; simp [c_1, c_2, c_9, c_10, c_13, c_14, c_15] <;> omega]; rfl) (ret _ _ dX4_isValue_61)
              · refine lv_iconst (v := nI 1) hx hb dX4_isValue_56 (by decide) ?_
                refine lv_goto (tgt := 61) hx hb dX4_isValue_57 (by decide) ?_
                exact z_reti (by rw [show mVal k v = true from by unfold mVal; simp [c_1, c_2, c_9, c_10, c_13, c_14, c_15] <;> omega]; rfl) (ret _ _ dX4_isValue_61)
set_option maxHeartbeats 4000000 in
set_option maxRecDepth 100000 in
theorem kX4_bitsOf (l : Launch) (E : zE) (v : Int64) : Met l yX4_bitsOf wsX4_bitsOf (rmL 0) (va_Pc [.long v] (zW E [])) (vp_Sl (fun r9 => r9 = mBits v)) 0 0 (fun _ => False) := by
  refine z_ofRl (cc := cX4_bitsOf) (maxL := 2) (own := RX4) (by decide) rfl rfl (Nat.le_of_ble_eq_true rfl) ?_
  intro p e s m args below meth c R Q B hP ret ls hl
  obtain ⟨hx, hb, hml, hown, hts, hK, hRf, hRl⟩ := B
  have hl : lv_has ls 2 [(0, .long v)] := hl
  refine lv_lload_n hx hb dX4_bitsOf_0 rfl (lv_at hl 0 rfl) ?_
  refine lv_iconst (v := nI 1) hx hb dX4_bitsOf_1 (by decide) ?_
  refine lv_lshl (v := jshl v (nI 1)) hx hb dX4_bitsOf_2 rfl ?_
  refine lv_lconst (v := 0) hx hb dX4_bitsOf_3 rfl ?_
  refine zl_ne (tgt := 12) hx hb dX4_bitsOf_4 dX4_bitsOf_5 (by decide) (fun c_1 => ?_) (fun c_1 => ?_)
  · refine lv_lload_n hx hb dX4_bitsOf_12 rfl (lv_at hl 0 rfl) ?_
    exact z_retl (by unfold mBits; rw [if_neg c_1]) (ret _ _ dX4_bitsOf_13)
  · refine lv_lconst (v := 0) hx hb dX4_bitsOf_8 rfl ?_
    refine lv_goto (tgt := 13) hx hb dX4_bitsOf_9 (by decide) ?_
    exact z_retl (by unfold mBits; rw [if_pos c_1]) (ret _ _ dX4_bitsOf_13)
set_option maxHeartbeats 4000000 in
set_option maxRecDepth 100000 in
theorem kX4_isFinite (l : Launch) (E : zE) (v : Int64) : Met l yX4_isFinite wsX4_isFinite (rmL 0) (va_Pc [.long v] (zW E [])) (vp_Si (fun r9 => r9 = bI (mFin v))) 0 0 (fun _ => False) := by
  refine z_ofRz (cc := cX4_isFinite) (maxL := 2) (own := RX4) (by decide) rfl rfl (Nat.le_of_ble_eq_true rfl) ?_
  intro p e s m args below meth c R Q B hP ret ls hl
  obtain ⟨hx, hb, hml, hown, hts, hK, hRf, hRl⟩ := B
  have hl : lv_has ls 2 [(0, .long v)] := hl
  refine lv_lload_n hx hb dX4_isFinite_0 rfl (lv_at hl 0 rfl) ?_
  refine lv_bipush (v := nI 52) hx hb dX4_isFinite_1 (by decide) ?_
  refine lv_lushr (v := jushr v (nI 52)) hx hb dX4_isFinite_3 rfl ?_
  refine lv_ldc2 (v := 2047) hx hb hown (hts (.constantLong RX4 81 (2047)) (by decide +kernel)) dX4_isFinite_4 ?_
  refine lv_land hx hb dX4_isFinite_7 ?_
  refine lv_ldc2 (v := 2047) hx hb hown (hts (.constantLong RX4 81 (2047)) (by decide +kernel)) dX4_isFinite_8 ?_
  refine zl_eq (tgt := 19) hx hb dX4_isFinite_11 dX4_isFinite_12 (by decide) (fun c_1 => ?_) (fun c_1 => ?_)
  · refine lv_iconst (v := nI 0) hx hb dX4_isFinite_19 (by decide) ?_
    exact z_reti (by rw [show mFin v = false from by unfold mFin; simp [c_1]]; rfl) (ret _ _ dX4_isFinite_20)
  · refine lv_iconst (v := nI 1) hx hb dX4_isFinite_15 (by decide) ?_
    refine lv_goto (tgt := 20) hx hb dX4_isFinite_16 (by decide) ?_
    exact z_reti (by rw [show mFin v = true from by unfold mFin; simp [c_1]]; rfl) (ret _ _ dX4_isFinite_20)
set_option maxHeartbeats 4000000 in
set_option maxRecDepth 100000 in
theorem kX4_thrown (l : Launch) (E : zE) (m0 k0 q0 t0 v0 c0 o0 s0 j0 r0 f0 g0 h0 : Nat) (cd : Int32) (n : Nat) (K M : Nat → Nat) (TT : Nat → Int32) (VV CC : Nat → Int64) (OO : Nat → Nat) (b : Nat) (S J : Nat → Nat) (RR : Nat → Bool) (w1 w2 w3 w4 : Int32) (SF SM FD : Nat → Nat) (hn : n ≤ 12) : Met l yX4_thrown wsX4_thrown (rmL 0) (va_Pc [.ref m0] (zW E (mW E m0 k0 q0 t0 v0 c0 o0 s0 j0 r0 f0 g0 h0 cd n K M TT VV CC OO b S J RR w1 w2 w3 w4 SF SM FD))) (vp_Si (fun r9 => r9 = cd)) 0 0 (fun _ => False) := by
  refine z_ofRi (cc := cX4_thrown) (maxL := 1) (own := RX4) (by decide) rfl rfl (Nat.le_of_ble_eq_true rfl) ?_
  intro p e s m args below meth c R Q B hP ret ls hl
  obtain ⟨hx, hb, hml, hown, hts, hK, hRf, hRl⟩ := B
  have hiX4 : ∀ w ∈ wsX40, w ∈ wsX4_thrown := by decide +kernel
  have hf52 := hts (.fieldLink RX4 52 "ExactFoldsModel" "code" "I") (by decide +kernel)
  have hl : lv_has ls 1 [(0, .ref m0)] := hl
  refine lv_aload_n hx hb dX4_thrown_0 rfl (lv_at hl 0 rfl) ?_
  refine va_get (D := E.1) (ci := 5) (C := RX4) (T := TX4) (N := 19) hx hb hts hiX4 hown hK.1 hP 0 rfl rfl 0 (by decide) hf52 (fun _ h9 => h9) rfl dX4_thrown_1 ?_
  exact z_reti (rfl) (ret _ _ dX4_thrown_4)
set_option maxHeartbeats 4000000 in
set_option maxRecDepth 100000 in
theorem kX4_isFold (l : Launch) (E : zE) (m0 k0 q0 t0 v0 c0 o0 s0 j0 r0 f0 g0 h0 : Nat) (cd : Int32) (n : Nat) (K M : Nat → Nat) (TT : Nat → Int32) (VV CC : Nat → Int64) (OO : Nat → Nat) (b : Nat) (S J : Nat → Nat) (RR : Nat → Bool) (w1 w2 w3 w4 : Int32) (SF SM FD : Nat → Nat) (hn : n ≤ 12) (f : Int32) : Met l yX4_isFold wsX4_isFold (rmL 0) (va_Pc [.ref m0, .int f] (zW E (mW E m0 k0 q0 t0 v0 c0 o0 s0 j0 r0 f0 g0 h0 cd n K M TT VV CC OO b S J RR w1 w2 w3 w4 SF SM FD))) (vp_Si (fun r9 => r9 = bI ((fidx n f).isSome))) 0 0 (fun _ => False) := by
  refine z_ofRz (cc := cX4_isFold) (maxL := 2) (own := RX4) (by decide) rfl rfl (Nat.le_of_ble_eq_true rfl) ?_
  intro p e s m args below meth c R Q B hP ret ls hl
  obtain ⟨hx, hb, hml, hown, hts, hK, hRf, hRl⟩ := B
  have hiX4 : ∀ w ∈ wsX40, w ∈ wsX4_isFold := by decide +kernel
  have hf48 := hts (.fieldLink RX4 48 "ExactFoldsModel" "folds" "I") (by decide +kernel)
  have hl : lv_has ls 2 [(0, .ref m0), (1, .int f)] := hl
  refine lv_iload_n hx hb dX4_isFold_0 rfl (lv_at hl 1 rfl) ?_
  refine lv_if_lt (tgt := 16) hx hb dX4_isFold_1 (by decide) (fun c_1 => ?_) (fun c_1 => ?_)
  · refine lv_iconst (v := nI 0) hx hb dX4_isFold_16 (by decide) ?_
    exact z_reti (by rw [show (fidx n f).isSome = false from by unfold fidx; simp [c_1]]; rfl) (ret _ _ dX4_isFold_17)
  · refine lv_iload_n hx hb dX4_isFold_4 rfl (lv_at hl 1 rfl) ?_
    refine lv_aload_n hx hb dX4_isFold_5 rfl (lv_at hl 0 rfl) ?_
    refine va_get (D := E.1) (ci := 5) (C := RX4) (T := TX4) (N := 19) hx hb hts hiX4 hown hK.1 hP 0 rfl rfl 1 (by decide) hf48 (fun _ h9 => h9) rfl dX4_isFold_6 ?_
    refine lv_icmp_ge (tgt := 16) hx hb dX4_isFold_9 (by decide) (fun c_2 => ?_) (fun c_2 => ?_)
    · refine lv_iconst (v := nI 0) hx hb dX4_isFold_16 (by decide) ?_
      exact z_reti (by rw [show (fidx n f).isSome = false from by unfold fidx; simp [c_1, c_2]]; rfl) (ret _ _ dX4_isFold_17)
    · refine lv_iconst (v := nI 1) hx hb dX4_isFold_12 (by decide) ?_
      refine lv_goto (tgt := 17) hx hb dX4_isFold_13 (by decide) ?_
      exact z_reti (by rw [show (fidx n f).isSome = true from by unfold fidx; simp [c_1, c_2]]; rfl) (ret _ _ dX4_isFold_17)
set_option maxHeartbeats 4000000 in
set_option maxRecDepth 100000 in
theorem kX4_isOf (l : Launch) (E : zE) (m0 k0 q0 t0 v0 c0 o0 s0 j0 r0 f0 g0 h0 : Nat) (cd : Int32) (n : Nat) (K M : Nat → Nat) (TT : Nat → Int32) (VV CC : Nat → Int64) (OO : Nat → Nat) (b : Nat) (S J : Nat → Nat) (RR : Nat → Bool) (w1 w2 w3 w4 : Int32) (SF SM FD : Nat → Nat) (hn : n ≤ 12) (hK5 : ∀ j, j < n → K j < 5) (f : Int32) (k_ : Nat) (hk_ : k_ < 5) : Met l yX4_isOf wsX4_isOf (rmL 1) (va_Pc [.ref m0, .int f, .int (nI k_)] (zW E (mW E m0 k0 q0 t0 v0 c0 o0 s0 j0 r0 f0 g0 h0 cd n K M TT VV CC OO b S J RR w1 w2 w3 w4 SF SM FD))) (vp_Si (fun r9 => r9 = bI ((fok n K f k_).isSome))) 0 0 (fun _ => False) := by
  refine z_ofRz (cc := cX4_isOf) (maxL := 3) (own := RX4) (by decide) rfl rfl (Nat.le_of_ble_eq_true rfl) ?_
  intro p e s m args below meth c R Q B hP ret ls hl
  obtain ⟨hx, hb, hml, hown, hts, hK, hRf, hRl⟩ := B
  have hiX4 : ∀ w ∈ wsX40, w ∈ wsX4_isOf := by decide +kernel
  have hf7 := hts (.fieldLink RX4 7 "ExactFoldsModel" "kind" "[I") (by decide +kernel)
  have hl : lv_has ls 3 [(0, .ref m0), (1, .int f), (2, .int (nI k_))] := hl
  refine lv_aload_n hx hb dX4_isOf_0 rfl (lv_at hl 0 rfl) ?_
  refine lv_iload_n hx hb dX4_isOf_1 rfl (lv_at hl 1 rfl) ?_
  refine zc_i (W.runV ⟨hx, hb, hml, hown, hts⟩ (kX4_isFold l E m0 k0 q0 t0 v0 c0 o0 s0 j0 r0 f0 g0 h0 cd n K M TT VV CC OO b S J RR w1 w2 w3 w4 SF SM FD hn f) (cwV 1 hts gX4_isOf_X4_isFold rfl rfl rfl (by decide +kernel) ⟨Nat.le_trans (Nat.le_of_ble_eq_true rfl) hRf, Nat.le_trans (Nat.le_of_ble_eq_true rfl) hRl⟩) (z_preV (As := [.int f]) hP hK 0 rfl rfl) rfl rfl hl.1 rfl (lv_room (Nat.le_of_ble_eq_true rfl)) dX4_isOf_2 ⟨Nat.zero_le _, Nat.zero_le _⟩) ?_
  refine zb_if_eq (tgt := 22) hx hb dX4_isOf_5 (by decide) (fun c_1 => ?_) (fun c_1 => ?_)
  · have hfij := fd_none c_1
    refine lv_iconst (v := nI 0) hx hb dX4_isOf_22 (by decide) ?_
    exact z_reti (by unfold fok; rw [hfij]; rfl) (ret _ _ dX4_isOf_23)
  · obtain ⟨j, hjj, rfl, hfij⟩ := fd_some (by omega) c_1
    refine lv_aload_n hx hb dX4_isOf_8 rfl (lv_at hl 0 rfl) ?_
    refine va_get (D := E.1) (ci := 5) (C := RX4) (T := TX4) (N := 19) hx hb hts hiX4 hown hK.1 hP 0 rfl rfl 2 (by decide) hf7 (fun _ h9 => h9) rfl dX4_isOf_9 ?_
    refine lv_iload_n hx hb dX4_isOf_12 rfl (lv_at hl 1 rfl) ?_
    refine zn_iald hx hb hK.1 hP 1 0 rfl rfl (by omega) (by decide) dX4_isOf_13 ?_
    refine lv_iload_n hx hb dX4_isOf_14 rfl (lv_at hl 2 rfl) ?_
    refine zn_icmp_ne (tgt := 22) hx hb dX4_isOf_15 (by decide) (by have := hK5 j hjj; omega) (by omega) (fun c_2 => ?_) (fun c_2 => ?_)
    · refine lv_iconst (v := nI 0) hx hb dX4_isOf_22 (by decide) ?_
      exact z_reti (by unfold fok; rw [hfij]; show _ = bI (if K j = k_ then some j else none).isSome; rw [if_neg c_2]; rfl) (ret _ _ dX4_isOf_23)
    · refine lv_iconst (v := nI 1) hx hb dX4_isOf_18 (by decide) ?_
      refine lv_goto (tgt := 23) hx hb dX4_isOf_19 (by decide) ?_
      exact z_reti (by unfold fok; rw [hfij]; show _ = bI (if K j = k_ then some j else none).isSome; rw [if_pos c_2]; rfl) (ret _ _ dX4_isOf_23)
set_option maxHeartbeats 4000000 in
set_option maxRecDepth 100000 in
theorem kX4_rows (l : Launch) (E : zE) (sz : Nat) (m0 k0 q0 t0 v0 c0 o0 s0 j0 r0 f0 g0 h0 : Nat) (cd : Int32) (n : Nat) (K M : Nat → Nat) (TT : Nat → Int32) (VV CC : Nat → Int64) (OO : Nat → Nat) (b : Nat) (S J : Nat → Nat) (RR : Nat → Bool) (w1 w2 w3 w4 : Int32) (SF SM FD : Nat → Nat) (hn : n ≤ 12) (hM : ∀ j, j < n → M j ≤ 64) (f : Int32) : Met l yX4_rows wsX4_rows (rmL 1) (va_Pc [.ref m0, .int f] (zS E (mW E m0 k0 q0 t0 v0 c0 o0 s0 j0 r0 f0 g0 h0 cd n K M TT VV CC OO b S J RR w1 w2 w3 w4 SF SM FD) sz)) (va_Qi (fun (r9 : Int32) (_ : Unit) => r9 = aRows n M f) (fun _ t9 => zW E (mW E m0 k0 q0 t0 v0 c0 o0 s0 j0 r0 f0 g0 h0 (nI 0) n K M TT VV CC OO b S J RR w1 w2 w3 w4 SF SM FD) t9) (va_A (mW E m0 k0 q0 t0 v0 c0 o0 s0 j0 r0 f0 g0 h0 cd n K M TT VV CC OO b S J RR w1 w2 w3 w4 SF SM FD) sz)) 0 0 (va_A (mW E m0 k0 q0 t0 v0 c0 o0 s0 j0 r0 f0 g0 h0 cd n K M TT VV CC OO b S J RR w1 w2 w3 w4 SF SM FD) sz) := by
  refine z_ofWi (cc := cX4_rows) (maxL := 2) (own := RX4) (by decide) rfl rfl (Nat.le_of_ble_eq_true rfl) ?_
  intro p e s m args below meth c R Q A B hP hD hA ret ls hl
  obtain ⟨hx, hb, hml, hown, hts, hK, hRf, hRl⟩ := B
  have hiX4 : ∀ w ∈ wsX40, w ∈ wsX4_rows := by decide +kernel
  have hf13 := hts (.fieldLink RX4 13 "ExactFoldsModel" "many" "[I") (by decide +kernel)
  have hf52 := hts (.fieldLink RX4 52 "ExactFoldsModel" "code" "I") (by decide +kernel)
  have hS : va_S A s.heap s.heap [] := va_S.rf
  have hl : lv_has ls 2 [(0, .ref m0), (1, .int f)] := hl
  refine lv_aload_n hx hb dX4_rows_0 rfl (lv_at hl 0 rfl) ?_
  refine lv_iconst (v := nI 0) hx hb dX4_rows_1 (by decide) ?_
  refine va_put (D := E.1) (ci := 5) (v := .int (nI 0)) (ty := .int) (C := RX4) (T := TX4) (N := 19) hx hb hts hiX4 tyX4 tyX4_ok nmX4 hown hK.1 hP hD hS 0 rfl rfl 0 (by decide) hf52 (fun _ h9 => h9) rfl (by decide +kernel) rfl rfl (Nat.le_of_ble_eq_true rfl) dX4_rows_2 (fun H locs hP hD hS => ?_)
  have hP : va_P E.1 vwCl (mW E m0 k0 q0 t0 v0 c0 o0 s0 j0 r0 f0 g0 h0 (nI 0) n K M TT VV CC OO b S J RR w1 w2 w3 w4 SF SM FD) H := hP
  have hD : va_D A (mW E m0 k0 q0 t0 v0 c0 o0 s0 j0 r0 f0 g0 h0 (nI 0) n K M TT VV CC OO b S J RR w1 w2 w3 w4 SF SM FD) := hD
  refine lv_aload_n hx hb dX4_rows_5 rfl (lv_at hl 0 rfl) ?_
  refine lv_iload_n hx hb dX4_rows_6 rfl (lv_at hl 1 rfl) ?_
  refine zc_i (W.runV ⟨hx, hb, hml, hown, hts⟩ (kX4_isFold l E m0 k0 q0 t0 v0 c0 o0 s0 j0 r0 f0 g0 h0 (nI 0) n K M TT VV CC OO b S J RR w1 w2 w3 w4 SF SM FD hn f) (cwV 1 hts gX4_rows_X4_isFold rfl rfl rfl (by decide +kernel) ⟨Nat.le_trans (Nat.le_of_ble_eq_true rfl) hRf, Nat.le_trans (Nat.le_of_ble_eq_true rfl) hRl⟩) (z_preV (As := [.int f]) hP hK 0 rfl rfl) rfl rfl hl.1 rfl (lv_room (Nat.le_of_ble_eq_true rfl)) dX4_rows_7 ⟨Nat.zero_le _, Nat.zero_le _⟩) ?_
  refine zb_if_eq (tgt := 22) hx hb dX4_rows_10 (by decide) (fun c_1 => ?_) (fun c_1 => ?_)
  · have hfij := fd_none c_1
    refine lv_iconst (v := (-1)) hx hb dX4_rows_22 (by decide) ?_
    exact z_reti (by unfold aRows; rw [hfij]; rfl) (ret _ _ _ _ (hP) hS dX4_rows_23)
  · obtain ⟨j, hjj, rfl, hfij⟩ := fd_some (by omega) c_1
    refine lv_aload_n hx hb dX4_rows_13 rfl (lv_at hl 0 rfl) ?_
    refine va_get (D := E.1) (ci := 5) (C := RX4) (T := TX4) (N := 19) hx hb hts hiX4 hown hK.1 hP 0 rfl rfl 3 (by decide) hf13 (fun _ h9 => h9) rfl dX4_rows_14 ?_
    refine lv_iload_n hx hb dX4_rows_17 rfl (lv_at hl 1 rfl) ?_
    refine zn_iald hx hb hK.1 hP 2 0 rfl rfl (by omega) (by decide) dX4_rows_18 ?_
    refine lv_goto (tgt := 23) hx hb dX4_rows_19 (by decide) ?_
    exact z_reti (by unfold aRows; rw [hfij]; rfl) (ret _ _ _ _ (hP) hS dX4_rows_23)
set_option maxHeartbeats 4000000 in
set_option maxRecDepth 100000 in
theorem kX4_rank (l : Launch) (E : zE) (sz : Nat) (m0 k0 q0 t0 v0 c0 o0 s0 j0 r0 f0 g0 h0 : Nat) (cd : Int32) (n : Nat) (K M : Nat → Nat) (TT : Nat → Int32) (VV CC : Nat → Int64) (OO : Nat → Nat) (b : Nat) (S J : Nat → Nat) (RR : Nat → Bool) (w1 w2 w3 w4 : Int32) (SF SM FD : Nat → Nat) (hn : n ≤ 12) (hM : ∀ j, j < n → M j ≤ 64) (hK5 : ∀ j, j < n → K j < 5) (f : Int32) (v : Int64) : Met l yX4_rank wsX4_rank (rmL 1) (va_Pc [.ref m0, .int f, .long v] (zS E (mW E m0 k0 q0 t0 v0 c0 o0 s0 j0 r0 f0 g0 h0 cd n K M TT VV CC OO b S J RR w1 w2 w3 w4 SF SM FD) sz)) (va_Qi (fun (r9 : Int32) (_ : Unit) => r9 = aRank n K M (vw VV) f v) (fun _ t9 => zW E (mW E m0 k0 q0 t0 v0 c0 o0 s0 j0 r0 f0 g0 h0 (nI 0) n K M TT VV CC OO b S J RR w1 w2 w3 w4 SF SM FD) t9) (va_A (mW E m0 k0 q0 t0 v0 c0 o0 s0 j0 r0 f0 g0 h0 cd n K M TT VV CC OO b S J RR w1 w2 w3 w4 SF SM FD) sz)) 0 0 (va_A (mW E m0 k0 q0 t0 v0 c0 o0 s0 j0 r0 f0 g0 h0 cd n K M TT VV CC OO b S J RR w1 w2 w3 w4 SF SM FD) sz) := by
  refine z_ofWi (cc := cX4_rank) (maxL := 6) (own := RX4) (by decide) rfl rfl (Nat.le_of_ble_eq_true rfl) ?_
  intro p e s m args below meth c R Q A B hP hD hA ret ls hl
  obtain ⟨hx, hb, hml, hown, hts, hK, hRf, hRl⟩ := B
  have hiX4 : ∀ w ∈ wsX40, w ∈ wsX4_rank := by decide +kernel
  have hf7 := hts (.fieldLink RX4 7 "ExactFoldsModel" "kind" "[I") (by decide +kernel)
  have hf13 := hts (.fieldLink RX4 13 "ExactFoldsModel" "many" "[I") (by decide +kernel)
  have hf19 := hts (.fieldLink RX4 19 "ExactFoldsModel" "values" "[J") (by decide +kernel)
  have hf52 := hts (.fieldLink RX4 52 "ExactFoldsModel" "code" "I") (by decide +kernel)
  have hS : va_S A s.heap s.heap [] := va_S.rf
  have hl : lv_has ls 6 [(0, .ref m0), (1, .int f), (2, .long v)] := hl
  refine lv_aload_n hx hb dX4_rank_0 rfl (lv_at hl 0 rfl) ?_
  refine lv_iconst (v := nI 0) hx hb dX4_rank_1 (by decide) ?_
  refine va_put (D := E.1) (ci := 5) (v := .int (nI 0)) (ty := .int) (C := RX4) (T := TX4) (N := 19) hx hb hts hiX4 tyX4 tyX4_ok nmX4 hown hK.1 hP hD hS 0 rfl rfl 0 (by decide) hf52 (fun _ h9 => h9) rfl (by decide +kernel) rfl rfl (Nat.le_of_ble_eq_true rfl) dX4_rank_2 (fun H locs hP hD hS => ?_)
  have hP : va_P E.1 vwCl (mW E m0 k0 q0 t0 v0 c0 o0 s0 j0 r0 f0 g0 h0 (nI 0) n K M TT VV CC OO b S J RR w1 w2 w3 w4 SF SM FD) H := hP
  have hD : va_D A (mW E m0 k0 q0 t0 v0 c0 o0 s0 j0 r0 f0 g0 h0 (nI 0) n K M TT VV CC OO b S J RR w1 w2 w3 w4 SF SM FD) := hD
  refine lv_aload_n hx hb dX4_rank_5 rfl (lv_at hl 0 rfl) ?_
  refine lv_iload_n hx hb dX4_rank_6 rfl (lv_at hl 1 rfl) ?_
  refine zc_i (W.runV ⟨hx, hb, hml, hown, hts⟩ (kX4_isFold l E m0 k0 q0 t0 v0 c0 o0 s0 j0 r0 f0 g0 h0 (nI 0) n K M TT VV CC OO b S J RR w1 w2 w3 w4 SF SM FD hn f) (cwV 1 hts gX4_rank_X4_isFold rfl rfl rfl (by decide +kernel) ⟨Nat.le_trans (Nat.le_of_ble_eq_true rfl) hRf, Nat.le_trans (Nat.le_of_ble_eq_true rfl) hRl⟩) (z_preV (As := [.int f]) hP hK 0 rfl rfl) rfl rfl hl.1 rfl (lv_room (Nat.le_of_ble_eq_true rfl)) dX4_rank_7 ⟨Nat.zero_le _, Nat.zero_le _⟩) ?_
  refine zb_if_ne (tgt := 15) hx hb dX4_rank_10 (by decide) (fun c_1 => ?_) (fun c_1 => ?_)
  · obtain ⟨j, hjj, rfl, hfij⟩ := fd_some (by omega) c_1
    have hMj := hM j hjj
    have hKj := hK5 j hjj
    refine lv_aload_n hx hb dX4_rank_15 rfl (lv_at hl 0 rfl) ?_
    refine va_get (D := E.1) (ci := 5) (C := RX4) (T := TX4) (N := 19) hx hb hts hiX4 hown hK.1 hP 0 rfl rfl 2 (by decide) hf7 (fun _ h9 => h9) rfl dX4_rank_16 ?_
    refine lv_iload_n hx hb dX4_rank_19 rfl (lv_at hl 1 rfl) ?_
    refine zn_iald hx hb hK.1 hP 1 0 rfl rfl (by omega) (by decide) dX4_rank_20 ?_
    refine lv_iconst (v := nI 3) hx hb dX4_rank_21 (by decide) ?_
    refine zn_icmp_eq (tgt := 28) hx hb dX4_rank_22 (by decide) (by omega) (by omega) (fun c_2 => ?_) (fun c_2 => ?_)
    · have hk3 : K j = 3 := c_2
      refine lv_iconst (v := nI 0) hx hb dX4_rank_28 (by decide) ?_
      refine lv_istore (lv' := [(4, .int (nI 0)), (0, .ref m0), (1, .int (nI j)), (2, .long v)]) hx hb dX4_rank_29 hl (by decide) rfl (fun ls hl => ?_)
      refine lv_bipush (v := nI 64) hx hb dX4_rank_31 (by decide) ?_
      refine lv_iload_n hx hb dX4_rank_33 rfl (lv_at hl 2 rfl) ?_
      refine zn_imul hx hb dX4_rank_34 ?_
      refine lv_istore (lv' := [(5, .int (nI (64 * j))), (4, .int (nI 0)), (0, .ref m0), (1, .int (nI j)), (2, .long v)]) hx hb dX4_rank_35 hl (by decide) rfl (fun ls hl => ?_)
      have lp : ∀ (fu : Nat) (i : Nat) (x : Nat) (ls : Array Slot) (H : Heap) (locs : List Loc), M j - i < fu → (i ≤ M j) → (x = cntB (vw VV j) v i) → lv_has ls 6 [(0, .ref m0), (1, .int (nI j)), (2, .long v), (4, .int (nI x)), (5, .int (nI (64 * j + i)))] → va_P E.1 vwCl (mW E m0 k0 q0 t0 v0 c0 o0 s0 j0 r0 f0 g0 h0 (nI 0) n K M TT VV CC OO b S J RR w1 w2 w3 w4 SF SM FD) H → va_D A (mW E m0 k0 q0 t0 v0 c0 o0 s0 j0 r0 f0 g0 h0 (nI 0) n K M TT VV CC OO b S J RR w1 w2 w3 w4 SF SM FD) → va_S A s.heap H locs → W p l e R s m args below meth c H locs 0 0 Q (F0 m 37 ls []) := by
        intro fu
        induction fu with
        | zero => intros; exact absurd (by assumption) (Nat.not_lt_zero _)
        | succ fu ihlp =>
          intro i x ls H locs hfu hi hx2 hl hP hD hS
          refine lv_iload hx hb dX4_rank_37 (lv_at hl 4 rfl) ?_
          refine lv_bipush (v := nI 64) hx hb dX4_rank_39 (by decide) ?_
          refine lv_iload_n hx hb dX4_rank_41 rfl (lv_at hl 1 rfl) ?_
          refine zn_imul hx hb dX4_rank_42 ?_
          refine lv_aload_n hx hb dX4_rank_43 rfl (lv_at hl 0 rfl) ?_
          refine va_get (D := E.1) (ci := 5) (C := RX4) (T := TX4) (N := 19) hx hb hts hiX4 hown hK.1 hP 0 rfl rfl 3 (by decide) hf13 (fun _ h9 => h9) rfl dX4_rank_44 ?_
          refine lv_iload_n hx hb dX4_rank_47 rfl (lv_at hl 1 rfl) ?_
          refine zn_iald hx hb hK.1 hP 2 0 rfl rfl (by omega) (by decide) dX4_rank_48 ?_
          refine zn_iadd hx hb dX4_rank_49 ?_
          refine zn_icmp_ge (tgt := 81) hx hb dX4_rank_50 (by decide) (by omega) (by omega) (fun c_3 => ?_) (fun c_3 => ?_)
          · obtain rfl : i = M j := by omega
            refine lv_iload hx hb dX4_rank_81 (lv_at hl 3 rfl) ?_
            exact z_reti (by unfold aRank; rw [hfij]; show _ = if K j = 3 then nI (cntB (vw VV j) v (M j)) else (-3); rw [if_pos hk3, hx2]) (ret _ _ _ _ (hP) hS dX4_rank_83)
          · refine lv_iload hx hb dX4_rank_53 (lv_at hl 3 rfl) ?_
            refine lv_aload_n hx hb dX4_rank_55 rfl (lv_at hl 0 rfl) ?_
            refine va_get (D := E.1) (ci := 5) (C := RX4) (T := TX4) (N := 19) hx hb hts hiX4 hown hK.1 hP 0 rfl rfl 5 (by decide) hf19 (fun _ h9 => h9) rfl dX4_rank_56 ?_
            refine lv_iload hx hb dX4_rank_59 (lv_at hl 4 rfl) ?_
            refine zn_lald hx hb hK.1 hP 4 1 rfl rfl (by omega) (by decide) dX4_rank_61 ?_
            refine lv_lload_n hx hb dX4_rank_62 rfl (lv_at hl 2 rfl) ?_
            refine zl_ge (tgt := 71) hx hb dX4_rank_63 dX4_rank_64 (by decide) (fun c_4 => ?_) (fun c_4 => ?_)
            · have hq2 : x + 0 = cntB (vw VV j) v (i + 1) := by unfold cntB; rw [if_neg (show ¬ vw VV j i < v from c_4)]; exact hx2
              refine lv_iconst (v := nI 0) hx hb dX4_rank_71 (by decide) ?_
              refine zn_iadd hx hb dX4_rank_72 ?_
              refine lv_istore (lv' := [(4, .int (nI (x + 0))), (0, .ref m0), (1, .int (nI j)), (2, .long v), (5, .int (nI (64 * j + i)))]) hx hb dX4_rank_73 hl (by decide) rfl (fun ls hl => ?_)
              refine lv_iinc (v := nI (64 * j + i + 1)) (lv' := [(5, .int (nI (64 * j + i + 1))), (4, .int (nI (x + 0))), (0, .ref m0), (1, .int (nI j)), (2, .long v)]) hx hb dX4_rank_75 hl (k := 4) rfl (z_inc _ 1) (by decide) rfl (fun ls hl => ?_)
              refine lv_goto (tgt := 37) hx hb dX4_rank_78 (by decide) ?_
              exact ihlp (i + 1) (x + 0) ls _ _ (by omega) (by omega) (hq2) (lv_sub hl [2, 3, 4, 1, 0] rfl) hP hD hS
            · have hq2 : x + 1 = cntB (vw VV j) v (i + 1) := by unfold cntB; rw [if_pos (show vw VV j i < v from c_4)]; omega
              refine lv_iconst (v := nI 1) hx hb dX4_rank_67 (by decide) ?_
              refine lv_goto (tgt := 72) hx hb dX4_rank_68 (by decide) ?_
              refine zn_iadd hx hb dX4_rank_72 ?_
              refine lv_istore (lv' := [(4, .int (nI (x + 1))), (0, .ref m0), (1, .int (nI j)), (2, .long v), (5, .int (nI (64 * j + i)))]) hx hb dX4_rank_73 hl (by decide) rfl (fun ls hl => ?_)
              refine lv_iinc (v := nI (64 * j + i + 1)) (lv' := [(5, .int (nI (64 * j + i + 1))), (4, .int (nI (x + 1))), (0, .ref m0), (1, .int (nI j)), (2, .long v)]) hx hb dX4_rank_75 hl (k := 4) rfl (z_inc _ 1) (by decide) rfl (fun ls hl => ?_)
              refine lv_goto (tgt := 37) hx hb dX4_rank_78 (by decide) ?_
              exact ihlp (i + 1) (x + 1) ls _ _ (by omega) (by omega) (hq2) (lv_sub hl [2, 3, 4, 1, 0] rfl) hP hD hS
      exact lp _ 0 0 ls _ _ (Nat.lt_succ_self _) (Nat.zero_le _) (rfl) (lv_sub hl [2, 3, 4, 1, 0] rfl) hP hD hS
    · refine lv_bipush (v := (-3)) hx hb dX4_rank_25 (by decide) ?_
      exact z_reti (by unfold aRank; rw [hfij]; show _ = if K j = 3 then nI (cntB (vw VV j) v (M j)) else (-3); rw [if_neg c_2]) (ret _ _ _ _ (hP) hS dX4_rank_27)
  · have hfij := fd_none c_1
    refine lv_iconst (v := (-1)) hx hb dX4_rank_13 (by decide) ?_
    exact z_reti (by unfold aRank; rw [hfij]; rfl) (ret _ _ _ _ (hP) hS dX4_rank_14)
