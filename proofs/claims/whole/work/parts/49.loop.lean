/-! the law: the switch, the loop -/
theorem sw_of (x : Int32) : ∃ k : Nat, k < 32 ∧ x &&& nI 31 = nI k := ⟨x.toBitVec.toNat % 2 ^ 5, Nat.mod_lt _ (by decide), pk_and x 5 (by decide)⟩
section LOOP
variable {p : Program} {l : Launch} {e : Env} {s : State} {m : MethodId} {below : List Frame} {meth : Method} {c : Code} {H : Heap} {locs : List Loc} {cells slots : Nat} {Q : State → Prop} {ls : Array Slot} {E : zE} {sb Ln x0 m0 o0 i : Nat} {xs : Nat → Int32}
set_option maxHeartbeats 4000000 in
set_option maxRecDepth 100000 in
theorem lw_case (B : lwB p l s m c E sb Ln xs) (hV : lwV E x0 m0 o0 (lwA s) H) (hS : va_S (lwA s) s.heap H locs) (hc : cells ≤ 5000) (hs : slots ≤ 100000) (hi : i + 5 ≤ Ln) (hl : lv_has ls 8 (lvL sb x0 m0 o0 i)) (kk : lwN p l e s m below meth c Q E sb x0 m0 o0 i cells slots) : W p l e room_1 s m #[Value.ref sb] below meth c H locs cells slots Q (F0 m 32 ls []) := by
  have B2 := B
  obtain ⟨⟨hx, hb, hml, hown, hts⟩, hK, hX, hbl, hL, -⟩ := B2
  have hbA : ¬ lwA s sb := fun q => Nat.not_lt.mpr q hbl
  refine lv_aload_n hx hb dL_law_32 rfl (lv_at hl 0 rfl) ?_
  refine lv_iload hx hb dL_law_33 (lv_at hl 4 rfl) ?_
  refine va_sld hx hb hX hbl hbA hS (vp_in_nI (by omega) (by omega)) dL_law_35 ?_
  refine lv_bipush (v := nI 31) hx hb dL_law_36 (by decide) ?_
  refine lv_iand hx hb dL_law_38 ?_
  obtain ⟨k, hk, ek⟩ := sw_of (xs (nI i).toNatClampNeg)
  refine W.eq (g2 := F0 m 39 ls ([.int (nI k)])) (by rw [ek]) ?_
  by_cases h22 : k < 22
  · rcases (show k = 0 ∨ k = 1 ∨ k = 2 ∨ k = 3 ∨ k = 4 ∨ k = 5 ∨ k = 6 ∨ k = 7 ∨ k = 8 ∨ k = 9 ∨ k = 10 ∨ k = 11 ∨ k = 12 ∨ k = 13 ∨ k = 14 ∨ k = 15 ∨ k = 16 ∨ k = 17 ∨ k = 18 ∨ k = 19 ∨ k = 20 ∨ k = 21 by omega) with rfl | rfl | rfl | rfl | rfl | rfl | rfl | rfl | rfl | rfl | rfl | rfl | rfl | rfl | rfl | rfl | rfl | rfl | rfl | rfl | rfl | rfl
    · exact lv_tableIn (off := 101) (tgt := 140) hx hb dL_law_39 (by decide) (by decide) rfl (by decide) (lc_fold B hV hS hc hs hi hl kk)
    · exact lv_tableIn (off := 126) (tgt := 165) hx hb dL_law_39 (by decide) (by decide) rfl (by decide) (lc_add B hV hS hc hs hi hl kk)
    · exact lv_tableIn (off := 207) (tgt := 246) hx hb dL_law_39 (by decide) (by decide) rfl (by decide) (lc_addReal B hV hS hc hs hi hl kk)
    · exact lv_tableIn (off := 288) (tgt := 327) hx hb dL_law_39 (by decide) (by decide) rfl (by decide) (lc_remove B hV hS hc hs hi hl kk)
    · exact lv_tableIn (off := 369) (tgt := 408) hx hb dL_law_39 (by decide) (by decide) rfl (by decide) (lc_removeReal B hV hS hc hs hi hl kk)
    · exact lv_tableIn (off := 450) (tgt := 489) hx hb dL_law_39 (by decide) (by decide) rfl (by decide) (lc_merge B hV hS hc hs hi hl kk)
    · exact lv_tableIn (off := 487) (tgt := 526) hx hb dL_law_39 (by decide) (by decide) rfl (by decide) (lc_same B hV hS hc hs hi hl kk)
    · exact lv_tableIn (off := 524) (tgt := 563) hx hb dL_law_39 (by decide) (by decide) rfl (by decide) (lc_rows B hV hS hc hs hi hl kk)
    · exact lv_tableIn (off := 549) (tgt := 588) hx hb dL_law_39 (by decide) (by decide) rfl (by decide) (lc_limb B hV hS hc hs hi hl kk)
    · exact lv_tableIn (off := 617) (tgt := 656) hx hb dL_law_39 (by decide) (by decide) rfl (by decide) (lc_real B hV hS hc hs hi hl kk)
    · exact lv_tableIn (off := 643) (tgt := 682) hx hb dL_law_39 (by decide) (by decide) rfl (by decide) (lc_mean B hV hS hc hs hi hl kk)
    · exact lv_tableIn (off := 710) (tgt := 749) hx hb dL_law_39 (by decide) (by decide) rfl (by decide) (lc_spread B hV hS hc hs hi hl kk)
    · exact lv_tableIn (off := 777) (tgt := 816) hx hb dL_law_39 (by decide) (by decide) rfl (by decide) (lc_least B hV hS hc hs hi hl kk)
    · exact lv_tableIn (off := 815) (tgt := 854) hx hb dL_law_39 (by decide) (by decide) rfl (by decide) (lc_rank B hV hS hc hs hi hl kk)
    · exact lv_tableIn (off := 884) (tgt := 923) hx hb dL_law_39 (by decide) (by decide) rfl (by decide) (lc_unlike B hV hS hc hs hi hl kk)
    · exact lv_tableIn (off := 909) (tgt := 948) hx hb dL_law_39 (by decide) (by decide) rfl (by decide) (lc_item B hV hS hc hs hi hl kk)
    · exact lv_tableIn (off := 947) (tgt := 986) hx hb dL_law_39 (by decide) (by decide) rfl (by decide) (lc_start B hV hS hc hs hi hl kk)
    · exact lv_tableIn (off := 972) (tgt := 1011) hx hb dL_law_39 (by decide) (by decide) rfl (by decide) (lc_step B hV hS hc hs hi hl kk)
    · exact lv_tableIn (off := 1021) (tgt := 1060) hx hb dL_law_39 (by decide) (by decide) rfl (by decide) (lc_join B hV hS hc hs hi hl kk)
    · exact lv_tableIn (off := 1070) (tgt := 1109) hx hb dL_law_39 (by decide) (by decide) rfl (by decide) (lc_state B hV hS hc hs hi hl kk)
    · exact lv_tableIn (off := 1095) (tgt := 1134) hx hb dL_law_39 (by decide) (by decide) rfl (by decide) (lc_check B hV hS hc hs hi hl kk)
    · exact lv_tableIn (off := 1120) (tgt := 1159) hx hb dL_law_39 (by decide) (by decide) rfl (by decide) (lc_joined B hV hS hc hs hi hl kk)
  · refine lv_tableOut (tgt := 1196) hx hb dL_law_39 (Or.inr ?_) (by decide) ?_
    · rw [show (nI k).toInt = (k : Int) from nI_toInt (by omega)]; omega
    · exact kk _ _ _ _ _ hV hS (Nat.le_add_right _ _) (Nat.le_add_right _ _) hl
theorem lw_loop (B : lwB p l s m c E sb Ln xs) (fin : ∀ (H1 : Heap) (locs1 : List Loc) (ls1 : Array Slot) (c1 s1 : Nat), va_S (lwA s) s.heap H1 locs1 → c1 ≤ 5000 → s1 ≤ 100000 → W p l e room_1 s m #[Value.ref sb] below meth c H1 locs1 c1 s1 Q (F0 m 1202 ls1 [])) (fu : Nat) : ∀ (i : Nat) (H : Heap) (locs : List Loc) (ls : Array Slot) (cells slots : Nat), Ln < i + fu → i ≤ Ln + 5 → lwV E x0 m0 o0 (lwA s) H → va_S (lwA s) s.heap H locs → cells ≤ 40 + i → slots ≤ 5000 + 27 * i → lv_has ls 8 (lvL sb x0 m0 o0 i) → W p l e room_1 s m #[Value.ref sb] below meth c H locs cells slots Q (F0 m 23 ls []) := by
  induction fu with
  | zero =>
    intro i H locs ls cells slots h1 h2 hV hS hc hs hl
    have B2 := B
    obtain ⟨⟨hx, hb, hml, hown, hts⟩, hK, hX, hbl, hL, -⟩ := B2
    have hbA : ¬ lwA s sb := fun q => Nat.not_lt.mpr q hbl
    refine lv_iload hx hb dL_law_23 (lv_at hl 4 rfl) ?_
    refine lv_aload_n hx hb dL_law_25 rfl (lv_at hl 0 rfl) ?_
    refine va_slen hx hb hX hbl hbA hS dL_law_26 ?_
    refine lv_iconst (v := nI 5) hx hb dL_law_27 (by decide) ?_
    refine lv_isub hx hb dL_law_28 ?_
    refine lv_icmp_gt (tgt := 1202) hx hb dL_law_29 (by decide) (fun _ => fin _ _ _ _ _ hS (by omega) (by omega)) (fun q => ?_)
    exfalso
    refine q ?_
    show nI Ln - nI 5 < nI i
    rw [i_lt, pk_sub_toInt (by omega) (by decide), nI_toInt (by omega)]
    omega
  | succ fu ih =>
    intro i H locs ls cells slots h1 h2 hV hS hc hs hl
    have B2 := B
    obtain ⟨⟨hx, hb, hml, hown, hts⟩, hK, hX, hbl, hL, -⟩ := B2
    have hbA : ¬ lwA s sb := fun q => Nat.not_lt.mpr q hbl
    refine lv_iload hx hb dL_law_23 (lv_at hl 4 rfl) ?_
    refine lv_aload_n hx hb dL_law_25 rfl (lv_at hl 0 rfl) ?_
    refine va_slen hx hb hX hbl hbA hS dL_law_26 ?_
    refine lv_iconst (v := nI 5) hx hb dL_law_27 (by decide) ?_
    refine lv_isub hx hb dL_law_28 ?_
    refine lv_icmp_gt (tgt := 1202) hx hb dL_law_29 (by decide) (fun _ => fin _ _ _ _ _ hS (by omega) (by omega)) (fun q => ?_)
    have hi : i + 5 ≤ Ln := by
      rcases Nat.lt_or_ge Ln (i + 5) with z | z
      · exfalso
        refine q ?_
        show nI Ln - nI 5 < nI i
        rw [i_lt, pk_sub_toInt (by omega) (by decide), nI_toInt (by omega)]
        omega
      · exact z
    refine lw_case B hV hS (by omega) (by omega) hi hl ?_
    intro H1 locs1 ls1 c1 s1 hV1 hS1 hc1 hs1 hl1
    refine lv_iinc (v := nI (i + 5)) (lv' := [(4, .int (nI (i + 5))), (0, .ref sb), (1, .ref x0), (2, .ref m0), (3, .ref o0)]) hx hb dL_law_1196 hl1 (k := 4) rfl (z_inc i 5) (by decide) rfl (fun ls hl => ?_)
    refine lv_goto (tgt := 23) hx hb dL_law_1199 (by decide) ?_
    exact ih (i + 5) H1 locs1 ls c1 s1 (by omega) (by omega) hV1 hS1 (by omega) (by omega) (lv_sub hl [1, 2, 3, 4, 0] rfl)
end LOOP
