/-! both sides hold the same rows, and answer alike -/
def Rl (n : Nat) (kd nz : Nat → Nat) (T : Nat → Nat → Int32) (V : Nat → Nat → Int64) (TT : Nat → Int32) (VV : Nat → Int64) (b : Nat) (S J : Nat → Nat) : Prop := n ≤ 12 ∧ (∀ j, j < n → nz j ≤ 64 ∧ kd j < 5 ∧ srt (T j) (V j) (nz j) ∧ (rws (T j) (V j) (nz j)).Perm (rws (vw TT j) (vw VV j) (nz j)) ∧ ∀ x ∈ rws (vw TT j) (vw VV j) (nz j), isVal (kd j) x.2 = true) ∧ b < 8 ∧ (∀ j, S j < 8) ∧ ∀ j, J j < 8
theorem val_sp {v : Int64} (h : isVal 2 v = true) : -1000000 ≤ v.toInt ∧ v.toInt ≤ 1000000 := by
  unfold isVal at h
  rw [if_neg (by decide), if_neg (by decide), if_pos rfl, decide_eq_true_iff, l_lt, l_lt, show (-1000000 : Int64).toInt = -1000000 from by decide, show (1000000 : Int64).toInt = 1000000 from by decide] at h
  omega
theorem val_own {v : Int64} (h : isVal 4 v = true) : isOwn v := by
  unfold isVal at h
  rw [if_neg (by decide), if_neg (by decide), if_neg (by decide), if_neg (by decide), decide_eq_true_iff, l_lt, l_lt, show (0 : Int64).toInt = 0 from rfl, show (4 : Int64).toInt = 4 from by decide] at h
  exact ⟨by omega, by omega⟩
section RL
variable {n : Nat} {kd nz : Nat → Nat} {T : Nat → Nat → Int32} {V : Nat → Nat → Int64} {TT : Nat → Int32} {VV : Nat → Int64} {b : Nat} {S J : Nat → Nat}
theorem Rl_n (h : Rl n kd nz T V TT VV b S J) : n ≤ 12 := h.1
theorem Rl_z (h : Rl n kd nz T V TT VV b S J) : ∀ j, j < n → nz j ≤ 64 := fun j hj => (h.2.1 j hj).1
theorem Rl_k (h : Rl n kd nz T V TT VV b S J) : ∀ j, j < n → kd j < 5 := fun j hj => (h.2.1 j hj).2.1
theorem Rl_s (h : Rl n kd nz T V TT VV b S J) {j : Nat} (hj : j < n) : srt (T j) (V j) (nz j) := (h.2.1 j hj).2.2.1
theorem Rl_p (h : Rl n kd nz T V TT VV b S J) {j : Nat} (hj : j < n) : (rws (T j) (V j) (nz j)).Perm (rws (vw TT j) (vw VV j) (nz j)) := (h.2.1 j hj).2.2.2.1
theorem Rl_w (h : Rl n kd nz T V TT VV b S J) {j : Nat} (hj : j < n) : ∀ x ∈ rws (vw TT j) (vw VV j) (nz j), isVal (kd j) x.2 = true := (h.2.1 j hj).2.2.2.2
theorem Rl_b (h : Rl n kd nz T V TT VV b S J) : b < 8 := h.2.2.1
theorem Rl_S (h : Rl n kd nz T V TT VV b S J) : ∀ j, S j < 8 := h.2.2.2.1
theorem Rl_J (h : Rl n kd nz T V TT VV b S J) : ∀ j, J j < 8 := h.2.2.2.2
theorem Rl_v (h : Rl n kd nz T V TT VV b S J) {j i : Nat} (hj : j < n) (hi : i < nz j) : isVal (kd j) (V j i) = true := Rl_w h hj (T j i, V j i) ((Rl_p h hj).mem_iff.mp (rws_mem.mpr ⟨i, hi, rfl⟩))
theorem Rl_vv (h : Rl n kd nz T V TT VV b S J) {j i : Nat} (hj : j < n) (hi : i < nz j) : isVal (kd j) (vw VV j i) = true := Rl_w h hj (vw TT j i, vw VV j i) (rws_mem.mpr ⟨i, hi, rfl⟩)
theorem Rl_sp (h : Rl n kd nz T V TT VV b S J) : ∀ j, j < n → kd j = 2 → isSp (V j) (nz j) := fun j hj e i hi => val_sp (by rw [← e]; exact Rl_v h hj hi)
theorem Rl_spv (h : Rl n kd nz T V TT VV b S J) : ∀ j, j < n → kd j = 2 → isSp (vw VV j) (nz j) := fun j hj e i hi => val_sp (by rw [← e]; exact Rl_vv h hj hi)
theorem Rl_o (h : Rl n kd nz T V TT VV b S J) : ∀ j, j < n → kd j = 4 → ∀ i, i < nz j → isOwn (V j i) := fun j hj e i hi => val_own (by rw [← e]; exact Rl_v h hj hi)
theorem Rl_ov (h : Rl n kd nz T V TT VV b S J) : ∀ j, j < n → kd j = 4 → ∀ i, i < nz j → isOwn (VV (64 * j + i)) := fun j hj e i hi => val_own (by rw [← e]; exact Rl_vv h hj hi)
theorem Rl_fv (h : Rl n kd nz T V TT VV b S J) : ∀ j, j < n → kd j = 1 → ∀ i, i < nz j → isVal 1 (VV (64 * j + i)) = true := fun j hj e i hi => by have q := Rl_vv h hj hi; rw [e] at q; exact q
theorem Rl_0 : Rl 0 kd nz T V TT VV 0 (fun _ => 0) (fun _ => 0) := ⟨by decide, fun j hj => absurd hj (Nat.not_lt_zero _), by decide, fun _ => (by decide : 0 < 8), fun _ => (by decide : 0 < 8)⟩
/-- what they answer -/
theorem r_cases (h : Rl n kd nz T V TT VV b S J) (f : Int32) : fidx n f = none ∨ ∃ j : Nat, j < n ∧ f = nI j ∧ fidx n f = some j := fi_cases n f (by have := h.1; omega)
theorem o_cases (h : Rl n kd nz T V TT VV b S J) (f : Int32) (k : Nat) : fok n kd f k = none ∨ ∃ j : Nat, j < n ∧ f = nI j ∧ kd j = k ∧ fok n kd f k = some j := fok_cases n kd f k (by have := h.1; omega)
theorem e_rank (h : Rl n kd nz T V TT VV b S J) (f : Int32) (v : Int64) : aRank n kd nz V f v = aRank n kd nz (vw VV) f v := by
  unfold aRank
  rcases r_cases h f with q | ⟨j, hj, -, q⟩ <;> rw [q] <;> simp only [Option.elim]
  rw [pm_B (Rl_p h hj)]
theorem e_unl (h : Rl n kd nz T V TT VV b S J) (f : Int32) : aUnl n kd nz V f = aUnl n kd nz (vw VV) f := by
  unfold aUnl
  rcases r_cases h f with q | ⟨j, hj, -, q⟩ <;> rw [q] <;> simp only [Option.elim]
  rw [pm_Un (Rl_p h hj)]
theorem e_item (h : Rl n kd nz T V TT VV b S J) (OO : Nat → Nat) (f k : Int32) : aItem n kd nz V f k = itA n kd nz TT VV OO f k := by
  unfold aItem itA
  rcases r_cases h f with q | ⟨j, hj, -, q⟩ <;> rw [q] <;> simp only [Option.elim]
  have hz := Rl_z h j hj
  rcases fi_cases (nz j) k (by omega) with r | ⟨i, hi, -, r⟩ <;> rw [r]
  dsimp only
  rw [ord_eq OO (Rl_s h hj) (Rl_p h hj) i hi]
theorem e_state (h : Rl n kd nz T V TT VV b S J) (OO : Nat → Nat) (f : Int32) : aState n kd nz V b S f = smA n kd nz TT VV OO b S f := by
  unfold aState smA
  rcases r_cases h f with q | ⟨j, hj, -, q⟩ <;> rw [q] <;> simp only [Option.elim]
  rw [stF_cg (ord_eq OO (Rl_s h hj) (Rl_p h hj))]
theorem e_joined (h : Rl n kd nz T V TT VV b S J) (OO : Nat → Nat) (f w : Int32) : aJoined n kd nz V b S J f w = aJoined n kd nz (fun j => ordV TT VV OO j (nz j)) b S J f w := by
  unfold aJoined
  rcases r_cases h f with q | ⟨j, hj, -, q⟩ <;> rw [q] <;> simp only [Option.elim]
  rw [joinF_cg w (ord_eq OO (Rl_s h hj) (Rl_p h hj))]
theorem e_least (h : Rl n kd nz T V TT VV b S J) (f w : Int32) : aLeast n kd nz V f w = lsA n kd nz (vw VV) f w := by
  unfold aLeast lsA
  rcases o_cases h f 3 with q | ⟨j, hj, -, -, q⟩ <;> rw [q] <;> simp only [Option.elim]
  by_cases c : w < 0 ∨ nI 1 < w ∨ nz j = 0
  · rw [if_pos c, if_pos c]
  · rw [if_neg c, if_neg c]
    have hm : 0 < nz j := Nat.pos_of_ne_zero (fun e => c (Or.inr (Or.inr e)))
    by_cases d : w = 0
    · rw [if_pos d, d]; exact pm_min (Rl_p h hj) hm
    · rw [if_neg d]; exact pm_max d (Rl_p h hj) hm
theorem e_same (h : Rl n kd nz T V TT VV b S J) (f g : Int32) : aSame n kd nz T V f g = mSame n kd nz TT VV f g := by
  unfold aSame mSame
  rcases r_cases h f with q | ⟨i, hi, -, q⟩ <;> rw [q] <;> simp only [Option.elim]
  rcases r_cases h g with r | ⟨j, hj, -, r⟩ <;> rw [r]
  dsimp only
  rw [same_eq (Rl_s h hi) (Rl_s h hj) (Rl_p h hi) (Rl_p h hj)]
theorem e_limb (h : Rl n kd nz T V TT VV b S J) (f k : Int32) : lmA n kd nz V f k = lmA n kd nz (vw VV) f k := by
  unfold lmA
  rcases o_cases h f 0 with q | ⟨j, hj, -, -, q⟩ <;> rw [q] <;> simp only [Option.elim]
  rw [pm_limb (Rl_p h hj)]
theorem e_mean (h : Rl n kd nz T V TT VV b S J) (f w : Int32) : mnA n kd nz V f w = mnA n kd nz (vw VV) f w := by
  unfold mnA
  rcases o_cases h f 2 with q | ⟨j, hj, -, -, q⟩ <;> rw [q] <;> simp only [Option.elim]
  rw [pm_V (Rl_p h hj)]
theorem e_spread (h : Rl n kd nz T V TT VV b S J) (f w : Int32) : sdA n kd nz V f w = sdA n kd nz (vw VV) f w := by
  unfold sdA
  rcases o_cases h f 2 with q | ⟨j, hj, -, -, q⟩ <;> rw [q] <;> simp only [Option.elim]
  rw [pm_U (Rl_p h hj)]
theorem e_real (h : Rl n kd nz T V TT VV b S J) (L C : Nat → Int64) (f : Int32) : rlA n kd nz V L f = mrA n kd nz (vw VV) C f := by
  unfold rlA mrA
  rcases o_cases h f 1 with q | ⟨j, hj, -, -, q⟩ <;> rw [q] <;> simp only [Option.elim]
  exact realF_eq L C (Rl_z h j hj) (Rl_p h hj)
theorem e_check (h : Rl n kd nz T V TT VV b S J) (RR : Nat → Bool) (w : zQ4) (q : Int32) : ckA S J b q = ckM S J b RR w q := ck_eq (Rl_S h) (Rl_b h) RR w q
end RL
section RL
variable {n : Nat} {kd nz : Nat → Nat} {T : Nat → Nat → Int32} {V : Nat → Nat → Int64} {TT : Nat → Int32} {VV : Nat → Int64} {b : Nat} {S J : Nat → Nat}
/-- what stays -/
theorem Rl_set {j m : Nat} {T1 : Nat → Int32} {V1 : Nat → Int64} {TT' : Nat → Int32} {VV' : Nat → Int64} (h : Rl n kd nz T V TT VV b S J) (hm : m ≤ 64) (hs : srt T1 V1 m) (hp : (rws T1 V1 m).Perm (rws (vw TT' j) (vw VV' j) m)) (hv : ∀ x ∈ rws (vw TT' j) (vw VV' j) m, isVal (kd j) x.2 = true) (hT : ∀ k, k ≠ j → ∀ i, i < 64 → TT' (64 * k + i) = TT (64 * k + i) ∧ VV' (64 * k + i) = VV (64 * k + i)) : Rl n kd (updN nz j m) (updN T j T1) (updN V j V1) TT' VV' b S J := by
  refine ⟨h.1, fun k hk => ?_, h.2.2⟩
  by_cases e : k = j
  · subst e
    rw [updN_self, updN_self, updN_self]
    exact ⟨hm, Rl_k h k hk, hs, hp, hv⟩
  · rw [updN_ne _ _ e, updN_ne _ _ e, updN_ne _ _ e]
    have hz := Rl_z h k hk
    have eq : rws (vw TT' k) (vw VV' k) (nz k) = rws (vw TT k) (vw VV k) (nz k) := rws_cg (fun i hi => hT k e i (by omega))
    rw [eq]
    exact h.2.1 k hk
theorem Rl_fold (h : Rl n kd nz T V TT VV b S J) (k : Int32) : Rl (fdN n k) (fdX kd n k k.toNatClampNeg) (fdX nz n k 0) (fdX T n k (fun _ => nI 0)) (fdX V n k (fun _ => 0)) TT VV b S J := by
  by_cases c : fdOk n k
  · rw [fdN_y c, fdX_y c, fdX_y c, fdX_y c, fdX_y c]
    refine ⟨c.2.2, fun j hj => ?_, h.2.2⟩
    by_cases e : j = n
    · subst e
      rw [updN_self, updN_self, updN_self, updN_self]
      obtain ⟨q, hq, rfl⟩ := k4_of c.1 (by have := c.2.1; rw [i_lt] at this; rw [Int32.le_iff_toInt_le]; omega)
      refine ⟨by omega, by rw [nI_clamp (by omega)]; exact hq, fun i k _ hk => by omega, List.Perm.refl _, fun x hx => ?_⟩
      obtain ⟨i, hi, -⟩ := rws_mem.mp hx
      omega
    · rw [updN_ne _ _ e, updN_ne _ _ e, updN_ne _ _ e, updN_ne _ _ e]
      exact h.2.1 j (by omega)
  · rw [fdN_n c, fdX_n c, fdX_n c, fdX_n c, fdX_n c]; exact h
theorem fdX_K (k : Int32) : fdX kd n k k.toNatClampNeg = fdK kd n k := by
  by_cases c : fdOk n k
  · rw [fdX_y c]; unfold fdK; rw [if_pos c]
  · rw [fdX_n c]; unfold fdK; rw [if_neg c]
theorem fdX_M (k : Int32) : fdX nz n k 0 = fdM nz n k := by
  by_cases c : fdOk n k
  · rw [fdX_y c]; unfold fdM; rw [if_pos c]
  · rw [fdX_n c]; unfold fdM; rw [if_neg c]
theorem vw_in {α : Type} (X : Nat → α) {j i k a : Nat} (hi : i < 64) (ha : a < 64) (h : 64 * k + a = 64 * j + i) : k = j ∧ a = i := by omega
theorem Rl_add (h : Rl n kd nz T V TT VV b S J) (r : Nat) (f t : Int32) (v : Int64) : Rl n kd (adN (adOk n kd nz r f t v) nz) (adT (adOk n kd nz r f t v) nz T V t v) (adV (adOk n kd nz r f t v) nz T V t v) (adTm (adOk n kd nz r f t v) nz TT t) (adVm (adOk n kd nz r f t v) nz VV v) b S J := by
  rcases r_cases h f with q | ⟨j, hj, -, q⟩
  · have e : adOk n kd nz r f t v = none := by unfold adOk; rw [q]; rfl
    rw [e]; exact h
  · by_cases c : (if kd j = 1 then 1 else 0) = r ∧ ¬ t < 0 ∧ ¬ 1000000 < t ∧ isVal (kd j) v = true ∧ nz j < 64
    · have e : adOk n kd nz r f t v = some j := by unfold adOk; rw [q]; exact if_pos c
      rw [e]
      show Rl n kd (updN nz j (nz j + 1)) (updN T j (insT (T j) (plc (T j) (V j) t v (nz j)) (nz j) t)) (updN V j (insT (V j) (plc (T j) (V j) t v (nz j)) (nz j) v)) (upd TT (64 * j + nz j) t) (vp_updL VV (64 * j + nz j) v) b S J
      have e1 : rws (vw (upd TT (64 * j + nz j) t) j) (vw (vp_updL VV (64 * j + nz j) v) j) (nz j + 1) = (t, v) :: rws (vw TT j) (vw VV j) (nz j) := by
        show (upd TT (64 * j + nz j) t (64 * j + nz j), vp_updL VV (64 * j + nz j) v (64 * j + nz j)) :: rws _ _ (nz j) = _
        rw [rws_cg (T := vw TT j) (V := vw VV j) (fun i hi => ?_)]
        · unfold upd vp_updL; rw [if_pos rfl, if_pos rfl]
        · show (if 64 * j + i = 64 * j + nz j then t else TT (64 * j + i)) = _ ∧ (if 64 * j + i = 64 * j + nz j then v else VV (64 * j + i)) = _
          rw [if_neg (by omega), if_neg (by omega)]; exact ⟨rfl, rfl⟩
      refine Rl_set h (by omega) (srt_plc (Rl_s h hj)) ?_ ?_ ?_
      · rw [e1]; exact (rws_ins t v (plc_le _ _ _ _ _)).trans (List.Perm.cons _ (Rl_p h hj))
      · rw [e1]
        intro x hx
        rcases List.mem_cons.mp hx with rfl | hx
        · exact c.2.2.2.1
        · exact Rl_w h hj x hx
      · intro k hk i hi
        show (if 64 * k + i = 64 * j + nz j then t else TT (64 * k + i)) = _ ∧ (if 64 * k + i = 64 * j + nz j then v else VV (64 * k + i)) = _
        rw [if_neg (by omega), if_neg (by omega)]; exact ⟨rfl, rfl⟩
    · have e : adOk n kd nz r f t v = none := by unfold adOk; rw [q]; exact if_neg c
      rw [e]; exact h
theorem rm_both (h : Rl n kd nz T V TT VV b S J) (r : Nat) (f t : Int32) (v : Int64) : rmA n kd nz T V r f t v = rvA n kd nz TT VV r f t v ∧ rmN (rmOk n kd nz T V r f t v) nz = tkM nz (rvO n kd nz TT VV r f t v) ∧ Rl n kd (rmN (rmOk n kd nz T V r f t v) nz) (rmT (rmOk n kd nz T V r f t v) nz T V t v) (rmV (rmOk n kd nz T V r f t v) nz T V t v) (tkT nz TT (rvO n kd nz TT VV r f t v)) (tkV nz VV (rvO n kd nz TT VV r f t v)) b S J := by
  rcases r_cases h f with q | ⟨j, hj, -, q⟩
  · have e : rmOk n kd nz T V r f t v = none := by unfold rmOk; rw [q]; rfl
    have e2 : rvO n kd nz TT VV r f t v = none := by unfold rvO; rw [q]; rfl
    rw [e, e2]
    refine ⟨?_, rfl, h⟩
    unfold rmA rvA; rw [q]; rfl
  · by_cases c : (if kd j = 1 then 1 else 0) = r
    · have hz := Rl_z h j hj
      have eO : rvO n kd nz TT VV r f t v = tkO n kd nz TT VV j t v := by unfold rvO; rw [q]; exact if_pos c
      have eA : rvA n kd nz TT VV r f t v = tkA nz (tkO n kd nz TT VV j t v) := by unfold rvA; rw [q]; exact if_pos c
      rw [eO, eA]
      unfold tkO
      by_cases m : rowIs (T j) (V j) (nz j) (plc (T j) (V j) t v (nz j)) t v = true
      · have e : rmOk n kd nz T V r f t v = some j := by unfold rmOk; rw [q]; exact if_pos ⟨c, m⟩
        have ea : rmA n kd nz T V r f t v = nI (nz j - 1) := by unfold rmA; rw [q]; exact if_pos ⟨c, m⟩
        have mem : (t, v) ∈ rws (vw TT j) (vw VV j) (nz j) := (Rl_p h hj).mem_iff.mp ((rowIs_iff (Rl_s h hj)).mp m)
        rcases lk_cases (vw TT j) (vw VV j) t v (nz j) with ⟨-, no⟩ | ⟨k, hk, k1, k2, k3⟩
        · exact absurd mem no
        · rw [e, ea, k3]
          refine ⟨rfl, rfl, ?_⟩
          show Rl n kd (updN nz j (nz j - 1)) (updN T j (delT (T j) (plc (T j) (V j) t v (nz j)) (nz j))) (updN V j (delT (V j) (plc (T j) (V j) t v (nz j)) (nz j))) (upd TT (64 * j + k) (TT (64 * j + (nz j - 1)))) (vp_updL VV (64 * j + k) (VV (64 * j + (nz j - 1)))) b S J
          have m2 := of_decide_eq_true m
          have w1 : vw (upd TT (64 * j + k) (TT (64 * j + (nz j - 1)))) j = updN (vw TT j) k (vw TT j (nz j - 1)) := by
            funext i; unfold vw upd updN
            by_cases e : i = k
            · rw [if_pos (by omega), if_pos e]
            · rw [if_neg (by omega), if_neg e]
          have w2 : vw (vp_updL VV (64 * j + k) (VV (64 * j + (nz j - 1)))) j = updN (vw VV j) k (vw VV j (nz j - 1)) := by
            funext i; unfold vw vp_updL updN
            by_cases e : i = k
            · rw [if_pos (by omega), if_pos e]
            · rw [if_neg (by omega), if_neg e]
          have p1 := rws_del (T := T j) (V := V j) m2.1
          have p2 := rws_take (T := vw TT j) (V := vw VV j) hk
          rw [m2.2.1, m2.2.2] at p1
          rw [k1, k2] at p2
          refine Rl_set h (by omega) (srt_del (Rl_s h hj)) ?_ ?_ ?_
          · rw [w1, w2]; exact (p1.symm.trans ((Rl_p h hj).trans p2)).cons_inv
          · rw [w1, w2]; exact fun x hx => Rl_w h hj x (p2.mem_iff.mpr (List.mem_cons_of_mem _ hx))
          · intro a ha i hi
            show (if 64 * a + i = 64 * j + k then _ else TT (64 * a + i)) = _ ∧ (if 64 * a + i = 64 * j + k then _ else VV (64 * a + i)) = _
            rw [if_neg (by omega), if_neg (by omega)]; exact ⟨rfl, rfl⟩
      · have e : rmOk n kd nz T V r f t v = none := by unfold rmOk; rw [q]; exact if_neg (fun x => m x.2)
        have ea : rmA n kd nz T V r f t v = (-3) := by unfold rmA; rw [q]; exact if_neg (fun x => m x.2)
        rcases lk_cases (vw TT j) (vw VV j) t v (nz j) with ⟨k3, no⟩ | ⟨k, hk, k1, k2, k3⟩
        · rw [e, ea, k3]; exact ⟨rfl, rfl, h⟩
        · exact absurd ((rowIs_iff (Rl_s h hj)).mpr ((Rl_p h hj).mem_iff.mpr (rws_mem.mpr ⟨k, hk, by rw [k1, k2]⟩))) m
    · have e : rmOk n kd nz T V r f t v = none := by unfold rmOk; rw [q]; exact if_neg (fun x => c x.1)
      have e2 : rvO n kd nz TT VV r f t v = none := by unfold rvO; rw [q]; exact if_neg c
      rw [e, e2]
      refine ⟨?_, rfl, h⟩
      unfold rmA rvA; rw [q]
      show (if _ ∧ _ then _ else _) = (if _ then _ else _)
      rw [if_neg (fun x => c x.1), if_neg c]
theorem mg_cases (h : Rl n kd nz T V TT VV b S J) (f g : Int32) : mgOk n kd nz f g = none ∨ ∃ i j, i < n ∧ j < n ∧ i ≠ j ∧ kd i = kd j ∧ nz i + nz j ≤ 64 ∧ mgOk n kd nz f g = some (i, j) := by
  unfold mgOk
  rcases r_cases h f with q | ⟨i, hi, -, q⟩ <;> rw [q]
  · exact Or.inl rfl
  · rcases r_cases h g with r | ⟨j, hj, -, r⟩ <;> rw [r]
    · exact Or.inl rfl
    · by_cases c : i ≠ j ∧ kd i = kd j ∧ nz i + nz j ≤ 64
      · exact Or.inr ⟨i, j, hi, hj, c.1, c.2.1, c.2.2, if_pos c⟩
      · exact Or.inl (if_neg c)
theorem Rl_merge (h : Rl n kd nz T V TT VV b S J) (f g : Int32) : Rl n kd (mgN (mgOk n kd nz f g) nz) (mgT (mgOk n kd nz f g) nz T V) (mgV (mgOk n kd nz f g) nz T V) (mgTo (mgOk n kd nz f g) TT nz) (mgVo (mgOk n kd nz f g) VV nz) b S J := by
  rcases mg_cases h f g with e | ⟨i, j, hi, hj, hij, hk, hz, e⟩ <;> rw [e]
  · exact h
  · show Rl n kd (updN (updN nz i (nz i + nz j)) j 0) (updN T i (insN (T i) (V i) (nz i) (T j) (V j) (nz j)).1) (updN V i (insN (T i) (V i) (nz i) (T j) (V j) (nz j)).2) (mgTm TT nz i j (nz j)) (mgVm VV nz i j (nz j)) b S J
    obtain ⟨s1, p1⟩ := insN_spec (T j) (V j) (Rl_s h hi) (nz j)
    have aT := mgT_at (TT := TT) (M := nz) hij hz
    have aV := mgV_at (TT := VV) (M := nz) hij hz
    have e1 : rws (vw (mgTm TT nz i j (nz j)) i) (vw (mgVm VV nz i j (nz j)) i) (nz i + nz j) = rws (vw TT j) (vw VV j) (nz j) ++ rws (vw TT i) (vw VV i) (nz i) := by
      refine rws_cat (fun a ha => ?_) (fun a ha => ?_)
      · show mgTm TT nz i j (nz j) (64 * i + a) = _ ∧ mgVm VV nz i j (nz j) (64 * i + a) = _
        rw [aT, aV, if_neg (by omega), if_neg (by omega)]; exact ⟨rfl, rfl⟩
      · show mgTm TT nz i j (nz j) (64 * i + (nz i + a)) = TT (64 * j + a) ∧ mgVm VV nz i j (nz j) (64 * i + (nz i + a)) = VV (64 * j + a)
        rw [aT, aV, if_pos (by omega), if_pos (by omega), show 64 * i + (nz i + a) - (64 * i + nz i) = a by omega]; exact ⟨rfl, rfl⟩
    have hs1 : Rl n kd (updN nz i (nz i + nz j)) (updN T i (insN (T i) (V i) (nz i) (T j) (V j) (nz j)).1) (updN V i (insN (T i) (V i) (nz i) (T j) (V j) (nz j)).2) (mgTm TT nz i j (nz j)) (mgVm VV nz i j (nz j)) b S J := by
      refine Rl_set h hz s1 ?_ ?_ ?_
      · rw [e1]; exact p1.trans (List.Perm.append (Rl_p h hj) (Rl_p h hi))
      · rw [e1]
        intro x hx
        rcases List.mem_append.mp hx with hx | hx
        · rw [hk]; exact Rl_w h hj x hx
        · exact Rl_w h hi x hx
      · intro k hk2 a ha
        rw [aT, aV, if_neg (by omega), if_neg (by omega)]; exact ⟨rfl, rfl⟩
    refine ⟨h.1, fun k hk2 => ?_, h.2.2⟩
    by_cases ek : k = j
    · subst ek
      rw [updN_self]
      refine ⟨by omega, Rl_k h k hk2, fun i k _ hk => by omega, List.Perm.refl _, fun x hx => ?_⟩
      obtain ⟨i, hi, -⟩ := rws_mem.mp hx
      omega
    · rw [updN_ne _ _ ek]; exact hs1.2.1 k hk2
theorem Rl_start (h : Rl n kd nz T V TT VV b S J) (s : Int32) : Rl n kd nz T V TT VV (stB b s) S J := by
  refine ⟨h.1, h.2.1, ?_, h.2.2.2⟩
  unfold stB
  by_cases c : isSt s = true
  · obtain ⟨k, hk, rfl⟩ := isSt_of c
    rw [if_pos c, nI_clamp (by omega)]; exact hk
  · rw [if_neg c]; exact Rl_b h
theorem upd_8 {F : Nat → Nat} (h : ∀ j, F j < 8) {s : Int32} (c : isSt s = true) (k : Nat) : ∀ j, updN F k s.toNatClampNeg j < 8 := by
  intro j
  obtain ⟨q, hq, rfl⟩ := isSt_of c
  unfold updN
  by_cases e : j = k
  · rw [if_pos e, nI_clamp (by omega)]; exact hq
  · rw [if_neg e]; exact h j
theorem Rl_step (h : Rl n kd nz T V TT VV b S J) (s v t : Int32) : Rl n kd nz T V TT VV b (spS S s v t) J := by
  refine ⟨h.1, h.2.1, h.2.2.1, ?_, h.2.2.2.2⟩
  unfold spS
  by_cases c : spOk s v t
  · rw [if_pos c]; exact upd_8 (Rl_S h) c.2.2.2 _
  · rw [if_neg c]; exact Rl_S h
theorem Rl_join (h : Rl n kd nz T V TT VV b S J) (s v t : Int32) : Rl n kd nz T V TT VV b S (jnJ J s v t) := by
  refine ⟨h.1, h.2.1, h.2.2.1, h.2.2.2.1, ?_⟩
  unfold jnJ
  by_cases c : jnOk s v t
  · rw [if_pos c]; exact upd_8 (Rl_J h) c.2.2 _
  · rw [if_neg c]; exact Rl_J h
end RL
