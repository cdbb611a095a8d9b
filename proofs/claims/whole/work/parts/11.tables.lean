/-! Tables: START b, STEP S (at 4 s + v), JOIN J (at 8 s + t), all below 8 -/
def updN {α : Type} (S : Nat → α) (k : Nat) (x : α) : Nat → α := fun j => if j = k then x else S j
theorem upd_nI (S : Nat → Nat) (k x : Nat) : upd (fun j => nI (S j)) k (nI x) = fun j => nI (updN S k x j) := by funext j; unfold upd updN; split <;> rfl
theorem upd_bI (S : Nat → Bool) (k : Nat) (x : Bool) : upd (fun j => bI (S j)) k (bI x) = fun j => bI (updN S k x j) := by funext j; unfold upd updN; split <;> rfl
theorem updN_lt {S : Nat → Nat} {k x b : Nat} (h : ∀ j, S j < b) (hx : x < b) : ∀ j, updN S k x j < b := by intro j; unfold updN; split <;> first | exact hx | exact h j
def isSt (s : Int32) : Bool := decide (¬ s < 0 ∧ ¬ nI 8 ≤ s)
theorem isSt_n {s : Nat} (h : s < 8) : isSt (nI s) = true := by unfold isSt; exact decide_eq_true ⟨nI_pos (by omega), nI_ge h (by decide)⟩
theorem isSt_of {s : Int32} (h : isSt s = true) : ∃ j : Nat, j < 8 ∧ s = nI j := by
  unfold isSt at h
  have h := of_decide_eq_true h
  rcases pk_ix s (n := 8) (by decide) with q | q | q
  · exact absurd q h.1
  · exact absurd q h.2
  · exact q
/-- the number that a value of an OWN fold is -/
def vN (x : Int64) : Nat := x.toInt.toNat
def isOwn (x : Int64) : Prop := 0 ≤ x.toInt ∧ x.toInt < 4
theorem vN_lt {x : Int64} (h : isOwn x) : vN x < 4 := by unfold vN; have := h.1; have := h.2; omega
theorem vN_l {x : Int64} (h : isOwn x) : x = lN (vN x) := by
  apply Int64.toInt_inj.mp
  rw [pk_lT (by have := vN_lt h; omega)]
  unfold vN; have := h.1; omega
theorem vN_i {x : Int64} (h : isOwn x) : x.toInt32 = nI (vN x) := by conv => lhs; rw [vN_l h]
                                                                     rw [lN_i]
def stF (S : Nat → Nat) (b : Nat) (V : Nat → Int64) : Nat → Nat
  | 0 => b
  | i + 1 => S (stF S b V i * 4 + vN (V i))
theorem stF_lt {S : Nat → Nat} {b : Nat} (V : Nat → Int64) (hb : b < 8) (hS : ∀ j, S j < 8) (i : Nat) : stF S b V i < 8 := by cases i with
  | zero => exact hb
  | succ i => exact hS _
/-- a row alone -/
def sgl (S : Nat → Nat) (b : Nat) (V : Nat → Int64) (p : Nat) : Nat := S (b * 4 + vN (V p))
def jlF (S J : Nat → Nat) (b : Nat) (V : Nat → Int64) : Nat → Nat
  | 0 => sgl S b V 0
  | i + 1 => J (jlF S J b V i * 8 + sgl S b V (i + 1))
theorem jlF_lt {S J : Nat → Nat} (b : Nat) (V : Nat → Int64) (hS : ∀ j, S j < 8) (hJ : ∀ j, J j < 8) (i : Nat) : jlF S J b V i < 8 := by cases i with
  | zero => exact hS _
  | succ i => exact hJ _
/-- from the right: k rows of the n are behind -/
def jrF (S J : Nat → Nat) (b : Nat) (V : Nat → Int64) (n : Nat) : Nat → Nat
  | 0 => sgl S b V (n - 1)
  | k + 1 => J (sgl S b V (n - 1 - (k + 1)) * 8 + jrF S J b V n k)
theorem jrF_lt {S J : Nat → Nat} (b : Nat) (V : Nat → Int64) (n : Nat) (hS : ∀ j, S j < 8) (hJ : ∀ j, J j < 8) (i : Nat) : jrF S J b V n i < 8 := by cases i with
  | zero => exact hS _
  | succ i => exact hJ _
def jhF (S J : Nat → Nat) (b : Nat) (V : Nat → Int64) : Nat → Nat → Nat → Nat
  | 0, p, _ => sgl S b V p
  | f + 1, p, n => if n ≤ 1 then sgl S b V p else J (jhF S J b V f p (n / 2) * 8 + jhF S J b V f (p + n / 2) (n - n / 2))
theorem jhF_lt {S J : Nat → Nat} (b : Nat) (V : Nat → Int64) (hS : ∀ j, S j < 8) (hJ : ∀ j, J j < 8) (f p n : Nat) : jhF S J b V f p n < 8 := by cases f with
  | zero => exact hS _
  | succ f => unfold jhF; split <;> first | exact hS _ | exact hJ _
theorem jh_step {S J : Nat → Nat} {b : Nat} {V : Nat → Int64} {f p n : Nat} (h : ¬ n ≤ 1) : J (jhF S J b V f p (n / 2) * 8 + jhF S J b V f (p + n / 2) (n - n / 2)) = jhF S J b V (f + 1) p n := by
  show _ = (if n ≤ 1 then sgl S b V p else J (jhF S J b V f p (n / 2) * 8 + jhF S J b V f (p + n / 2) (n - n / 2)))
  rw [if_neg h]
def joinF (S J : Nat → Nat) (b : Nat) (V : Nat → Int64) (n : Nat) (way : Int32) : Nat := if n = 0 then b else if way = 0 then jhF S J b V 8 0 n else if way = nI 1 then jlF S J b V (n - 1) else jrF S J b V n (n - 1)
/-! what is reached, as a row of bits; what is wrong -/
def bitI (k : Nat) : Int32 := nI 1 <<< (nI k &&& 31)
def hold (m : Int32) (s : Nat) : Bool := decide (¬ (m >>> (nI s &&& 31)) &&& nI 1 = 0)
def sfr (S : Nat → Nat) (s : Nat) : Nat → Int32
  | 0 => nI 0
  | v + 1 => sfr S s v ||| bitI (S (s * 4 + v))
def rin (S : Nat → Nat) (m : Int32) : Nat → Int32
  | 0 => m
  | s + 1 => if hold (rin S m s) s = true then rin S m s ||| sfr S s 4 else rin S m s
def rout (S : Nat → Nat) (b : Nat) : Nat → Int32
  | 0 => bitI b
  | r + 1 => rin S (rout S b r) 8
abbrev zQ4 : Type := Int32 × Int32 × Int32 × Int32
def ltsF (S J : Nat → Nat) (s t : Nat) : Nat → Nat → zQ4 → zQ4
  | 0, _, w => w
  | f + 1, v, w => if J (s * 8 + S (t * 4 + v)) = S (J (s * 8 + t) * 4 + v) then ltsF S J s t f (v + 1) w else (nI 2, nI s, nI t, nI v)
theorem lts_end (S J : Nat → Nat) (s t : Nat) (w : zQ4) : ltsF S J s t (4 - 4) 4 w = w := rfl
theorem lts_hit {S J : Nat → Nat} {s t i : Nat} {w : zQ4} (h : i < 4) (c : ¬ J (s * 8 + S (t * 4 + i)) = S (J (s * 8 + t) * 4 + i)) : ltsF S J s t (4 - i) i w = (nI 2, nI s, nI t, nI i) := by
  obtain ⟨f, hf⟩ : ∃ f, 4 - i = f + 1 := ⟨4 - i - 1, by omega⟩
  rw [hf]; unfold ltsF; rw [if_neg c]
theorem lts_step {S J : Nat → Nat} {s t i : Nat} {w : zQ4} (h : i < 4) (c : J (s * 8 + S (t * 4 + i)) = S (J (s * 8 + t) * 4 + i)) : ltsF S J s t (4 - i) i w = ltsF S J s t (4 - (i + 1)) (i + 1) w := by
  obtain ⟨f, hf⟩ : ∃ f, 4 - i = f + 1 := ⟨4 - i - 1, by omega⟩
  rw [hf, show 4 - (i + 1) = f by omega]; conv => lhs; unfold ltsF
  rw [if_pos c]
def ltfF (S J : Nat → Nat) (m : Int32) (s : Nat) : Nat → Nat → zQ4 → zQ4
  | 0, _, w => w
  | f + 1, t, w => if w.1 = 0 then ltfF S J m s f (t + 1) (if hold m t = true then ltsF S J s t 4 0 w else w) else w
def ltf (S J : Nat → Nat) (b : Nat) (m : Int32) (s : Nat) (w : zQ4) : zQ4 := if J (s * 8 + b) = s then ltfF S J m s 8 0 w else (nI 1, nI s, (-3), (-3))
theorem ltf_end (S J : Nat → Nat) (m : Int32) (s : Nat) (w : zQ4) : ltfF S J m s (8 - 8) 8 w = w := rfl
theorem ltf_hit {S J : Nat → Nat} {m : Int32} {s i : Nat} {w : zQ4} (h : i < 8) (c : ¬ w.1 = 0) : ltfF S J m s (8 - i) i w = w := by
  obtain ⟨f, hf⟩ : ∃ f, 8 - i = f + 1 := ⟨8 - i - 1, by omega⟩
  rw [hf]; unfold ltfF; rw [if_neg c]
theorem ltf_step {S J : Nat → Nat} {m : Int32} {s i : Nat} {w : zQ4} (h : i < 8) (c : w.1 = 0) : ltfF S J m s (8 - i) i w = ltfF S J m s (8 - (i + 1)) (i + 1) (if hold m i = true then ltsF S J s i 4 0 w else w) := by
  obtain ⟨f, hf⟩ : ∃ f, 8 - i = f + 1 := ⟨8 - i - 1, by omega⟩
  rw [hf, show 8 - (i + 1) = f by omega]; conv => lhs; unfold ltfF
  rw [if_pos c]
def ltF (S J : Nat → Nat) (b : Nat) (m : Int32) : Nat → Nat → zQ4 → zQ4
  | 0, _, w => w
  | f + 1, s, w => if w.1 = 0 then ltF S J b m f (s + 1) (if hold m s = true then ltf S J b m s w else w) else w
def ltAll (S J : Nat → Nat) (b : Nat) : zQ4 := ltF S J b (rout S b 8) 8 0 (nI 0, (-3), (-3), (-3))
theorem lt_end (S J : Nat → Nat) (b : Nat) (m : Int32) (w : zQ4) : ltF S J b m (8 - 8) 8 w = w := rfl
theorem lt_hit {S J : Nat → Nat} {b : Nat} {m : Int32} {i : Nat} {w : zQ4} (h : i < 8) (c : ¬ w.1 = 0) : ltF S J b m (8 - i) i w = w := by
  obtain ⟨f, hf⟩ : ∃ f, 8 - i = f + 1 := ⟨8 - i - 1, by omega⟩
  rw [hf]; unfold ltF; rw [if_neg c]
theorem lt_step {S J : Nat → Nat} {b : Nat} {m : Int32} {i : Nat} {w : zQ4} (h : i < 8) (c : w.1 = 0) : ltF S J b m (8 - i) i w = ltF S J b m (8 - (i + 1)) (i + 1) (if hold m i = true then ltf S J b m i w else w) := by
  obtain ⟨f, hf⟩ : ∃ f, 8 - i = f + 1 := ⟨8 - i - 1, by omega⟩
  rw [hf, show 8 - (i + 1) = f by omega]; conv => lhs; unfold ltF
  rw [if_pos c]
set_option maxHeartbeats 4000000 in
set_option maxRecDepth 100000 in
theorem kX3_isState (l : Launch) (E : zE) (s_ : Int32) : Met l yX3_isState wsX3_isState (rmL 0) (va_Pc [.int s_] (zW E [])) (vp_Si (fun r9 => r9 = bI (isSt s_))) 0 0 (fun _ => False) := by
  refine z_ofRz (cc := cX3_isState) (maxL := 1) (own := RX3) (by decide) rfl rfl (Nat.le_of_ble_eq_true rfl) ?_
  intro p e s m args below meth c R Q B hP ret ls hl
  obtain ⟨hx, hb, hml, hown, hts, hK, hRf, hRl⟩ := B
  have hl : lv_has ls 1 [(0, .int s_)] := hl
  refine lv_iload_n hx hb dX3_isState_0 rfl (lv_at hl 0 rfl) ?_
  refine lv_if_lt (tgt := 14) hx hb dX3_isState_1 (by decide) (fun c_1 => ?_) (fun c_1 => ?_)
  · refine lv_iconst (v := nI 0) hx hb dX3_isState_14 (by decide) ?_
    exact z_reti (by rw [show isSt s_ = false from by unfold isSt; simp [c_1]]; rfl) (ret _ _ dX3_isState_15)
  · refine lv_iload_n hx hb dX3_isState_4 rfl (lv_at hl 0 rfl) ?_
    refine lv_bipush (v := nI 8) hx hb dX3_isState_5 (by decide) ?_
    refine lv_icmp_ge (tgt := 14) hx hb dX3_isState_7 (by decide) (fun c_2 => ?_) (fun c_2 => ?_)
    · refine lv_iconst (v := nI 0) hx hb dX3_isState_14 (by decide) ?_
      exact z_reti (by rw [show isSt s_ = false from by unfold isSt; simp [c_1, c_2]]; rfl) (ret _ _ dX3_isState_15)
    · refine lv_iconst (v := nI 1) hx hb dX3_isState_10 (by decide) ?_
      refine lv_goto (tgt := 15) hx hb dX3_isState_11 (by decide) ?_
      exact z_reti (by rw [show isSt s_ = true from by unfold isSt; simp [c_1, c_2]]; rfl) (ret _ _ dX3_isState_15)
set_option maxHeartbeats 4000000 in
set_option maxRecDepth 100000 in
theorem kX2_stepOf (l : Launch) (E : zE) (h0 a1 a2 : Nat) (b : Nat) (S J : Nat → Nat) (w1 w2 w3 w4 : Int32) (hb0 : b < 8) (hS0 : ∀ j, S j < 8) (hJ0 : ∀ j, J j < 8) (s_ v_ : Nat) (hs : s_ < 8) (hv : v_ < 4) : Met l yX2_stepOf wsX2_stepOf (rmL 1) (va_Pc [.ref h0, .int (nI s_), .int (nI v_)] (zW E [(h0, .inr (3, [.int (nI b), .ref a1, .ref a2, .int w1, .int w2, .int w3, .int w4])), (a1, .inl (E.2.1, 32, .inl (fun j => nI (S j)))), (a2, .inl (E.2.1, 64, .inl (fun j => nI (J j))))])) (vp_Si (fun r9 => r9 = nI (S (s_ * 4 + v_)))) 0 0 (fun _ => False) := by
  refine z_ofRi (cc := cX2_stepOf) (maxL := 3) (own := RX2) (by decide) rfl rfl (Nat.le_of_ble_eq_true rfl) ?_
  intro p e s m args below meth c R Q B hP ret ls hl
  obtain ⟨hx, hb, hml, hown, hts, hK, hRf, hRl⟩ := B
  have hiX2 : ∀ w ∈ wsX20, w ∈ wsX2_stepOf := by decide +kernel
  have hf15 := hts (.fieldLink RX2 15 "ExactFolds$Tables" "steps" "[I") (by decide +kernel)
  have hl : lv_has ls 3 [(0, .ref h0), (1, .int (nI s_)), (2, .int (nI v_))] := hl
  refine lv_iload_n hx hb dX2_stepOf_0 rfl (lv_at hl 1 rfl) ?_
  refine zc_i (va_Run.run <| va_runSN ⟨hx, hb, hml, hown, hts⟩ (kX3_isState l E (nI s_)) ⟨va_cnB 1 hts ggX2_stepOf_X3_isState rfl rfl rfl hK.2 (hts (.initialized RX3) (by decide +kernel)) (by decide +kernel) ⟨Nat.le_trans (Nat.le_of_ble_eq_true rfl) hRf, Nat.le_trans (Nat.le_of_ble_eq_true rfl) hRl⟩, hts (.static yX3_isState) (by decide +kernel), trivial⟩ (z_preR (av := [.int (nI s_)]) (hP.sub (ws' := []) [] rfl) hK) rfl rfl hl.1 rfl (lv_room (Nat.le_of_ble_eq_true rfl)) dX2_stepOf_1 ⟨Nat.zero_le _, Nat.zero_le _⟩) ?_
  refine zb_if_eq (tgt := 29) hx hb dX2_stepOf_4 (by decide) (fun c_1 => ?_) (fun c_1 => ?_)
  · exact absurd c_1 (by rw [isSt_n hs]; exact Bool.noConfusion)
  · refine lv_iload_n hx hb dX2_stepOf_7 rfl (lv_at hl 2 rfl) ?_
    refine zn_if_lt (tgt := 29) hx hb dX2_stepOf_8 (by decide) (by omega) ?_
    refine lv_iload_n hx hb dX2_stepOf_11 rfl (lv_at hl 2 rfl) ?_
    refine lv_iconst (v := nI 4) hx hb dX2_stepOf_12 (by decide) ?_
    refine zn_icmp_ge (tgt := 29) hx hb dX2_stepOf_13 (by decide) (by omega) (by omega) (fun c_2 => ?_) (fun c_2 => ?_)
    · exact absurd c_2 (by omega)
    · refine lv_aload_n hx hb dX2_stepOf_16 rfl (lv_at hl 0 rfl) ?_
      refine va_get (D := E.1) (ci := 3) (C := RX2) (T := TX2) (N := 7) hx hb hts hiX2 hown hK.1 hP 0 rfl rfl 1 (by decide) hf15 (fun _ h9 => h9) rfl dX2_stepOf_17 ?_
      refine lv_iload_n hx hb dX2_stepOf_20 rfl (lv_at hl 1 rfl) ?_
      refine lv_iconst (v := nI 4) hx hb dX2_stepOf_21 (by decide) ?_
      refine zn_imul hx hb dX2_stepOf_22 ?_
      refine lv_iload_n hx hb dX2_stepOf_23 rfl (lv_at hl 2 rfl) ?_
      refine zn_iadd hx hb dX2_stepOf_24 ?_
      refine zn_iald hx hb hK.1 hP 1 0 rfl rfl (by omega) (by decide) dX2_stepOf_25 ?_
      refine lv_goto (tgt := 30) hx hb dX2_stepOf_26 (by decide) ?_
      exact z_reti (rfl) (ret _ _ dX2_stepOf_30)
set_option maxHeartbeats 4000000 in
set_option maxRecDepth 100000 in
theorem kX2_joinOf (l : Launch) (E : zE) (h0 a1 a2 : Nat) (b : Nat) (S J : Nat → Nat) (w1 w2 w3 w4 : Int32) (hb0 : b < 8) (hS0 : ∀ j, S j < 8) (hJ0 : ∀ j, J j < 8) (s_ t_ : Nat) (hs : s_ < 8) (ht : t_ < 8) : Met l yX2_joinOf wsX2_joinOf (rmL 1) (va_Pc [.ref h0, .int (nI s_), .int (nI t_)] (zW E [(h0, .inr (3, [.int (nI b), .ref a1, .ref a2, .int w1, .int w2, .int w3, .int w4])), (a1, .inl (E.2.1, 32, .inl (fun j => nI (S j)))), (a2, .inl (E.2.1, 64, .inl (fun j => nI (J j))))])) (vp_Si (fun r9 => r9 = nI (J (s_ * 8 + t_)))) 0 0 (fun _ => False) := by
  refine z_ofRi (cc := cX2_joinOf) (maxL := 3) (own := RX2) (by decide) rfl rfl (Nat.le_of_ble_eq_true rfl) ?_
  intro p e s m args below meth c R Q B hP ret ls hl
  obtain ⟨hx, hb, hml, hown, hts, hK, hRf, hRl⟩ := B
  have hiX2 : ∀ w ∈ wsX20, w ∈ wsX2_joinOf := by decide +kernel
  have hf19 := hts (.fieldLink RX2 19 "ExactFolds$Tables" "joins" "[I") (by decide +kernel)
  have hl : lv_has ls 3 [(0, .ref h0), (1, .int (nI s_)), (2, .int (nI t_))] := hl
  refine lv_iload_n hx hb dX2_joinOf_0 rfl (lv_at hl 1 rfl) ?_
  refine zc_i (va_Run.run <| va_runSN ⟨hx, hb, hml, hown, hts⟩ (kX3_isState l E (nI s_)) ⟨va_cnB 1 hts ggX2_joinOf_X3_isState rfl rfl rfl hK.2 (hts (.initialized RX3) (by decide +kernel)) (by decide +kernel) ⟨Nat.le_trans (Nat.le_of_ble_eq_true rfl) hRf, Nat.le_trans (Nat.le_of_ble_eq_true rfl) hRl⟩, hts (.static yX3_isState) (by decide +kernel), trivial⟩ (z_preR (av := [.int (nI s_)]) (hP.sub (ws' := []) [] rfl) hK) rfl rfl hl.1 rfl (lv_room (Nat.le_of_ble_eq_true rfl)) dX2_joinOf_1 ⟨Nat.zero_le _, Nat.zero_le _⟩) ?_
  refine zb_if_eq (tgt := 28) hx hb dX2_joinOf_4 (by decide) (fun c_1 => ?_) (fun c_1 => ?_)
  · exact absurd c_1 (by rw [isSt_n hs]; exact Bool.noConfusion)
  · refine lv_iload_n hx hb dX2_joinOf_7 rfl (lv_at hl 2 rfl) ?_
    refine zc_i (va_Run.run <| va_runSN ⟨hx, hb, hml, hown, hts⟩ (kX3_isState l E (nI t_)) ⟨va_cnB 1 hts ggX2_joinOf_X3_isState rfl rfl rfl hK.2 (hts (.initialized RX3) (by decide +kernel)) (by decide +kernel) ⟨Nat.le_trans (Nat.le_of_ble_eq_true rfl) hRf, Nat.le_trans (Nat.le_of_ble_eq_true rfl) hRl⟩, hts (.static yX3_isState) (by decide +kernel), trivial⟩ (z_preR (av := [.int (nI t_)]) (hP.sub (ws' := []) [] rfl) hK) rfl rfl hl.1 rfl (lv_room (Nat.le_of_ble_eq_true rfl)) dX2_joinOf_8 ⟨Nat.zero_le _, Nat.zero_le _⟩) ?_
    refine zb_if_eq (tgt := 28) hx hb dX2_joinOf_11 (by decide) (fun c_2 => ?_) (fun c_2 => ?_)
    · exact absurd c_2 (by rw [isSt_n ht]; exact Bool.noConfusion)
    · refine lv_aload_n hx hb dX2_joinOf_14 rfl (lv_at hl 0 rfl) ?_
      refine va_get (D := E.1) (ci := 3) (C := RX2) (T := TX2) (N := 7) hx hb hts hiX2 hown hK.1 hP 0 rfl rfl 2 (by decide) hf19 (fun _ h9 => h9) rfl dX2_joinOf_15 ?_
      refine lv_iload_n hx hb dX2_joinOf_18 rfl (lv_at hl 1 rfl) ?_
      refine lv_bipush (v := nI 8) hx hb dX2_joinOf_19 (by decide) ?_
      refine zn_imul hx hb dX2_joinOf_21 ?_
      refine lv_iload_n hx hb dX2_joinOf_22 rfl (lv_at hl 2 rfl) ?_
      refine zn_iadd hx hb dX2_joinOf_23 ?_
      refine zn_iald hx hb hK.1 hP 2 0 rfl rfl (by omega) (by decide) dX2_joinOf_24 ?_
      refine lv_goto (tgt := 29) hx hb dX2_joinOf_25 (by decide) ?_
      exact z_reti (rfl) (ret _ _ dX2_joinOf_29)
set_option maxHeartbeats 4000000 in
set_option maxRecDepth 100000 in
theorem kX2_setStart (l : Launch) (E : zE) (sz : Nat) (h0 a1 a2 : Nat) (b : Nat) (S J : Nat → Nat) (w1 w2 w3 w4 : Int32) (hb0 : b < 8) (hS0 : ∀ j, S j < 8) (hJ0 : ∀ j, J j < 8) (s_ : Nat) : Met l yX2_setStart wsX2_setStart (rmL 0) (va_Pc [.ref h0, .int (nI s_)] (zS E [(h0, .inr (3, [.int (nI b), .ref a1, .ref a2, .int w1, .int w2, .int w3, .int w4])), (a1, .inl (E.2.1, 32, .inl (fun j => nI (S j)))), (a2, .inl (E.2.1, 64, .inl (fun j => nI (J j))))] sz)) (va_Qi (fun (r9 : Int32) (_ : Unit) => r9 = nI b) (fun _ t9 => zW E [(h0, .inr (3, [.int (nI s_), .ref a1, .ref a2, .int w1, .int w2, .int w3, .int w4])), (a1, .inl (E.2.1, 32, .inl (fun j => nI (S j)))), (a2, .inl (E.2.1, 64, .inl (fun j => nI (J j))))] t9) (va_A [(h0, .inr (3, [.int (nI b), .ref a1, .ref a2, .int w1, .int w2, .int w3, .int w4])), (a1, .inl (E.2.1, 32, .inl (fun j => nI (S j)))), (a2, .inl (E.2.1, 64, .inl (fun j => nI (J j))))] sz)) 0 0 (va_A [(h0, .inr (3, [.int (nI b), .ref a1, .ref a2, .int w1, .int w2, .int w3, .int w4])), (a1, .inl (E.2.1, 32, .inl (fun j => nI (S j)))), (a2, .inl (E.2.1, 64, .inl (fun j => nI (J j))))] sz) := by
  refine z_ofWi (cc := cX2_setStart) (maxL := 3) (own := RX2) (by decide) rfl rfl (Nat.le_of_ble_eq_true rfl) ?_
  intro p e s m args below meth c R Q A B hP hD hA ret ls hl
  obtain ⟨hx, hb, hml, hown, hts, hK, hRf, hRl⟩ := B
  have hiX2 : ∀ w ∈ wsX20, w ∈ wsX2_setStart := by decide +kernel
  have hf9 := hts (.fieldLink RX2 9 "ExactFolds$Tables" "startState" "I") (by decide +kernel)
  have hS : va_S A s.heap s.heap [] := va_S.rf
  have hl : lv_has ls 3 [(0, .ref h0), (1, .int (nI s_))] := hl
  refine lv_aload_n hx hb dX2_setStart_0 rfl (lv_at hl 0 rfl) ?_
  refine va_get (D := E.1) (ci := 3) (C := RX2) (T := TX2) (N := 7) hx hb hts hiX2 hown hK.1 hP 0 rfl rfl 0 (by decide) hf9 (fun _ h9 => h9) rfl dX2_setStart_1 ?_
  refine lv_istore_n (lv' := [(2, .int (nI b)), (0, .ref h0), (1, .int (nI s_))]) hx hb dX2_setStart_4 rfl hl (by decide) rfl (fun ls hl => ?_)
  refine lv_aload_n hx hb dX2_setStart_5 rfl (lv_at hl 1 rfl) ?_
  refine lv_iload_n hx hb dX2_setStart_6 rfl (lv_at hl 2 rfl) ?_
  refine va_put (D := E.1) (ci := 3) (v := .int (nI s_)) (ty := .int) (C := RX2) (T := TX2) (N := 7) hx hb hts hiX2 tyX2 tyX2_ok nmX2 hown hK.1 hP hD hS 0 rfl rfl 0 (by decide) hf9 (fun _ h9 => h9) rfl (by decide +kernel) rfl rfl (Nat.le_of_ble_eq_true rfl) dX2_setStart_7 (fun H locs hP hD hS => ?_)
  have hP : va_P E.1 vwCl [(h0, .inr (3, [.int (nI s_), .ref a1, .ref a2, .int w1, .int w2, .int w3, .int w4])), (a1, .inl (E.2.1, 32, .inl (fun j => nI (S j)))), (a2, .inl (E.2.1, 64, .inl (fun j => nI (J j))))] H := hP
  have hD : va_D A [(h0, .inr (3, [.int (nI s_), .ref a1, .ref a2, .int w1, .int w2, .int w3, .int w4])), (a1, .inl (E.2.1, 32, .inl (fun j => nI (S j)))), (a2, .inl (E.2.1, 64, .inl (fun j => nI (J j))))] := hD
  refine lv_iload_n hx hb dX2_setStart_10 rfl (lv_at hl 0 rfl) ?_
  exact z_reti (rfl) (ret _ _ _ _ (hP) hS dX2_setStart_11)
set_option maxHeartbeats 4000000 in
set_option maxRecDepth 100000 in
theorem kX2_setStep (l : Launch) (E : zE) (sz : Nat) (h0 a1 a2 : Nat) (b : Nat) (S J : Nat → Nat) (w1 w2 w3 w4 : Int32) (hb0 : b < 8) (hS0 : ∀ j, S j < 8) (hJ0 : ∀ j, J j < 8) (s_ v_ to : Nat) (hs : s_ < 8) (hv : v_ < 4) : Met l yX2_setStep wsX2_setStep (rmL 2) (va_Pc [.ref h0, .int (nI s_), .int (nI v_), .int (nI to)] (zS E [(h0, .inr (3, [.int (nI b), .ref a1, .ref a2, .int w1, .int w2, .int w3, .int w4])), (a1, .inl (E.2.1, 32, .inl (fun j => nI (S j)))), (a2, .inl (E.2.1, 64, .inl (fun j => nI (J j))))] sz)) (va_Qi (fun (r9 : Int32) (_ : Unit) => r9 = nI (S (s_ * 4 + v_))) (fun _ t9 => zW E [(h0, .inr (3, [.int (nI b), .ref a1, .ref a2, .int w1, .int w2, .int w3, .int w4])), (a1, .inl (E.2.1, 32, .inl (fun j => nI (updN S (s_ * 4 + v_) to j)))), (a2, .inl (E.2.1, 64, .inl (fun j => nI (J j))))] t9) (va_A [(h0, .inr (3, [.int (nI b), .ref a1, .ref a2, .int w1, .int w2, .int w3, .int w4])), (a1, .inl (E.2.1, 32, .inl (fun j => nI (S j)))), (a2, .inl (E.2.1, 64, .inl (fun j => nI (J j))))] sz)) 0 0 (va_A [(h0, .inr (3, [.int (nI b), .ref a1, .ref a2, .int w1, .int w2, .int w3, .int w4])), (a1, .inl (E.2.1, 32, .inl (fun j => nI (S j)))), (a2, .inl (E.2.1, 64, .inl (fun j => nI (J j))))] sz) := by
  refine z_ofWi (cc := cX2_setStep) (maxL := 5) (own := RX2) (by decide) rfl rfl (Nat.le_of_ble_eq_true rfl) ?_
  intro p e s m args below meth c R Q A B hP hD hA ret ls hl
  obtain ⟨hx, hb, hml, hown, hts, hK, hRf, hRl⟩ := B
  have hiX2 : ∀ w ∈ wsX20, w ∈ wsX2_setStep := by decide +kernel
  have hf15 := hts (.fieldLink RX2 15 "ExactFolds$Tables" "steps" "[I") (by decide +kernel)
  have hS : va_S A s.heap s.heap [] := va_S.rf
  have hl : lv_has ls 5 [(0, .ref h0), (1, .int (nI s_)), (2, .int (nI v_)), (3, .int (nI to))] := hl
  refine lv_aload_n hx hb dX2_setStep_0 rfl (lv_at hl 0 rfl) ?_
  refine lv_iload_n hx hb dX2_setStep_1 rfl (lv_at hl 1 rfl) ?_
  refine lv_iload_n hx hb dX2_setStep_2 rfl (lv_at hl 2 rfl) ?_
  refine zc_i (W.runV ⟨hx, hb, hml, hown, hts⟩ (kX2_stepOf l E h0 a1 a2 b S J w1 w2 w3 w4 hb0 hS0 hJ0 s_ v_ (by omega) (by omega)) (cwV 2 hts gX2_setStep_X2_stepOf rfl rfl rfl (by decide +kernel) ⟨Nat.le_trans (Nat.le_of_ble_eq_true rfl) hRf, Nat.le_trans (Nat.le_of_ble_eq_true rfl) hRl⟩) (z_preV (As := [.int (nI s_), .int (nI v_)]) hP hK 0 rfl rfl) rfl rfl hl.1 rfl (lv_room (Nat.le_of_ble_eq_true rfl)) dX2_setStep_3 ⟨Nat.zero_le _, Nat.zero_le _⟩) ?_
  refine lv_istore (lv' := [(4, .int (nI (S (s_ * 4 + v_)))), (0, .ref h0), (1, .int (nI s_)), (2, .int (nI v_)), (3, .int (nI to))]) hx hb dX2_setStep_6 hl (by decide) rfl (fun ls hl => ?_)
  refine lv_aload_n hx hb dX2_setStep_8 rfl (lv_at hl 1 rfl) ?_
  refine va_get (D := E.1) (ci := 3) (C := RX2) (T := TX2) (N := 7) hx hb hts hiX2 hown hK.1 hP 0 rfl rfl 1 (by decide) hf15 (fun _ h9 => h9) rfl dX2_setStep_9 ?_
  refine lv_iload_n hx hb dX2_setStep_12 rfl (lv_at hl 2 rfl) ?_
  refine lv_iconst (v := nI 4) hx hb dX2_setStep_13 (by decide) ?_
  refine zn_imul hx hb dX2_setStep_14 ?_
  refine lv_iload_n hx hb dX2_setStep_15 rfl (lv_at hl 3 rfl) ?_
  refine zn_iadd hx hb dX2_setStep_16 ?_
  refine lv_iload_n hx hb dX2_setStep_17 rfl (lv_at hl 4 rfl) ?_
  refine zn_iast hx hb hK.1 hP hD hS 1 0 rfl rfl (by omega) (by decide) dX2_setStep_18 (fun H locs hP hD hS => ?_)
  have hP : va_P E.1 vwCl [(h0, .inr (3, [.int (nI b), .ref a1, .ref a2, .int w1, .int w2, .int w3, .int w4])), (a1, .inl (E.2.1, 32, .inl (fun j => nI (updN S ((s_ * 4) + v_) to j)))), (a2, .inl (E.2.1, 64, .inl (fun j => nI (J j))))] H := by rw [← upd_nI]; exact hP
  have hD : va_D A [(h0, .inr (3, [.int (nI b), .ref a1, .ref a2, .int w1, .int w2, .int w3, .int w4])), (a1, .inl (E.2.1, 32, .inl (fun j => nI (updN S ((s_ * 4) + v_) to j)))), (a2, .inl (E.2.1, 64, .inl (fun j => nI (J j))))] := by rw [← upd_nI]; exact hD
  refine lv_iload hx hb dX2_setStep_19 (lv_at hl 0 rfl) ?_
  exact z_reti (rfl) (ret _ _ _ _ (hP) hS dX2_setStep_21)
set_option maxHeartbeats 4000000 in
set_option maxRecDepth 100000 in
theorem kX2_setJoin (l : Launch) (E : zE) (sz : Nat) (h0 a1 a2 : Nat) (b : Nat) (S J : Nat → Nat) (w1 w2 w3 w4 : Int32) (hb0 : b < 8) (hS0 : ∀ j, S j < 8) (hJ0 : ∀ j, J j < 8) (s_ t_ to : Nat) (hs : s_ < 8) (ht : t_ < 8) : Met l yX2_setJoin wsX2_setJoin (rmL 2) (va_Pc [.ref h0, .int (nI s_), .int (nI t_), .int (nI to)] (zS E [(h0, .inr (3, [.int (nI b), .ref a1, .ref a2, .int w1, .int w2, .int w3, .int w4])), (a1, .inl (E.2.1, 32, .inl (fun j => nI (S j)))), (a2, .inl (E.2.1, 64, .inl (fun j => nI (J j))))] sz)) (va_Qi (fun (r9 : Int32) (_ : Unit) => r9 = nI (J (s_ * 8 + t_))) (fun _ t9 => zW E [(h0, .inr (3, [.int (nI b), .ref a1, .ref a2, .int w1, .int w2, .int w3, .int w4])), (a1, .inl (E.2.1, 32, .inl (fun j => nI (S j)))), (a2, .inl (E.2.1, 64, .inl (fun j => nI (updN J (s_ * 8 + t_) to j))))] t9) (va_A [(h0, .inr (3, [.int (nI b), .ref a1, .ref a2, .int w1, .int w2, .int w3, .int w4])), (a1, .inl (E.2.1, 32, .inl (fun j => nI (S j)))), (a2, .inl (E.2.1, 64, .inl (fun j => nI (J j))))] sz)) 0 0 (va_A [(h0, .inr (3, [.int (nI b), .ref a1, .ref a2, .int w1, .int w2, .int w3, .int w4])), (a1, .inl (E.2.1, 32, .inl (fun j => nI (S j)))), (a2, .inl (E.2.1, 64, .inl (fun j => nI (J j))))] sz) := by
  refine z_ofWi (cc := cX2_setJoin) (maxL := 5) (own := RX2) (by decide) rfl rfl (Nat.le_of_ble_eq_true rfl) ?_
  intro p e s m args below meth c R Q A B hP hD hA ret ls hl
  obtain ⟨hx, hb, hml, hown, hts, hK, hRf, hRl⟩ := B
  have hiX2 : ∀ w ∈ wsX20, w ∈ wsX2_setJoin := by decide +kernel
  have hf19 := hts (.fieldLink RX2 19 "ExactFolds$Tables" "joins" "[I") (by decide +kernel)
  have hS : va_S A s.heap s.heap [] := va_S.rf
  have hl : lv_has ls 5 [(0, .ref h0), (1, .int (nI s_)), (2, .int (nI t_)), (3, .int (nI to))] := hl
  refine lv_aload_n hx hb dX2_setJoin_0 rfl (lv_at hl 0 rfl) ?_
  refine lv_iload_n hx hb dX2_setJoin_1 rfl (lv_at hl 1 rfl) ?_
  refine lv_iload_n hx hb dX2_setJoin_2 rfl (lv_at hl 2 rfl) ?_
  refine zc_i (W.runV ⟨hx, hb, hml, hown, hts⟩ (kX2_joinOf l E h0 a1 a2 b S J w1 w2 w3 w4 hb0 hS0 hJ0 s_ t_ (by omega) (by omega)) (cwV 2 hts gX2_setJoin_X2_joinOf rfl rfl rfl (by decide +kernel) ⟨Nat.le_trans (Nat.le_of_ble_eq_true rfl) hRf, Nat.le_trans (Nat.le_of_ble_eq_true rfl) hRl⟩) (z_preV (As := [.int (nI s_), .int (nI t_)]) hP hK 0 rfl rfl) rfl rfl hl.1 rfl (lv_room (Nat.le_of_ble_eq_true rfl)) dX2_setJoin_3 ⟨Nat.zero_le _, Nat.zero_le _⟩) ?_
  refine lv_istore (lv' := [(4, .int (nI (J (s_ * 8 + t_)))), (0, .ref h0), (1, .int (nI s_)), (2, .int (nI t_)), (3, .int (nI to))]) hx hb dX2_setJoin_6 hl (by decide) rfl (fun ls hl => ?_)
  refine lv_aload_n hx hb dX2_setJoin_8 rfl (lv_at hl 1 rfl) ?_
  refine va_get (D := E.1) (ci := 3) (C := RX2) (T := TX2) (N := 7) hx hb hts hiX2 hown hK.1 hP 0 rfl rfl 2 (by decide) hf19 (fun _ h9 => h9) rfl dX2_setJoin_9 ?_
  refine lv_iload_n hx hb dX2_setJoin_12 rfl (lv_at hl 2 rfl) ?_
  refine lv_bipush (v := nI 8) hx hb dX2_setJoin_13 (by decide) ?_
  refine zn_imul hx hb dX2_setJoin_15 ?_
  refine lv_iload_n hx hb dX2_setJoin_16 rfl (lv_at hl 3 rfl) ?_
  refine zn_iadd hx hb dX2_setJoin_17 ?_
  refine lv_iload_n hx hb dX2_setJoin_18 rfl (lv_at hl 4 rfl) ?_
  refine zn_iast hx hb hK.1 hP hD hS 2 0 rfl rfl (by omega) (by decide) dX2_setJoin_19 (fun H locs hP hD hS => ?_)
  have hP : va_P E.1 vwCl [(h0, .inr (3, [.int (nI b), .ref a1, .ref a2, .int w1, .int w2, .int w3, .int w4])), (a1, .inl (E.2.1, 32, .inl (fun j => nI (S j)))), (a2, .inl (E.2.1, 64, .inl (fun j => nI (updN J ((s_ * 8) + t_) to j))))] H := by rw [← upd_nI]; exact hP
  have hD : va_D A [(h0, .inr (3, [.int (nI b), .ref a1, .ref a2, .int w1, .int w2, .int w3, .int w4])), (a1, .inl (E.2.1, 32, .inl (fun j => nI (S j)))), (a2, .inl (E.2.1, 64, .inl (fun j => nI (updN J ((s_ * 8) + t_) to j))))] := by rw [← upd_nI]; exact hD
  refine lv_iload hx hb dX2_setJoin_20 (lv_at hl 0 rfl) ?_
  exact z_reti (rfl) (ret _ _ _ _ (hP) hS dX2_setJoin_22)
set_option maxHeartbeats 4000000 in
set_option maxRecDepth 100000 in
theorem kX2_stateOf (l : Launch) (E : zE) (h0 a1 a2 : Nat) (b : Nat) (S J : Nat → Nat) (w1 w2 w3 w4 : Int32) (hb0 : b < 8) (hS0 : ∀ j, S j < 8) (hJ0 : ∀ j, J j < 8) (g0 b1 b2 : Nat) (k2 : Int32) (n : Nat) (T2 : Nat → Int32) (V : Nat → Int64) (hn : n ≤ 64) (hO : ∀ i, i < n → isOwn (V i)) : Met l yX2_stateOf wsX2_stateOf (rmL 2) (va_Pc [.ref h0, .ref g0] (zW E [(h0, .inr (3, [.int (nI b), .ref a1, .ref a2, .int w1, .int w2, .int w3, .int w4])), (a1, .inl (E.2.1, 32, .inl (fun j => nI (S j)))), (a2, .inl (E.2.1, 64, .inl (fun j => nI (J j)))), (g0, .inr (1, [.int k2, .ref b1, .ref b2, .int (nI n)])), (b1, .inl (E.2.1, 64, .inl T2)), (b2, .inl (E.2.2.1, 64, .inr (.inl V)))])) (vp_Si (fun r9 => r9 = nI (stF S b V n))) 0 0 (fun _ => False) := by
  refine z_ofRi (cc := cX2_stateOf) (maxL := 4) (own := RX2) (by decide) rfl rfl (Nat.le_of_ble_eq_true rfl) ?_
  intro p e s m args below meth c R Q B hP ret ls hl
  obtain ⟨hx, hb, hml, hown, hts, hK, hRf, hRl⟩ := B
  have hiX0 : ∀ w ∈ wsX00, w ∈ wsX2_stateOf := by decide +kernel
  have hiX2 : ∀ w ∈ wsX20, w ∈ wsX2_stateOf := by decide +kernel
  have hf9 := hts (.fieldLink RX2 9 "ExactFolds$Tables" "startState" "I") (by decide +kernel)
  have hf41 := hts (.fieldLink RX2 41 "ExactFolds$Fold" "size" "I") (by decide +kernel)
  have hf46 := hts (.fieldLink RX2 46 "ExactFolds$Fold" "values" "[J") (by decide +kernel)
  have hl : lv_has ls 4 [(0, .ref h0), (1, .ref g0)] := hl
  refine lv_aload_n hx hb dX2_stateOf_0 rfl (lv_at hl 0 rfl) ?_
  refine va_get (D := E.1) (ci := 3) (C := RX2) (T := TX2) (N := 7) hx hb hts hiX2 hown hK.1 hP 0 rfl rfl 0 (by decide) hf9 (fun _ h9 => h9) rfl dX2_stateOf_1 ?_
  refine lv_istore_n (lv' := [(2, .int (nI b)), (0, .ref h0), (1, .ref g0)]) hx hb dX2_stateOf_4 rfl hl (by decide) rfl (fun ls hl => ?_)
  refine lv_iconst (v := nI 0) hx hb dX2_stateOf_5 (by decide) ?_
  refine lv_istore_n (lv' := [(3, .int (nI 0)), (2, .int (nI b)), (0, .ref h0), (1, .ref g0)]) hx hb dX2_stateOf_6 rfl hl (by decide) rfl (fun ls hl => ?_)
  have lp : ∀ (fu : Nat) (i : Nat) (ls : Array Slot), n - i < fu → (i ≤ n) → lv_has ls 4 [(0, .ref h0), (1, .ref g0), (2, .int (nI (stF S b V i))), (3, .int (nI i))] → W p l e R s m args below meth c s.heap [] 0 0 Q (F0 m 7 ls []) := by
    intro fu
    induction fu with
    | zero => intros; exact absurd (by assumption) (Nat.not_lt_zero _)
    | succ fu ihlp =>
      intro i ls hfu hi hl
      refine lv_iload_n hx hb dX2_stateOf_7 rfl (lv_at hl 3 rfl) ?_
      refine lv_aload_n hx hb dX2_stateOf_8 rfl (lv_at hl 1 rfl) ?_
      refine va_get (D := E.1) (ci := 1) (C := RX0) (T := TX0) (N := 4) hx hb hts hiX0 hown hK.1 hP 3 rfl rfl 3 (by decide) hf41 (fun _ h9 => h9) rfl dX2_stateOf_9 ?_
      refine zn_icmp_ge (tgt := 34) hx hb dX2_stateOf_12 (by decide) (by omega) (by omega) (fun c_1 => ?_) (fun c_1 => ?_)
      · obtain rfl : i = n := by omega
        refine lv_iload_n hx hb dX2_stateOf_34 rfl (lv_at hl 2 rfl) ?_
        exact z_reti (rfl) (ret _ _ dX2_stateOf_35)
      · have hlt := stF_lt V hb0 hS0 i
        have hv4 := vN_lt (hO i c_1)
        refine lv_aload_n hx hb dX2_stateOf_15 rfl (lv_at hl 0 rfl) ?_
        refine lv_iload_n hx hb dX2_stateOf_16 rfl (lv_at hl 2 rfl) ?_
        refine lv_aload_n hx hb dX2_stateOf_17 rfl (lv_at hl 1 rfl) ?_
        refine va_get (D := E.1) (ci := 1) (C := RX0) (T := TX0) (N := 4) hx hb hts hiX0 hown hK.1 hP 3 rfl rfl 2 (by decide) hf46 (fun _ h9 => h9) rfl dX2_stateOf_18 ?_
        refine lv_iload_n hx hb dX2_stateOf_21 rfl (lv_at hl 3 rfl) ?_
        refine zn_lald hx hb hK.1 hP 5 1 rfl rfl (by omega) (by decide) dX2_stateOf_22 ?_
        refine lv_l2i (v := nI (vN (V i))) hx hb dX2_stateOf_23 (vN_i (hO i (by omega))) ?_
        refine zc_i (W.runV ⟨hx, hb, hml, hown, hts⟩ (kX2_stepOf l E h0 a1 a2 b S J w1 w2 w3 w4 hb0 hS0 hJ0 (stF S b V i) (vN (V i)) (by omega) (by omega)) (cwV 2 hts gX2_stateOf_X2_stepOf rfl rfl rfl (by decide +kernel) ⟨Nat.le_trans (Nat.le_of_ble_eq_true rfl) hRf, Nat.le_trans (Nat.le_of_ble_eq_true rfl) hRl⟩) (z_preV (As := [.int (nI (stF S b V i)), .int (nI (vN (V i)))]) (hP.sub (ws' := [(h0, .inr (3, [.int (nI b), .ref a1, .ref a2, .int w1, .int w2, .int w3, .int w4])), (a1, .inl (E.2.1, 32, .inl (fun j => nI (S j)))), (a2, .inl (E.2.1, 64, .inl (fun j => nI (J j))))]) [0, 1, 2] rfl) hK 0 rfl rfl) rfl rfl hl.1 rfl (lv_room (Nat.le_of_ble_eq_true rfl)) dX2_stateOf_24 ⟨Nat.zero_le _, Nat.zero_le _⟩) ?_
        refine lv_istore_n (lv' := [(2, .int (nI (S ((stF S b V i) * 4 + (vN (V i)))))), (0, .ref h0), (1, .ref g0), (3, .int (nI i))]) hx hb dX2_stateOf_27 rfl hl (by decide) rfl (fun ls hl => ?_)
        refine lv_iinc (v := nI (i + 1)) (lv' := [(3, .int (nI (i + 1))), (2, .int (nI (S ((stF S b V i) * 4 + (vN (V i)))))), (0, .ref h0), (1, .ref g0)]) hx hb dX2_stateOf_28 hl (k := 3) rfl (z_inc _ 1) (by decide) rfl (fun ls hl => ?_)
        refine lv_goto (tgt := 7) hx hb dX2_stateOf_31 (by decide) ?_
        exact ihlp (i + 1) ls (by omega) (by omega) (lv_sub hl [2, 3, 1, 0] rfl)
  exact lp _ 0 ls (Nat.lt_succ_self _) (Nat.zero_le _) (lv_sub hl [2, 3, 1, 0] rfl)
set_option maxHeartbeats 4000000 in
set_option maxRecDepth 100000 in
theorem kX2_firstStep (l : Launch) (E : zE) (h0 a1 a2 : Nat) (b : Nat) (S J : Nat → Nat) (w1 w2 w3 w4 : Int32) (hb0 : b < 8) (hS0 : ∀ j, S j < 8) (hJ0 : ∀ j, J j < 8) (g0 b1 b2 : Nat) (k2 : Int32) (n : Nat) (T2 : Nat → Int32) (V : Nat → Int64) (hn : n ≤ 64) (hO : ∀ i, i < n → isOwn (V i)) (p_ : Nat) (hp : p_ < n) : Met l yX2_firstStep wsX2_firstStep (rmL 2) (va_Pc [.ref h0, .ref g0, .int (nI p_)] (zW E [(h0, .inr (3, [.int (nI b), .ref a1, .ref a2, .int w1, .int w2, .int w3, .int w4])), (a1, .inl (E.2.1, 32, .inl (fun j => nI (S j)))), (a2, .inl (E.2.1, 64, .inl (fun j => nI (J j)))), (g0, .inr (1, [.int k2, .ref b1, .ref b2, .int (nI n)])), (b1, .inl (E.2.1, 64, .inl T2)), (b2, .inl (E.2.2.1, 64, .inr (.inl V)))])) (vp_Si (fun r9 => r9 = nI (sgl S b V p_))) 0 0 (fun _ => False) := by
  refine z_ofRi (cc := cX2_firstStep) (maxL := 3) (own := RX2) (by decide) rfl rfl (Nat.le_of_ble_eq_true rfl) ?_
  intro p e s m args below meth c R Q B hP ret ls hl
  obtain ⟨hx, hb, hml, hown, hts, hK, hRf, hRl⟩ := B
  have hiX0 : ∀ w ∈ wsX00, w ∈ wsX2_firstStep := by decide +kernel
  have hiX2 : ∀ w ∈ wsX20, w ∈ wsX2_firstStep := by decide +kernel
  have hf9 := hts (.fieldLink RX2 9 "ExactFolds$Tables" "startState" "I") (by decide +kernel)
  have hf41 := hts (.fieldLink RX2 41 "ExactFolds$Fold" "size" "I") (by decide +kernel)
  have hf46 := hts (.fieldLink RX2 46 "ExactFolds$Fold" "values" "[J") (by decide +kernel)
  have hl : lv_has ls 3 [(0, .ref h0), (1, .ref g0), (2, .int (nI p_))] := hl
  refine lv_iload_n hx hb dX2_firstStep_0 rfl (lv_at hl 2 rfl) ?_
  refine zn_if_lt (tgt := 30) hx hb dX2_firstStep_1 (by decide) (by omega) ?_
  refine lv_iload_n hx hb dX2_firstStep_4 rfl (lv_at hl 2 rfl) ?_
  refine lv_aload_n hx hb dX2_firstStep_5 rfl (lv_at hl 1 rfl) ?_
  refine va_get (D := E.1) (ci := 1) (C := RX0) (T := TX0) (N := 4) hx hb hts hiX0 hown hK.1 hP 3 rfl rfl 3 (by decide) hf41 (fun _ h9 => h9) rfl dX2_firstStep_6 ?_
  refine zn_icmp_ge (tgt := 30) hx hb dX2_firstStep_9 (by decide) (by omega) (by omega) (fun c_1 => ?_) (fun c_1 => ?_)
  · exact absurd c_1 (by omega)
  · have hv4 := vN_lt (hO p_ hp)
    refine lv_aload_n hx hb dX2_firstStep_12 rfl (lv_at hl 0 rfl) ?_
    refine lv_aload_n hx hb dX2_firstStep_13 rfl (lv_at hl 0 rfl) ?_
    refine va_get (D := E.1) (ci := 3) (C := RX2) (T := TX2) (N := 7) hx hb hts hiX2 hown hK.1 hP 0 rfl rfl 0 (by decide) hf9 (fun _ h9 => h9) rfl dX2_firstStep_14 ?_
    refine lv_aload_n hx hb dX2_firstStep_17 rfl (lv_at hl 1 rfl) ?_
    refine va_get (D := E.1) (ci := 1) (C := RX0) (T := TX0) (N := 4) hx hb hts hiX0 hown hK.1 hP 3 rfl rfl 2 (by decide) hf46 (fun _ h9 => h9) rfl dX2_firstStep_18 ?_
    refine lv_iload_n hx hb dX2_firstStep_21 rfl (lv_at hl 2 rfl) ?_
    refine zn_lald hx hb hK.1 hP 5 1 rfl rfl (by omega) (by decide) dX2_firstStep_22 ?_
    refine lv_l2i (v := nI (vN (V p_))) hx hb dX2_firstStep_23 (vN_i (hO p_ hp)) ?_
    refine zc_i (W.runV ⟨hx, hb, hml, hown, hts⟩ (kX2_stepOf l E h0 a1 a2 b S J w1 w2 w3 w4 hb0 hS0 hJ0 b (vN (V p_)) (by omega) (by omega)) (cwV 2 hts gX2_firstStep_X2_stepOf rfl rfl rfl (by decide +kernel) ⟨Nat.le_trans (Nat.le_of_ble_eq_true rfl) hRf, Nat.le_trans (Nat.le_of_ble_eq_true rfl) hRl⟩) (z_preV (As := [.int (nI b), .int (nI (vN (V p_)))]) (hP.sub (ws' := [(h0, .inr (3, [.int (nI b), .ref a1, .ref a2, .int w1, .int w2, .int w3, .int w4])), (a1, .inl (E.2.1, 32, .inl (fun j => nI (S j)))), (a2, .inl (E.2.1, 64, .inl (fun j => nI (J j))))]) [0, 1, 2] rfl) hK 0 rfl rfl) rfl rfl hl.1 rfl (lv_room (Nat.le_of_ble_eq_true rfl)) dX2_firstStep_24 ⟨Nat.zero_le _, Nat.zero_le _⟩) ?_
    refine lv_goto (tgt := 34) hx hb dX2_firstStep_27 (by decide) ?_
    exact z_reti (rfl) (ret _ _ dX2_firstStep_34)
set_option maxHeartbeats 4000000 in
set_option maxRecDepth 100000 in
theorem kX2_joinFromLeft (l : Launch) (E : zE) (h0 a1 a2 : Nat) (b : Nat) (S J : Nat → Nat) (w1 w2 w3 w4 : Int32) (hb0 : b < 8) (hS0 : ∀ j, S j < 8) (hJ0 : ∀ j, J j < 8) (g0 b1 b2 : Nat) (k2 : Int32) (n : Nat) (T2 : Nat → Int32) (V : Nat → Int64) (hn : n ≤ 64) (hO : ∀ i, i < n → isOwn (V i)) (hn0 : 0 < n) : Met l yX2_joinFromLeft wsX2_joinFromLeft (rmL 3) (va_Pc [.ref h0, .ref g0] (zW E [(h0, .inr (3, [.int (nI b), .ref a1, .ref a2, .int w1, .int w2, .int w3, .int w4])), (a1, .inl (E.2.1, 32, .inl (fun j => nI (S j)))), (a2, .inl (E.2.1, 64, .inl (fun j => nI (J j)))), (g0, .inr (1, [.int k2, .ref b1, .ref b2, .int (nI n)])), (b1, .inl (E.2.1, 64, .inl T2)), (b2, .inl (E.2.2.1, 64, .inr (.inl V)))])) (vp_Si (fun r9 => r9 = nI (jlF S J b V (n - 1)))) 0 0 (fun _ => False) := by
  refine z_ofRi (cc := cX2_joinFromLeft) (maxL := 4) (own := RX2) (by decide) rfl rfl (Nat.le_of_ble_eq_true rfl) ?_
  intro p e s m args below meth c R Q B hP ret ls hl
  obtain ⟨hx, hb, hml, hown, hts, hK, hRf, hRl⟩ := B
  have hiX0 : ∀ w ∈ wsX00, w ∈ wsX2_joinFromLeft := by decide +kernel
  have hf41 := hts (.fieldLink RX2 41 "ExactFolds$Fold" "size" "I") (by decide +kernel)
  have hl : lv_has ls 4 [(0, .ref h0), (1, .ref g0)] := hl
  refine lv_aload_n hx hb dX2_joinFromLeft_0 rfl (lv_at hl 0 rfl) ?_
  refine lv_aload_n hx hb dX2_joinFromLeft_1 rfl (lv_at hl 1 rfl) ?_
  refine lv_iconst (v := nI 0) hx hb dX2_joinFromLeft_2 (by decide) ?_
  refine zc_i (W.runV ⟨hx, hb, hml, hown, hts⟩ (kX2_firstStep l E h0 a1 a2 b S J w1 w2 w3 w4 hb0 hS0 hJ0 g0 b1 b2 k2 n T2 V hn hO 0 (by omega)) (cwV 2 hts gX2_joinFromLeft_X2_firstStep rfl rfl rfl (by decide +kernel) ⟨Nat.le_trans (Nat.le_of_ble_eq_true rfl) hRf, Nat.le_trans (Nat.le_of_ble_eq_true rfl) hRl⟩) (z_preV (As := [.ref g0, .int (nI 0)]) hP hK 0 rfl rfl) rfl rfl hl.1 rfl (lv_room (Nat.le_of_ble_eq_true rfl)) dX2_joinFromLeft_3 ⟨Nat.zero_le _, Nat.zero_le _⟩) ?_
  refine lv_istore_n (lv' := [(2, .int (nI (sgl S b V 0))), (0, .ref h0), (1, .ref g0)]) hx hb dX2_joinFromLeft_6 rfl hl (by decide) rfl (fun ls hl => ?_)
  refine lv_iconst (v := nI 1) hx hb dX2_joinFromLeft_7 (by decide) ?_
  refine lv_istore_n (lv' := [(3, .int (nI 1)), (2, .int (nI (sgl S b V 0))), (0, .ref h0), (1, .ref g0)]) hx hb dX2_joinFromLeft_8 rfl hl (by decide) rfl (fun ls hl => ?_)
  have lp : ∀ (fu : Nat) (i : Nat) (ls : Array Slot), n - i < fu → (i ≤ n) → (1 ≤ i) → lv_has ls 4 [(0, .ref h0), (1, .ref g0), (2, .int (nI (jlF S J b V (i - 1)))), (3, .int (nI i))] → W p l e R s m args below meth c s.heap [] 0 0 Q (F0 m 9 ls []) := by
    intro fu
    induction fu with
    | zero => intros; exact absurd (by assumption) (Nat.not_lt_zero _)
    | succ fu ihlp =>
      intro i ls hfu hi hi1 hl
      refine lv_iload_n hx hb dX2_joinFromLeft_9 rfl (lv_at hl 3 rfl) ?_
      refine lv_aload_n hx hb dX2_joinFromLeft_10 rfl (lv_at hl 1 rfl) ?_
      refine va_get (D := E.1) (ci := 1) (C := RX0) (T := TX0) (N := 4) hx hb hts hiX0 hown hK.1 hP 3 rfl rfl 3 (by decide) hf41 (fun _ h9 => h9) rfl dX2_joinFromLeft_11 ?_
      refine zn_icmp_ge (tgt := 35) hx hb dX2_joinFromLeft_14 (by decide) (by omega) (by omega) (fun c_1 => ?_) (fun c_1 => ?_)
      · obtain rfl : i = n := by omega
        refine lv_iload_n hx hb dX2_joinFromLeft_35 rfl (lv_at hl 2 rfl) ?_
        exact z_reti (rfl) (ret _ _ dX2_joinFromLeft_36)
      · have hlt := jlF_lt b V hS0 hJ0 (i - 1)
        have hlt2 : sgl S b V i < 8 := hS0 _
        have hq : jlF S J b V i = J (jlF S J b V (i - 1) * 8 + sgl S b V i) := by obtain ⟨i2, rfl⟩ : ∃ i2, i = i2 + 1 := ⟨i - 1, by omega⟩
                                                                                  rfl
        refine lv_aload_n hx hb dX2_joinFromLeft_17 rfl (lv_at hl 0 rfl) ?_
        refine lv_iload_n hx hb dX2_joinFromLeft_18 rfl (lv_at hl 2 rfl) ?_
        refine lv_aload_n hx hb dX2_joinFromLeft_19 rfl (lv_at hl 0 rfl) ?_
        refine lv_aload_n hx hb dX2_joinFromLeft_20 rfl (lv_at hl 1 rfl) ?_
        refine lv_iload_n hx hb dX2_joinFromLeft_21 rfl (lv_at hl 3 rfl) ?_
        refine zc_i (W.runV ⟨hx, hb, hml, hown, hts⟩ (kX2_firstStep l E h0 a1 a2 b S J w1 w2 w3 w4 hb0 hS0 hJ0 g0 b1 b2 k2 n T2 V hn hO i (by omega)) (cwV 2 hts gX2_joinFromLeft_X2_firstStep rfl rfl rfl (by decide +kernel) ⟨Nat.le_trans (Nat.le_of_ble_eq_true rfl) hRf, Nat.le_trans (Nat.le_of_ble_eq_true rfl) hRl⟩) (z_preV (As := [.ref g0, .int (nI i)]) hP hK 0 rfl rfl) rfl rfl hl.1 rfl (lv_room (Nat.le_of_ble_eq_true rfl)) dX2_joinFromLeft_22 ⟨Nat.zero_le _, Nat.zero_le _⟩) ?_
        refine zc_i (W.runV ⟨hx, hb, hml, hown, hts⟩ (kX2_joinOf l E h0 a1 a2 b S J w1 w2 w3 w4 hb0 hS0 hJ0 (jlF S J b V (i - 1)) (sgl S b V i) (by omega) (by omega)) (cwV 2 hts gX2_joinFromLeft_X2_joinOf rfl rfl rfl (by decide +kernel) ⟨Nat.le_trans (Nat.le_of_ble_eq_true rfl) hRf, Nat.le_trans (Nat.le_of_ble_eq_true rfl) hRl⟩) (z_preV (As := [.int (nI (jlF S J b V (i - 1))), .int (nI (sgl S b V i))]) (hP.sub (ws' := [(h0, .inr (3, [.int (nI b), .ref a1, .ref a2, .int w1, .int w2, .int w3, .int w4])), (a1, .inl (E.2.1, 32, .inl (fun j => nI (S j)))), (a2, .inl (E.2.1, 64, .inl (fun j => nI (J j))))]) [0, 1, 2] rfl) hK 0 rfl rfl) rfl rfl hl.1 rfl (lv_room (Nat.le_of_ble_eq_true rfl)) dX2_joinFromLeft_25 ⟨Nat.zero_le _, Nat.zero_le _⟩) ?_
        rw [← hq]
        refine lv_istore_n (lv' := [(2, .int (nI (jlF S J b V i))), (0, .ref h0), (1, .ref g0), (3, .int (nI i))]) hx hb dX2_joinFromLeft_28 rfl hl (by decide) rfl (fun ls hl => ?_)
        refine lv_iinc (v := nI (i + 1)) (lv' := [(3, .int (nI (i + 1))), (2, .int (nI (jlF S J b V i))), (0, .ref h0), (1, .ref g0)]) hx hb dX2_joinFromLeft_29 hl (k := 3) rfl (z_inc _ 1) (by decide) rfl (fun ls hl => ?_)
        refine lv_goto (tgt := 9) hx hb dX2_joinFromLeft_32 (by decide) ?_
        exact ihlp (i + 1) ls (by omega) (by omega) (by omega) (lv_sub hl [2, 3, 1, 0] rfl)
  exact lp _ 1 ls (Nat.lt_succ_self _) (hn0) (Nat.le_refl _) (lv_sub hl [2, 3, 1, 0] rfl)
set_option maxHeartbeats 4000000 in
set_option maxRecDepth 100000 in
theorem kX2_joinFromRight (l : Launch) (E : zE) (h0 a1 a2 : Nat) (b : Nat) (S J : Nat → Nat) (w1 w2 w3 w4 : Int32) (hb0 : b < 8) (hS0 : ∀ j, S j < 8) (hJ0 : ∀ j, J j < 8) (g0 b1 b2 : Nat) (k2 : Int32) (n : Nat) (T2 : Nat → Int32) (V : Nat → Int64) (hn : n ≤ 64) (hO : ∀ i, i < n → isOwn (V i)) (hn0 : 0 < n) : Met l yX2_joinFromRight wsX2_joinFromRight (rmL 3) (va_Pc [.ref h0, .ref g0] (zW E [(h0, .inr (3, [.int (nI b), .ref a1, .ref a2, .int w1, .int w2, .int w3, .int w4])), (a1, .inl (E.2.1, 32, .inl (fun j => nI (S j)))), (a2, .inl (E.2.1, 64, .inl (fun j => nI (J j)))), (g0, .inr (1, [.int k2, .ref b1, .ref b2, .int (nI n)])), (b1, .inl (E.2.1, 64, .inl T2)), (b2, .inl (E.2.2.1, 64, .inr (.inl V)))])) (vp_Si (fun r9 => r9 = nI (jrF S J b V n (n - 1)))) 0 0 (fun _ => False) := by
  refine z_ofRi (cc := cX2_joinFromRight) (maxL := 4) (own := RX2) (by decide) rfl rfl (Nat.le_of_ble_eq_true rfl) ?_
  intro p e s m args below meth c R Q B hP ret ls hl
  obtain ⟨hx, hb, hml, hown, hts, hK, hRf, hRl⟩ := B
  have hiX0 : ∀ w ∈ wsX00, w ∈ wsX2_joinFromRight := by decide +kernel
  have hf41 := hts (.fieldLink RX2 41 "ExactFolds$Fold" "size" "I") (by decide +kernel)
  have hl : lv_has ls 4 [(0, .ref h0), (1, .ref g0)] := hl
  refine lv_aload_n hx hb dX2_joinFromRight_0 rfl (lv_at hl 0 rfl) ?_
  refine lv_aload_n hx hb dX2_joinFromRight_1 rfl (lv_at hl 1 rfl) ?_
  refine lv_aload_n hx hb dX2_joinFromRight_2 rfl (lv_at hl 1 rfl) ?_
  refine va_get (D := E.1) (ci := 1) (C := RX0) (T := TX0) (N := 4) hx hb hts hiX0 hown hK.1 hP 3 rfl rfl 3 (by decide) hf41 (fun _ h9 => h9) rfl dX2_joinFromRight_3 ?_
  refine lv_iconst (v := nI 1) hx hb dX2_joinFromRight_6 (by decide) ?_
  refine zn_isub hx hb (by omega) dX2_joinFromRight_7 ?_
  refine zc_i (W.runV ⟨hx, hb, hml, hown, hts⟩ (kX2_firstStep l E h0 a1 a2 b S J w1 w2 w3 w4 hb0 hS0 hJ0 g0 b1 b2 k2 n T2 V hn hO (n - 1) (by omega)) (cwV 2 hts gX2_joinFromRight_X2_firstStep rfl rfl rfl (by decide +kernel) ⟨Nat.le_trans (Nat.le_of_ble_eq_true rfl) hRf, Nat.le_trans (Nat.le_of_ble_eq_true rfl) hRl⟩) (z_preV (As := [.ref g0, .int (nI (n - 1))]) hP hK 0 rfl rfl) rfl rfl hl.1 rfl (lv_room (Nat.le_of_ble_eq_true rfl)) dX2_joinFromRight_8 ⟨Nat.zero_le _, Nat.zero_le _⟩) ?_
  refine lv_istore_n (lv' := [(2, .int (nI (sgl S b V (n - 1)))), (0, .ref h0), (1, .ref g0)]) hx hb dX2_joinFromRight_11 rfl hl (by decide) rfl (fun ls hl => ?_)
  refine lv_aload_n hx hb dX2_joinFromRight_12 rfl (lv_at hl 2 rfl) ?_
  refine va_get (D := E.1) (ci := 1) (C := RX0) (T := TX0) (N := 4) hx hb hts hiX0 hown hK.1 hP 3 rfl rfl 3 (by decide) hf41 (fun _ h9 => h9) rfl dX2_joinFromRight_13 ?_
  refine lv_iconst (v := nI 2) hx hb dX2_joinFromRight_16 (by decide) ?_
  refine lv_isub hx hb dX2_joinFromRight_17 ?_
  refine W.eq (g2 := F0 m 18 ls ([.int (nI (n - 1) - nI 1)])) (by rw [show (nI n) - (nI 2) = nI (n - 1) - nI 1 from by rw [← pk_sub (a := n) (b := 1) (by omega), Int32.sub_sub]; rfl]) ?_
  refine lv_istore_n (lv' := [(3, .int (nI (n - 1) - nI 1)), (2, .int (nI (sgl S b V (n - 1)))), (0, .ref h0), (1, .ref g0)]) hx hb dX2_joinFromRight_18 rfl hl (by decide) rfl (fun ls hl => ?_)
  have lp : ∀ (fu : Nat) (q : Nat) (ls : Array Slot), q < fu → (q ≤ n - 1) → lv_has ls 4 [(0, .ref h0), (1, .ref g0), (2, .int (nI (jrF S J b V n (n - 1 - q)))), (3, .int (nI q - nI 1))] → W p l e R s m args below meth c s.heap [] 0 0 Q (F0 m 19 ls []) := by
    intro fu
    induction fu with
    | zero => intros; exact absurd (by assumption) (Nat.not_lt_zero _)
    | succ fu ihlp =>
      intro q ls hfu hq1 hl
      refine lv_iload_n hx hb dX2_joinFromRight_19 rfl (lv_at hl 3 rfl) ?_
      refine lv_if_lt (tgt := 41) hx hb dX2_joinFromRight_20 (by decide) (fun c_1 => ?_) (fun c_1 => ?_)
      · obtain rfl : q = 0 := by
          rcases Nat.eq_zero_or_pos q with h9 | h9
          · exact h9
          · exact absurd c_1 (by rw [pk_sub h9]; exact nI_pos (by omega))
        refine lv_iload_n hx hb dX2_joinFromRight_41 rfl (lv_at hl 2 rfl) ?_
        exact z_reti (rfl) (ret _ _ dX2_joinFromRight_42)
      · have hq0 : 0 < q := by
          rcases Nat.eq_zero_or_pos q with h9 | h9
          · subst h9; exact absurd (by decide) c_1
          · exact h9
        rw [pk_sub hq0] at hl
        have hlt := jrF_lt b V n hS0 hJ0 (n - 1 - q)
        have hlt2 : sgl S b V (q - 1) < 8 := hS0 _
        have hq : jrF S J b V n (n - 1 - (q - 1)) = J (sgl S b V (q - 1) * 8 + jrF S J b V n (n - 1 - q)) := by rw [show n - 1 - (q - 1) = (n - 1 - q) + 1 by omega]; rw [show jrF S J b V n (n - 1 - q + 1) = J (sgl S b V (n - 1 - (n - 1 - q + 1)) * 8 + jrF S J b V n (n - 1 - q)) from rfl, show n - 1 - (n - 1 - q + 1) = q - 1 by omega]
        refine lv_aload_n hx hb dX2_joinFromRight_23 rfl (lv_at hl 0 rfl) ?_
        refine lv_aload_n hx hb dX2_joinFromRight_24 rfl (lv_at hl 0 rfl) ?_
        refine lv_aload_n hx hb dX2_joinFromRight_25 rfl (lv_at hl 1 rfl) ?_
        refine lv_iload_n hx hb dX2_joinFromRight_26 rfl (lv_at hl 3 rfl) ?_
        refine zc_i (W.runV ⟨hx, hb, hml, hown, hts⟩ (kX2_firstStep l E h0 a1 a2 b S J w1 w2 w3 w4 hb0 hS0 hJ0 g0 b1 b2 k2 n T2 V hn hO (q - 1) (by omega)) (cwV 2 hts gX2_joinFromRight_X2_firstStep rfl rfl rfl (by decide +kernel) ⟨Nat.le_trans (Nat.le_of_ble_eq_true rfl) hRf, Nat.le_trans (Nat.le_of_ble_eq_true rfl) hRl⟩) (z_preV (As := [.ref g0, .int (nI (q - 1))]) hP hK 0 rfl rfl) rfl rfl hl.1 rfl (lv_room (Nat.le_of_ble_eq_true rfl)) dX2_joinFromRight_27 ⟨Nat.zero_le _, Nat.zero_le _⟩) ?_
        refine lv_iload_n hx hb dX2_joinFromRight_30 rfl (lv_at hl 2 rfl) ?_
        refine zc_i (W.runV ⟨hx, hb, hml, hown, hts⟩ (kX2_joinOf l E h0 a1 a2 b S J w1 w2 w3 w4 hb0 hS0 hJ0 (sgl S b V (q - 1)) (jrF S J b V n (n - 1 - q)) (by omega) (by omega)) (cwV 2 hts gX2_joinFromRight_X2_joinOf rfl rfl rfl (by decide +kernel) ⟨Nat.le_trans (Nat.le_of_ble_eq_true rfl) hRf, Nat.le_trans (Nat.le_of_ble_eq_true rfl) hRl⟩) (z_preV (As := [.int (nI (sgl S b V (q - 1))), .int (nI (jrF S J b V n (n - 1 - q)))]) (hP.sub (ws' := [(h0, .inr (3, [.int (nI b), .ref a1, .ref a2, .int w1, .int w2, .int w3, .int w4])), (a1, .inl (E.2.1, 32, .inl (fun j => nI (S j)))), (a2, .inl (E.2.1, 64, .inl (fun j => nI (J j))))]) [0, 1, 2] rfl) hK 0 rfl rfl) rfl rfl hl.1 rfl (lv_room (Nat.le_of_ble_eq_true rfl)) dX2_joinFromRight_31 ⟨Nat.zero_le _, Nat.zero_le _⟩) ?_
        rw [← hq]
        refine lv_istore_n (lv' := [(2, .int (nI (jrF S J b V n (n - 1 - (q - 1))))), (0, .ref h0), (1, .ref g0), (3, .int (nI (q - 1)))]) hx hb dX2_joinFromRight_34 rfl hl (by decide) rfl (fun ls hl => ?_)
        refine lv_iinc (v := nI (q - 1) - nI 1) (lv' := [(3, .int (nI (q - 1) - nI 1)), (2, .int (nI (jrF S J b V n (n - 1 - (q - 1))))), (0, .ref h0), (1, .ref g0)]) hx hb dX2_joinFromRight_35 hl (k := 3) rfl (by rw [show Int32.ofInt (-1) = -1 from by decide, Int32.sub_eq_add_neg]; rfl) (by decide) rfl (fun ls hl => ?_)
        refine lv_goto (tgt := 19) hx hb dX2_joinFromRight_38 (by decide) ?_
        exact ihlp (q - 1) ls (by omega) (by omega) (lv_sub hl [2, 3, 1, 0] rfl)
  exact lp _ (n - 1) ls (Nat.lt_succ_self _) (Nat.le_refl _) (by rw [Nat.sub_self]; exact lv_sub hl [2, 3, 1, 0] rfl)
set_option maxHeartbeats 4000000 in
set_option maxRecDepth 100000 in
theorem kX2_joinHalves (l : Launch) (E : zE) (h0 a1 a2 : Nat) (b : Nat) (S J : Nat → Nat) (w1 w2 w3 w4 : Int32) (hb0 : b < 8) (hS0 : ∀ j, S j < 8) (hJ0 : ∀ j, J j < 8) (g0 b1 b2 : Nat) (k2 : Int32) (n : Nat) (T2 : Nat → Int32) (V : Nat → Int64) (hn : n ≤ 64) (hO : ∀ i, i < n → isOwn (V i)) : ∀ f : Nat, ∀ (p_ n_ d_ : Nat), 1 ≤ n_ → p_ + n_ ≤ n → d_ + f = 8 → Met l yX2_joinHalves wsX2_joinHalves (rmL (f + 3)) (va_Pc [.ref h0, .ref g0, .int (nI p_), .int (nI n_), .int (nI d_)] (zW E [(h0, .inr (3, [.int (nI b), .ref a1, .ref a2, .int w1, .int w2, .int w3, .int w4])), (a1, .inl (E.2.1, 32, .inl (fun j => nI (S j)))), (a2, .inl (E.2.1, 64, .inl (fun j => nI (J j)))), (g0, .inr (1, [.int k2, .ref b1, .ref b2, .int (nI n)])), (b1, .inl (E.2.1, 64, .inl T2)), (b2, .inl (E.2.2.1, 64, .inr (.inl V)))])) (vp_Si (fun r => r = nI (jhF S J b V f p_ n_))) 0 0 (fun _ => False) := by
  intro f
  induction f with
  | zero =>
    intro p_ n_ d_ h1 h2 h3
    refine z_ofRi (cc := cX2_joinHalves) (maxL := 8) (own := RX2) (by decide) rfl rfl (Nat.le_of_ble_eq_true rfl) ?_
    intro p e s m args below meth c R Q B hP ret ls hl
    obtain ⟨hx, hb, hml, hown, hts, hK, hRf, hRl⟩ := B
    have hl : lv_has ls 8 [(0, .ref h0), (1, .ref g0), (2, .int (nI p_)), (3, .int (nI n_)), (4, .int (nI d_))] := hl
    refine lv_iload_n hx hb dX2_joinHalves_0 rfl (lv_at hl 3 rfl) ?_
    refine lv_iconst (v := nI 1) hx hb dX2_joinHalves_1 (by decide) ?_
    refine zn_icmp_le (tgt := 12) hx hb dX2_joinHalves_2 (by decide) (by omega) (by omega) (fun c_1 => ?_) (fun c_1 => ?_)
    · refine lv_aload_n hx hb dX2_joinHalves_12 rfl (lv_at hl 0 rfl) ?_
      refine lv_aload_n hx hb dX2_joinHalves_13 rfl (lv_at hl 1 rfl) ?_
      refine lv_iload_n hx hb dX2_joinHalves_14 rfl (lv_at hl 2 rfl) ?_
      refine zc_i (W.runV ⟨hx, hb, hml, hown, hts⟩ (kX2_firstStep l E h0 a1 a2 b S J w1 w2 w3 w4 hb0 hS0 hJ0 g0 b1 b2 k2 n T2 V hn hO p_ (by omega)) (cwV 2 hts gX2_joinHalves_X2_firstStep rfl rfl rfl (by decide +kernel) ⟨by simp only [rmL] at hRf ⊢; omega, by simp only [rmL] at hRl ⊢; omega⟩) (z_preV (As := [.ref g0, .int (nI p_)]) hP hK 0 rfl rfl) rfl rfl hl.1 rfl (lv_room (Nat.le_of_ble_eq_true rfl)) dX2_joinHalves_15 ⟨Nat.zero_le _, Nat.zero_le _⟩) ?_
      exact z_reti (rfl) (ret _ _ dX2_joinHalves_18)
    · refine lv_iload hx hb dX2_joinHalves_5 (lv_at hl 4 rfl) ?_
      refine lv_bipush (v := nI 8) hx hb dX2_joinHalves_7 (by decide) ?_
      refine zn_icmp_lt (tgt := 19) hx hb dX2_joinHalves_9 (by decide) (by omega) (by omega) (fun c_2 => ?_) (fun c_2 => ?_)
      · exact absurd c_2 (by omega)
      · refine lv_aload_n hx hb dX2_joinHalves_12 rfl (lv_at hl 0 rfl) ?_
        refine lv_aload_n hx hb dX2_joinHalves_13 rfl (lv_at hl 1 rfl) ?_
        refine lv_iload_n hx hb dX2_joinHalves_14 rfl (lv_at hl 2 rfl) ?_
        refine zc_i (W.runV ⟨hx, hb, hml, hown, hts⟩ (kX2_firstStep l E h0 a1 a2 b S J w1 w2 w3 w4 hb0 hS0 hJ0 g0 b1 b2 k2 n T2 V hn hO p_ (by omega)) (cwV 2 hts gX2_joinHalves_X2_firstStep rfl rfl rfl (by decide +kernel) ⟨by simp only [rmL] at hRf ⊢; omega, by simp only [rmL] at hRl ⊢; omega⟩) (z_preV (As := [.ref g0, .int (nI p_)]) hP hK 0 rfl rfl) rfl rfl hl.1 rfl (lv_room (Nat.le_of_ble_eq_true rfl)) dX2_joinHalves_15 ⟨Nat.zero_le _, Nat.zero_le _⟩) ?_
        exact z_reti (rfl) (ret _ _ dX2_joinHalves_18)
  | succ f ih =>
    intro p_ n_ d_ h1 h2 h3
    refine z_ofRi (cc := cX2_joinHalves) (maxL := 8) (own := RX2) (by decide) rfl rfl (Nat.le_of_ble_eq_true rfl) ?_
    intro p e s m args below meth c R Q B hP ret ls hl
    obtain ⟨hx, hb, hml, hown, hts, hK, hRf, hRl⟩ := B
    have hl : lv_has ls 8 [(0, .ref h0), (1, .ref g0), (2, .int (nI p_)), (3, .int (nI n_)), (4, .int (nI d_))] := hl
    refine lv_iload_n hx hb dX2_joinHalves_0 rfl (lv_at hl 3 rfl) ?_
    refine lv_iconst (v := nI 1) hx hb dX2_joinHalves_1 (by decide) ?_
    refine zn_icmp_le (tgt := 12) hx hb dX2_joinHalves_2 (by decide) (by omega) (by omega) (fun c_1 => ?_) (fun c_1 => ?_)
    · refine lv_aload_n hx hb dX2_joinHalves_12 rfl (lv_at hl 0 rfl) ?_
      refine lv_aload_n hx hb dX2_joinHalves_13 rfl (lv_at hl 1 rfl) ?_
      refine lv_iload_n hx hb dX2_joinHalves_14 rfl (lv_at hl 2 rfl) ?_
      refine zc_i (W.runV ⟨hx, hb, hml, hown, hts⟩ (kX2_firstStep l E h0 a1 a2 b S J w1 w2 w3 w4 hb0 hS0 hJ0 g0 b1 b2 k2 n T2 V hn hO p_ (by omega)) (cwV 2 hts gX2_joinHalves_X2_firstStep rfl rfl rfl (by decide +kernel) ⟨by simp only [rmL] at hRf ⊢; omega, by simp only [rmL] at hRl ⊢; omega⟩) (z_preV (As := [.ref g0, .int (nI p_)]) hP hK 0 rfl rfl) rfl rfl hl.1 rfl (lv_room (Nat.le_of_ble_eq_true rfl)) dX2_joinHalves_15 ⟨Nat.zero_le _, Nat.zero_le _⟩) ?_
      exact z_reti (by unfold jhF; rw [if_pos c_1]) (ret _ _ dX2_joinHalves_18)
    · have hlt1 := jhF_lt b V hS0 hJ0 f p_ (n_ / 2)
      have hlt2 := jhF_lt b V hS0 hJ0 f (p_ + n_ / 2) (n_ - n_ / 2)
      refine lv_iload hx hb dX2_joinHalves_5 (lv_at hl 4 rfl) ?_
      refine lv_bipush (v := nI 8) hx hb dX2_joinHalves_7 (by decide) ?_
      refine zn_icmp_lt (tgt := 19) hx hb dX2_joinHalves_9 (by decide) (by omega) (by omega) (fun c_2 => ?_) (fun c_2 => ?_)
      · refine lv_iload_n hx hb dX2_joinHalves_19 rfl (lv_at hl 3 rfl) ?_
        refine lv_iconst (v := nI 2) hx hb dX2_joinHalves_20 (by decide) ?_
        refine zn_idiv hx hb (by omega) (by omega) (by omega) dX2_joinHalves_21 ?_
        refine lv_istore (lv' := [(5, .int (nI (n_ / 2))), (0, .ref h0), (1, .ref g0), (2, .int (nI p_)), (3, .int (nI n_)), (4, .int (nI d_))]) hx hb dX2_joinHalves_22 hl (by decide) rfl (fun ls hl => ?_)
        refine lv_aload_n hx hb dX2_joinHalves_24 rfl (lv_at hl 1 rfl) ?_
        refine lv_aload_n hx hb dX2_joinHalves_25 rfl (lv_at hl 2 rfl) ?_
        refine lv_iload_n hx hb dX2_joinHalves_26 rfl (lv_at hl 3 rfl) ?_
        refine lv_iload hx hb dX2_joinHalves_27 (lv_at hl 0 rfl) ?_
        refine lv_iload hx hb dX2_joinHalves_29 (lv_at hl 5 rfl) ?_
        refine lv_iconst (v := nI 1) hx hb dX2_joinHalves_31 (by decide) ?_
        refine zn_iadd hx hb dX2_joinHalves_32 ?_
        refine zc_i (W.runV ⟨hx, hb, hml, hown, hts⟩ (ih p_ (n_ / 2) (d_ + 1) (by omega) (by omega) (by omega)) (cwV 4 hts gX2_joinHalves_X2_joinHalves rfl rfl rfl (by decide +kernel) ⟨by simp only [rmL] at hRf ⊢; omega, by simp only [rmL] at hRl ⊢; omega⟩) (z_preV (As := [.ref g0, .int (nI p_), .int (nI (n_ / 2)), .int (nI (d_ + 1))]) hP hK 0 rfl rfl) rfl rfl hl.1 rfl (lv_room (Nat.le_of_ble_eq_true rfl)) dX2_joinHalves_33 ⟨Nat.zero_le _, Nat.zero_le _⟩) ?_
        refine lv_istore (lv' := [(6, .int (nI (jhF S J b V f p_ (n_ / 2)))), (5, .int (nI (n_ / 2))), (0, .ref h0), (1, .ref g0), (2, .int (nI p_)), (3, .int (nI n_)), (4, .int (nI d_))]) hx hb dX2_joinHalves_36 hl (by decide) rfl (fun ls hl => ?_)
        refine lv_aload_n hx hb dX2_joinHalves_38 rfl (lv_at hl 2 rfl) ?_
        refine lv_aload_n hx hb dX2_joinHalves_39 rfl (lv_at hl 3 rfl) ?_
        refine lv_iload_n hx hb dX2_joinHalves_40 rfl (lv_at hl 4 rfl) ?_
        refine lv_iload hx hb dX2_joinHalves_41 (lv_at hl 1 rfl) ?_
        refine zn_iadd hx hb dX2_joinHalves_43 ?_
        refine lv_iload_n hx hb dX2_joinHalves_44 rfl (lv_at hl 5 rfl) ?_
        refine lv_iload hx hb dX2_joinHalves_45 (lv_at hl 1 rfl) ?_
        refine zn_isub hx hb (by omega) dX2_joinHalves_47 ?_
        refine lv_iload hx hb dX2_joinHalves_48 (lv_at hl 6 rfl) ?_
        refine lv_iconst (v := nI 1) hx hb dX2_joinHalves_50 (by decide) ?_
        refine zn_iadd hx hb dX2_joinHalves_51 ?_
        refine zc_i (W.runV ⟨hx, hb, hml, hown, hts⟩ (ih (p_ + (n_ / 2)) (n_ - (n_ / 2)) (d_ + 1) (by omega) (by omega) (by omega)) (cwV 4 hts gX2_joinHalves_X2_joinHalves rfl rfl rfl (by decide +kernel) ⟨by simp only [rmL] at hRf ⊢; omega, by simp only [rmL] at hRl ⊢; omega⟩) (z_preV (As := [.ref g0, .int (nI (p_ + (n_ / 2))), .int (nI (n_ - (n_ / 2))), .int (nI (d_ + 1))]) hP hK 0 rfl rfl) rfl rfl hl.1 rfl (lv_room (Nat.le_of_ble_eq_true rfl)) dX2_joinHalves_52 ⟨Nat.zero_le _, Nat.zero_le _⟩) ?_
        refine lv_istore (lv' := [(7, .int (nI (jhF S J b V f (p_ + (n_ / 2)) (n_ - (n_ / 2))))), (6, .int (nI (jhF S J b V f p_ (n_ / 2)))), (5, .int (nI (n_ / 2))), (0, .ref h0), (1, .ref g0), (2, .int (nI p_)), (3, .int (nI n_)), (4, .int (nI d_))]) hx hb dX2_joinHalves_55 hl (by decide) rfl (fun ls hl => ?_)
        refine lv_aload_n hx hb dX2_joinHalves_57 rfl (lv_at hl 3 rfl) ?_
        refine lv_iload hx hb dX2_joinHalves_58 (lv_at hl 1 rfl) ?_
        refine lv_iload hx hb dX2_joinHalves_60 (lv_at hl 0 rfl) ?_
        refine zc_i (W.runV ⟨hx, hb, hml, hown, hts⟩ (kX2_joinOf l E h0 a1 a2 b S J w1 w2 w3 w4 hb0 hS0 hJ0 (jhF S J b V f p_ (n_ / 2)) (jhF S J b V f (p_ + (n_ / 2)) (n_ - (n_ / 2))) (by omega) (by omega)) (cwV 2 hts gX2_joinHalves_X2_joinOf rfl rfl rfl (by decide +kernel) ⟨by simp only [rmL] at hRf ⊢; omega, by simp only [rmL] at hRl ⊢; omega⟩) (z_preV (As := [.int (nI (jhF S J b V f p_ (n_ / 2))), .int (nI (jhF S J b V f (p_ + (n_ / 2)) (n_ - (n_ / 2))))]) (hP.sub (ws' := [(h0, .inr (3, [.int (nI b), .ref a1, .ref a2, .int w1, .int w2, .int w3, .int w4])), (a1, .inl (E.2.1, 32, .inl (fun j => nI (S j)))), (a2, .inl (E.2.1, 64, .inl (fun j => nI (J j))))]) [0, 1, 2] rfl) hK 0 rfl rfl) rfl rfl hl.1 rfl (lv_room (Nat.le_of_ble_eq_true rfl)) dX2_joinHalves_62 ⟨Nat.zero_le _, Nat.zero_le _⟩) ?_
        exact z_reti (congrArg nI (jh_step (by omega))) (ret _ _ dX2_joinHalves_65)
      · exact absurd c_2 (by omega)
set_option maxHeartbeats 4000000 in
set_option maxRecDepth 100000 in
theorem kX2_joinAll (l : Launch) (E : zE) (h0 a1 a2 : Nat) (b : Nat) (S J : Nat → Nat) (w1 w2 w3 w4 : Int32) (hb0 : b < 8) (hS0 : ∀ j, S j < 8) (hJ0 : ∀ j, J j < 8) (g0 b1 b2 : Nat) (k2 : Int32) (n : Nat) (T2 : Nat → Int32) (V : Nat → Int64) (hn : n ≤ 64) (hO : ∀ i, i < n → isOwn (V i)) (way : Int32) : Met l yX2_joinAll wsX2_joinAll (rmL 12) (va_Pc [.ref h0, .ref g0, .int way] (zW E [(h0, .inr (3, [.int (nI b), .ref a1, .ref a2, .int w1, .int w2, .int w3, .int w4])), (a1, .inl (E.2.1, 32, .inl (fun j => nI (S j)))), (a2, .inl (E.2.1, 64, .inl (fun j => nI (J j)))), (g0, .inr (1, [.int k2, .ref b1, .ref b2, .int (nI n)])), (b1, .inl (E.2.1, 64, .inl T2)), (b2, .inl (E.2.2.1, 64, .inr (.inl V)))])) (vp_Si (fun r9 => r9 = nI (joinF S J b V n way))) 0 0 (fun _ => False) := by
  refine z_ofRi (cc := cX2_joinAll) (maxL := 3) (own := RX2) (by decide) rfl rfl (Nat.le_of_ble_eq_true rfl) ?_
  intro p e s m args below meth c R Q B hP ret ls hl
  obtain ⟨hx, hb, hml, hown, hts, hK, hRf, hRl⟩ := B
  have hiX0 : ∀ w ∈ wsX00, w ∈ wsX2_joinAll := by decide +kernel
  have hiX2 : ∀ w ∈ wsX20, w ∈ wsX2_joinAll := by decide +kernel
  have hf9 := hts (.fieldLink RX2 9 "ExactFolds$Tables" "startState" "I") (by decide +kernel)
  have hf41 := hts (.fieldLink RX2 41 "ExactFolds$Fold" "size" "I") (by decide +kernel)
  have hl : lv_has ls 3 [(0, .ref h0), (1, .ref g0), (2, .int way)] := hl
  refine lv_aload_n hx hb dX2_joinAll_0 rfl (lv_at hl 1 rfl) ?_
  refine va_get (D := E.1) (ci := 1) (C := RX0) (T := TX0) (N := 4) hx hb hts hiX0 hown hK.1 hP 3 rfl rfl 3 (by decide) hf41 (fun _ h9 => h9) rfl dX2_joinAll_1 ?_
  refine zn_if_ne (tgt := 12) hx hb dX2_joinAll_4 (by decide) (by omega) (fun c_1 => ?_) (fun c_1 => ?_)
  · refine lv_iload_n hx hb dX2_joinAll_12 rfl (lv_at hl 2 rfl) ?_
    refine lv_if_ne (tgt := 28) hx hb dX2_joinAll_13 (by decide) (fun c_2 => ?_) (fun c_2 => ?_)
    · refine lv_iload_n hx hb dX2_joinAll_28 rfl (lv_at hl 2 rfl) ?_
      refine lv_iconst (v := nI 1) hx hb dX2_joinAll_29 (by decide) ?_
      refine lv_icmp_ne (tgt := 41) hx hb dX2_joinAll_30 (by decide) (fun c_3 => ?_) (fun c_3 => ?_)
      · refine lv_aload_n hx hb dX2_joinAll_41 rfl (lv_at hl 0 rfl) ?_
        refine lv_aload_n hx hb dX2_joinAll_42 rfl (lv_at hl 1 rfl) ?_
        refine zc_i (W.runV ⟨hx, hb, hml, hown, hts⟩ (kX2_joinFromRight l E h0 a1 a2 b S J w1 w2 w3 w4 hb0 hS0 hJ0 g0 b1 b2 k2 n T2 V hn hO (by omega)) (cwV 1 hts gX2_joinAll_X2_joinFromRight rfl rfl rfl (by decide +kernel) ⟨Nat.le_trans (Nat.le_of_ble_eq_true rfl) hRf, Nat.le_trans (Nat.le_of_ble_eq_true rfl) hRl⟩) (z_preV (As := [.ref g0]) hP hK 0 rfl rfl) rfl rfl hl.1 rfl (lv_room (Nat.le_of_ble_eq_true rfl)) dX2_joinAll_43 ⟨Nat.zero_le _, Nat.zero_le _⟩) ?_
        exact z_reti (by unfold joinF; rw [if_neg c_1, if_neg c_2, if_neg c_3]) (ret _ _ dX2_joinAll_46)
      · refine lv_aload_n hx hb dX2_joinAll_33 rfl (lv_at hl 0 rfl) ?_
        refine lv_aload_n hx hb dX2_joinAll_34 rfl (lv_at hl 1 rfl) ?_
        refine zc_i (W.runV ⟨hx, hb, hml, hown, hts⟩ (kX2_joinFromLeft l E h0 a1 a2 b S J w1 w2 w3 w4 hb0 hS0 hJ0 g0 b1 b2 k2 n T2 V hn hO (by omega)) (cwV 1 hts gX2_joinAll_X2_joinFromLeft rfl rfl rfl (by decide +kernel) ⟨Nat.le_trans (Nat.le_of_ble_eq_true rfl) hRf, Nat.le_trans (Nat.le_of_ble_eq_true rfl) hRl⟩) (z_preV (As := [.ref g0]) hP hK 0 rfl rfl) rfl rfl hl.1 rfl (lv_room (Nat.le_of_ble_eq_true rfl)) dX2_joinAll_35 ⟨Nat.zero_le _, Nat.zero_le _⟩) ?_
        refine lv_goto (tgt := 46) hx hb dX2_joinAll_38 (by decide) ?_
        exact z_reti (by unfold joinF; rw [if_neg c_1, if_neg c_2, if_pos c_3]) (ret _ _ dX2_joinAll_46)
    · refine lv_aload_n hx hb dX2_joinAll_16 rfl (lv_at hl 0 rfl) ?_
      refine lv_aload_n hx hb dX2_joinAll_17 rfl (lv_at hl 1 rfl) ?_
      refine lv_iconst (v := nI 0) hx hb dX2_joinAll_18 (by decide) ?_
      refine lv_aload_n hx hb dX2_joinAll_19 rfl (lv_at hl 1 rfl) ?_
      refine va_get (D := E.1) (ci := 1) (C := RX0) (T := TX0) (N := 4) hx hb hts hiX0 hown hK.1 hP 3 rfl rfl 3 (by decide) hf41 (fun _ h9 => h9) rfl dX2_joinAll_20 ?_
      refine lv_iconst (v := nI 0) hx hb dX2_joinAll_23 (by decide) ?_
      refine zc_i (W.runV ⟨hx, hb, hml, hown, hts⟩ (kX2_joinHalves l E h0 a1 a2 b S J w1 w2 w3 w4 hb0 hS0 hJ0 g0 b1 b2 k2 n T2 V hn hO 8 0 n 0 (by omega) (by omega) (by omega)) (cwV 4 hts gX2_joinAll_X2_joinHalves rfl rfl rfl (by decide +kernel) ⟨Nat.le_trans (Nat.le_of_ble_eq_true rfl) hRf, Nat.le_trans (Nat.le_of_ble_eq_true rfl) hRl⟩) (z_preV (As := [.ref g0, .int (nI 0), .int (nI n), .int (nI 0)]) hP hK 0 rfl rfl) rfl rfl hl.1 rfl (lv_room (Nat.le_of_ble_eq_true rfl)) dX2_joinAll_24 ⟨Nat.zero_le _, Nat.zero_le _⟩) ?_
      exact z_reti (by unfold joinF; rw [if_neg c_1, if_pos c_2]) (ret _ _ dX2_joinAll_27)
  · refine lv_aload_n hx hb dX2_joinAll_7 rfl (lv_at hl 0 rfl) ?_
    refine va_get (D := E.1) (ci := 3) (C := RX2) (T := TX2) (N := 7) hx hb hts hiX2 hown hK.1 hP 0 rfl rfl 0 (by decide) hf9 (fun _ h9 => h9) rfl dX2_joinAll_8 ?_
    exact z_reti (by unfold joinF; rw [if_pos c_1]) (ret _ _ dX2_joinAll_11)
set_option maxHeartbeats 4000000 in
set_option maxRecDepth 100000 in
theorem kX2_keepWrong (l : Launch) (E : zE) (sz : Nat) (h0 a1 a2 : Nat) (b : Nat) (S J : Nat → Nat) (w1 w2 w3 w4 : Int32) (hb0 : b < 8) (hS0 : ∀ j, S j < 8) (hJ0 : ∀ j, J j < 8) (x1 x2 x3 x4 : Int32) : Met l yX2_keepWrong wsX2_keepWrong (rmL 0) (va_Pc [.ref h0, .int x1, .int x2, .int x3, .int x4] (zS E [(h0, .inr (3, [.int (nI b), .ref a1, .ref a2, .int w1, .int w2, .int w3, .int w4])), (a1, .inl (E.2.1, 32, .inl (fun j => nI (S j)))), (a2, .inl (E.2.1, 64, .inl (fun j => nI (J j))))] sz)) (va_Qv (fun (_ : Unit) => True) (fun _ t9 => zW E [(h0, .inr (3, [.int (nI b), .ref a1, .ref a2, .int x1, .int x2, .int x3, .int x4])), (a1, .inl (E.2.1, 32, .inl (fun j => nI (S j)))), (a2, .inl (E.2.1, 64, .inl (fun j => nI (J j))))] t9) (va_A [(h0, .inr (3, [.int (nI b), .ref a1, .ref a2, .int w1, .int w2, .int w3, .int w4])), (a1, .inl (E.2.1, 32, .inl (fun j => nI (S j)))), (a2, .inl (E.2.1, 64, .inl (fun j => nI (J j))))] sz)) 0 0 (va_A [(h0, .inr (3, [.int (nI b), .ref a1, .ref a2, .int w1, .int w2, .int w3, .int w4])), (a1, .inl (E.2.1, 32, .inl (fun j => nI (S j)))), (a2, .inl (E.2.1, 64, .inl (fun j => nI (J j))))] sz) := by
  refine z_ofWv (cc := cX2_keepWrong) (maxL := 5) (own := RX2) (by decide) rfl rfl (Nat.le_of_ble_eq_true rfl) ?_
  intro p e s m args below meth c R Q A B hP hD hA ret ls hl
  obtain ⟨hx, hb, hml, hown, hts, hK, hRf, hRl⟩ := B
  have hiX2 : ∀ w ∈ wsX20, w ∈ wsX2_keepWrong := by decide +kernel
  have hf22 := hts (.fieldLink RX2 22 "ExactFolds$Tables" "wrongRule" "I") (by decide +kernel)
  have hf25 := hts (.fieldLink RX2 25 "ExactFolds$Tables" "wrongS" "I") (by decide +kernel)
  have hf28 := hts (.fieldLink RX2 28 "ExactFolds$Tables" "wrongT" "I") (by decide +kernel)
  have hf31 := hts (.fieldLink RX2 31 "ExactFolds$Tables" "wrongV" "I") (by decide +kernel)
  have hS : va_S A s.heap s.heap [] := va_S.rf
  have hl : lv_has ls 5 [(0, .ref h0), (1, .int x1), (2, .int x2), (3, .int x3), (4, .int x4)] := hl
  refine lv_aload_n hx hb dX2_keepWrong_0 rfl (lv_at hl 0 rfl) ?_
  refine lv_iload_n hx hb dX2_keepWrong_1 rfl (lv_at hl 1 rfl) ?_
  refine va_put (D := E.1) (ci := 3) (v := .int x1) (ty := .int) (C := RX2) (T := TX2) (N := 7) hx hb hts hiX2 tyX2 tyX2_ok nmX2 hown hK.1 hP hD hS 0 rfl rfl 3 (by decide) hf22 (fun _ h9 => h9) rfl (by decide +kernel) rfl rfl (Nat.le_of_ble_eq_true rfl) dX2_keepWrong_2 (fun H locs hP hD hS => ?_)
  have hP : va_P E.1 vwCl [(h0, .inr (3, [.int (nI b), .ref a1, .ref a2, .int x1, .int w2, .int w3, .int w4])), (a1, .inl (E.2.1, 32, .inl (fun j => nI (S j)))), (a2, .inl (E.2.1, 64, .inl (fun j => nI (J j))))] H := hP
  have hD : va_D A [(h0, .inr (3, [.int (nI b), .ref a1, .ref a2, .int x1, .int w2, .int w3, .int w4])), (a1, .inl (E.2.1, 32, .inl (fun j => nI (S j)))), (a2, .inl (E.2.1, 64, .inl (fun j => nI (J j))))] := hD
  refine lv_aload_n hx hb dX2_keepWrong_5 rfl (lv_at hl 0 rfl) ?_
  refine lv_iload_n hx hb dX2_keepWrong_6 rfl (lv_at hl 2 rfl) ?_
  refine va_put (D := E.1) (ci := 3) (v := .int x2) (ty := .int) (C := RX2) (T := TX2) (N := 7) hx hb hts hiX2 tyX2 tyX2_ok nmX2 hown hK.1 hP hD hS 0 rfl rfl 4 (by decide) hf25 (fun _ h9 => h9) rfl (by decide +kernel) rfl rfl (Nat.le_of_ble_eq_true rfl) dX2_keepWrong_7 (fun H locs hP hD hS => ?_)
  have hP : va_P E.1 vwCl [(h0, .inr (3, [.int (nI b), .ref a1, .ref a2, .int x1, .int x2, .int w3, .int w4])), (a1, .inl (E.2.1, 32, .inl (fun j => nI (S j)))), (a2, .inl (E.2.1, 64, .inl (fun j => nI (J j))))] H := hP
  have hD : va_D A [(h0, .inr (3, [.int (nI b), .ref a1, .ref a2, .int x1, .int x2, .int w3, .int w4])), (a1, .inl (E.2.1, 32, .inl (fun j => nI (S j)))), (a2, .inl (E.2.1, 64, .inl (fun j => nI (J j))))] := hD
  refine lv_aload_n hx hb dX2_keepWrong_10 rfl (lv_at hl 0 rfl) ?_
  refine lv_iload_n hx hb dX2_keepWrong_11 rfl (lv_at hl 3 rfl) ?_
  refine va_put (D := E.1) (ci := 3) (v := .int x3) (ty := .int) (C := RX2) (T := TX2) (N := 7) hx hb hts hiX2 tyX2 tyX2_ok nmX2 hown hK.1 hP hD hS 0 rfl rfl 5 (by decide) hf28 (fun _ h9 => h9) rfl (by decide +kernel) rfl rfl (Nat.le_of_ble_eq_true rfl) dX2_keepWrong_12 (fun H locs hP hD hS => ?_)
  have hP : va_P E.1 vwCl [(h0, .inr (3, [.int (nI b), .ref a1, .ref a2, .int x1, .int x2, .int x3, .int w4])), (a1, .inl (E.2.1, 32, .inl (fun j => nI (S j)))), (a2, .inl (E.2.1, 64, .inl (fun j => nI (J j))))] H := hP
  have hD : va_D A [(h0, .inr (3, [.int (nI b), .ref a1, .ref a2, .int x1, .int x2, .int x3, .int w4])), (a1, .inl (E.2.1, 32, .inl (fun j => nI (S j)))), (a2, .inl (E.2.1, 64, .inl (fun j => nI (J j))))] := hD
  refine lv_aload_n hx hb dX2_keepWrong_15 rfl (lv_at hl 0 rfl) ?_
  refine lv_iload hx hb dX2_keepWrong_16 (lv_at hl 4 rfl) ?_
  refine va_put (D := E.1) (ci := 3) (v := .int x4) (ty := .int) (C := RX2) (T := TX2) (N := 7) hx hb hts hiX2 tyX2 tyX2_ok nmX2 hown hK.1 hP hD hS 0 rfl rfl 6 (by decide) hf31 (fun _ h9 => h9) rfl (by decide +kernel) rfl rfl (Nat.le_of_ble_eq_true rfl) dX2_keepWrong_18 (fun H locs hP hD hS => ?_)
  have hP : va_P E.1 vwCl [(h0, .inr (3, [.int (nI b), .ref a1, .ref a2, .int x1, .int x2, .int x3, .int x4])), (a1, .inl (E.2.1, 32, .inl (fun j => nI (S j)))), (a2, .inl (E.2.1, 64, .inl (fun j => nI (J j))))] H := hP
  have hD : va_D A [(h0, .inr (3, [.int (nI b), .ref a1, .ref a2, .int x1, .int x2, .int x3, .int x4])), (a1, .inl (E.2.1, 32, .inl (fun j => nI (S j)))), (a2, .inl (E.2.1, 64, .inl (fun j => nI (J j))))] := hD
  exact ret _ _ _ _ (hP) hS dX2_keepWrong_21
set_option maxHeartbeats 4000000 in
set_option maxRecDepth 100000 in
theorem kX2_holds (l : Launch) (E : zE) (m_ : Int32) (s_ : Nat) : Met l yX2_holds wsX2_holds (rmL 0) (va_Pc [.int m_, .int (nI s_)] (zW E [])) (vp_Si (fun r9 => r9 = bI (hold m_ s_))) 0 0 (fun _ => False) := by
  refine z_ofRz (cc := cX2_holds) (maxL := 2) (own := RX2) (by decide) rfl rfl (Nat.le_of_ble_eq_true rfl) ?_
  intro p e s m args below meth c R Q B hP ret ls hl
  obtain ⟨hx, hb, hml, hown, hts, hK, hRf, hRl⟩ := B
  have hl : lv_has ls 2 [(0, .int m_), (1, .int (nI s_))] := hl
  refine lv_iload_n hx hb dX2_holds_0 rfl (lv_at hl 0 rfl) ?_
  refine lv_iload_n hx hb dX2_holds_1 rfl (lv_at hl 1 rfl) ?_
  refine lv_ishr hx hb dX2_holds_2 ?_
  refine lv_iconst (v := nI 1) hx hb dX2_holds_3 (by decide) ?_
  refine lv_iand hx hb dX2_holds_4 ?_
  refine lv_if_eq (tgt := 12) hx hb dX2_holds_5 (by decide) (fun c_1 => ?_) (fun c_1 => ?_)
  · refine lv_iconst (v := nI 0) hx hb dX2_holds_12 (by decide) ?_
    exact z_reti (by rw [show hold m_ s_ = false from by unfold hold; simp [c_1]]; rfl) (ret _ _ dX2_holds_13)
  · refine lv_iconst (v := nI 1) hx hb dX2_holds_8 (by decide) ?_
    refine lv_goto (tgt := 13) hx hb dX2_holds_9 (by decide) ?_
    exact z_reti (by rw [show hold m_ s_ = true from by unfold hold; simp [c_1]]; rfl) (ret _ _ dX2_holds_13)
set_option maxHeartbeats 4000000 in
set_option maxRecDepth 100000 in
theorem kX2_stepsFrom (l : Launch) (E : zE) (h0 a1 a2 : Nat) (b : Nat) (S J : Nat → Nat) (w1 w2 w3 w4 : Int32) (hb0 : b < 8) (hS0 : ∀ j, S j < 8) (hJ0 : ∀ j, J j < 8) (s_ : Nat) (hs : s_ < 8) : Met l yX2_stepsFrom wsX2_stepsFrom (rmL 2) (va_Pc [.ref h0, .int (nI s_)] (zW E [(h0, .inr (3, [.int (nI b), .ref a1, .ref a2, .int w1, .int w2, .int w3, .int w4])), (a1, .inl (E.2.1, 32, .inl (fun j => nI (S j)))), (a2, .inl (E.2.1, 64, .inl (fun j => nI (J j))))])) (vp_Si (fun r9 => r9 = sfr S s_ 4)) 0 0 (fun _ => False) := by
  refine z_ofRi (cc := cX2_stepsFrom) (maxL := 4) (own := RX2) (by decide) rfl rfl (Nat.le_of_ble_eq_true rfl) ?_
  intro p e s m args below meth c R Q B hP ret ls hl
  obtain ⟨hx, hb, hml, hown, hts, hK, hRf, hRl⟩ := B
  have hl : lv_has ls 4 [(0, .ref h0), (1, .int (nI s_))] := hl
  refine lv_iconst (v := nI 0) hx hb dX2_stepsFrom_0 (by decide) ?_
  refine lv_istore_n (lv' := [(2, .int (nI 0)), (0, .ref h0), (1, .int (nI s_))]) hx hb dX2_stepsFrom_1 rfl hl (by decide) rfl (fun ls hl => ?_)
  refine lv_iconst (v := nI 0) hx hb dX2_stepsFrom_2 (by decide) ?_
  refine lv_istore_n (lv' := [(3, .int (nI 0)), (2, .int (nI 0)), (0, .ref h0), (1, .int (nI s_))]) hx hb dX2_stepsFrom_3 rfl hl (by decide) rfl (fun ls hl => ?_)
  have lp : ∀ (fu : Nat) (i : Nat) (ls : Array Slot), 4 - i < fu → (i ≤ 4) → lv_has ls 4 [(0, .ref h0), (1, .int (nI s_)), (2, .int (sfr S s_ i)), (3, .int (nI i))] → W p l e R s m args below meth c s.heap [] 0 0 Q (F0 m 4 ls []) := by
    intro fu
    induction fu with
    | zero => intros; exact absurd (by assumption) (Nat.not_lt_zero _)
    | succ fu ihlp =>
      intro i ls hfu hi hl
      refine lv_iload_n hx hb dX2_stepsFrom_4 rfl (lv_at hl 3 rfl) ?_
      refine lv_iconst (v := nI 4) hx hb dX2_stepsFrom_5 (by decide) ?_
      refine zn_icmp_ge (tgt := 26) hx hb dX2_stepsFrom_6 (by decide) (by omega) (by omega) (fun c_1 => ?_) (fun c_1 => ?_)
      · obtain rfl : i = 4 := by omega
        refine lv_iload_n hx hb dX2_stepsFrom_26 rfl (lv_at hl 2 rfl) ?_
        exact z_reti (rfl) (ret _ _ dX2_stepsFrom_27)
      · refine lv_iload_n hx hb dX2_stepsFrom_9 rfl (lv_at hl 2 rfl) ?_
        refine lv_iconst (v := nI 1) hx hb dX2_stepsFrom_10 (by decide) ?_
        refine lv_aload_n hx hb dX2_stepsFrom_11 rfl (lv_at hl 0 rfl) ?_
        refine lv_iload_n hx hb dX2_stepsFrom_12 rfl (lv_at hl 1 rfl) ?_
        refine lv_iload_n hx hb dX2_stepsFrom_13 rfl (lv_at hl 3 rfl) ?_
        refine zc_i (W.runV ⟨hx, hb, hml, hown, hts⟩ (kX2_stepOf l E h0 a1 a2 b S J w1 w2 w3 w4 hb0 hS0 hJ0 s_ i (by omega) (by omega)) (cwV 2 hts gX2_stepsFrom_X2_stepOf rfl rfl rfl (by decide +kernel) ⟨Nat.le_trans (Nat.le_of_ble_eq_true rfl) hRf, Nat.le_trans (Nat.le_of_ble_eq_true rfl) hRl⟩) (z_preV (As := [.int (nI s_), .int (nI i)]) hP hK 0 rfl rfl) rfl rfl hl.1 rfl (lv_room (Nat.le_of_ble_eq_true rfl)) dX2_stepsFrom_14 ⟨Nat.zero_le _, Nat.zero_le _⟩) ?_
        refine lv_ishl hx hb dX2_stepsFrom_17 ?_
        refine lv_ior hx hb dX2_stepsFrom_18 ?_
        refine lv_istore_n (lv' := [(2, .int ((sfr S s_ i) ||| ((nI 1) <<< ((nI (S (s_ * 4 + i))) &&& 31)))), (0, .ref h0), (1, .int (nI s_)), (3, .int (nI i))]) hx hb dX2_stepsFrom_19 rfl hl (by decide) rfl (fun ls hl => ?_)
        refine lv_iinc (v := nI (i + 1)) (lv' := [(3, .int (nI (i + 1))), (2, .int ((sfr S s_ i) ||| ((nI 1) <<< ((nI (S (s_ * 4 + i))) &&& 31)))), (0, .ref h0), (1, .int (nI s_))]) hx hb dX2_stepsFrom_20 hl (k := 3) rfl (z_inc _ 1) (by decide) rfl (fun ls hl => ?_)
        refine lv_goto (tgt := 4) hx hb dX2_stepsFrom_23 (by decide) ?_
        exact ihlp (i + 1) ls (by omega) (by omega) (lv_sub hl [2, 3, 1, 0] rfl)
  exact lp _ 0 ls (Nat.lt_succ_self _) (Nat.zero_le _) (lv_sub hl [2, 3, 1, 0] rfl)
set_option maxHeartbeats 4000000 in
set_option maxRecDepth 100000 in
theorem kX2_reachedStates (l : Launch) (E : zE) (h0 a1 a2 : Nat) (b : Nat) (S J : Nat → Nat) (w1 w2 w3 w4 : Int32) (hb0 : b < 8) (hS0 : ∀ j, S j < 8) (hJ0 : ∀ j, J j < 8) : Met l yX2_reachedStates wsX2_reachedStates (rmL 3) (va_Pc [.ref h0] (zW E [(h0, .inr (3, [.int (nI b), .ref a1, .ref a2, .int w1, .int w2, .int w3, .int w4])), (a1, .inl (E.2.1, 32, .inl (fun j => nI (S j)))), (a2, .inl (E.2.1, 64, .inl (fun j => nI (J j))))])) (vp_Si (fun r9 => r9 = rout S b 8)) 0 0 (fun _ => False) := by
  refine z_ofRi (cc := cX2_reachedStates) (maxL := 4) (own := RX2) (by decide) rfl rfl (Nat.le_of_ble_eq_true rfl) ?_
  intro p e s m args below meth c R Q B hP ret ls hl
  obtain ⟨hx, hb, hml, hown, hts, hK, hRf, hRl⟩ := B
  have hiX2 : ∀ w ∈ wsX20, w ∈ wsX2_reachedStates := by decide +kernel
  have hf9 := hts (.fieldLink RX2 9 "ExactFolds$Tables" "startState" "I") (by decide +kernel)
  have hl : lv_has ls 4 [(0, .ref h0)] := hl
  refine lv_iconst (v := nI 1) hx hb dX2_reachedStates_0 (by decide) ?_
  refine lv_aload_n hx hb dX2_reachedStates_1 rfl (lv_at hl 0 rfl) ?_
  refine va_get (D := E.1) (ci := 3) (C := RX2) (T := TX2) (N := 7) hx hb hts hiX2 hown hK.1 hP 0 rfl rfl 0 (by decide) hf9 (fun _ h9 => h9) rfl dX2_reachedStates_2 ?_
  refine lv_ishl hx hb dX2_reachedStates_5 ?_
  refine lv_istore_n (lv' := [(1, .int ((nI 1) <<< ((nI b) &&& 31))), (0, .ref h0)]) hx hb dX2_reachedStates_6 rfl hl (by decide) rfl (fun ls hl => ?_)
  refine lv_iconst (v := nI 0) hx hb dX2_reachedStates_7 (by decide) ?_
  refine lv_istore_n (lv' := [(2, .int (nI 0)), (1, .int ((nI 1) <<< ((nI b) &&& 31))), (0, .ref h0)]) hx hb dX2_reachedStates_8 rfl hl (by decide) rfl (fun ls hl => ?_)
  have lp : ∀ (fu : Nat) (r : Nat) (ls : Array Slot), 8 - r < fu → (r ≤ 8) → lv_has ls 4 [(0, .ref h0), (1, .int (rout S b r)), (2, .int (nI r))] → W p l e R s m args below meth c s.heap [] 0 0 Q (F0 m 9 ls []) := by
    intro fu
    induction fu with
    | zero => intros; exact absurd (by assumption) (Nat.not_lt_zero _)
    | succ fu ihlp =>
      intro r ls hfu hr8 hl
      refine lv_iload_n hx hb dX2_reachedStates_9 rfl (lv_at hl 2 rfl) ?_
      refine lv_bipush (v := nI 8) hx hb dX2_reachedStates_10 (by decide) ?_
      refine zn_icmp_ge (tgt := 51) hx hb dX2_reachedStates_12 (by decide) (by omega) (by omega) (fun c_1 => ?_) (fun c_1 => ?_)
      · obtain rfl : r = 8 := by omega
        refine lv_iload_n hx hb dX2_reachedStates_51 rfl (lv_at hl 1 rfl) ?_
        exact z_reti (rfl) (ret _ _ dX2_reachedStates_52)
      · refine lv_iconst (v := nI 0) hx hb dX2_reachedStates_15 (by decide) ?_
        refine lv_istore_n (lv' := [(3, .int (nI 0)), (0, .ref h0), (1, .int (rout S b r)), (2, .int (nI r))]) hx hb dX2_reachedStates_16 rfl hl (by decide) rfl (fun ls hl => ?_)
        have lq : ∀ (fu : Nat) (i : Nat) (x : Int32) (ls : Array Slot), 8 - i < fu → (i ≤ 8) → (x = rin S (rout S b r) i) → lv_has ls 4 [(0, .ref h0), (1, .int x), (2, .int (nI r)), (3, .int (nI i))] → W p l e R s m args below meth c s.heap [] 0 0 Q (F0 m 17 ls []) := by
          intro fu
          induction fu with
          | zero => intros; exact absurd (by assumption) (Nat.not_lt_zero _)
          | succ fu ihlq =>
            intro i x ls hfu hi hxq hl
            refine lv_iload_n hx hb dX2_reachedStates_17 rfl (lv_at hl 3 rfl) ?_
            refine lv_bipush (v := nI 8) hx hb dX2_reachedStates_18 (by decide) ?_
            refine zn_icmp_ge (tgt := 45) hx hb dX2_reachedStates_20 (by decide) (by omega) (by omega) (fun c_2 => ?_) (fun c_2 => ?_)
            · obtain rfl : i = 8 := by omega
              subst hxq
              have hl : lv_has ls 4 [(0, .ref h0), (1, .int (rout S b (r + 1))), (2, .int (nI r)), (3, .int (nI 8))] := hl
              refine lv_iinc (v := nI (r + 1)) (lv' := [(2, .int (nI (r + 1))), (0, .ref h0), (1, .int (rout S b (r + 1))), (3, .int (nI 8))]) hx hb dX2_reachedStates_45 hl (k := 2) rfl (z_inc _ 1) (by decide) rfl (fun ls hl => ?_)
              refine lv_goto (tgt := 9) hx hb dX2_reachedStates_48 (by decide) ?_
              exact ihlp (r + 1) ls (by omega) (by omega) (lv_sub hl [1, 2, 0] rfl)
            · refine lv_iload_n hx hb dX2_reachedStates_23 rfl (lv_at hl 1 rfl) ?_
              refine lv_iload_n hx hb dX2_reachedStates_24 rfl (lv_at hl 3 rfl) ?_
              refine zc_i (W.runS ⟨hx, hb, hml, hown, hts⟩ (kX2_holds l E x i) (cwS 2 hts gX2_reachedStates_X2_holds rfl rfl rfl (by decide +kernel) ⟨Nat.le_trans (Nat.le_of_ble_eq_true rfl) hRf, Nat.le_trans (Nat.le_of_ble_eq_true rfl) hRl⟩) (z_preR (av := [.int x, .int (nI i)]) (hP.sub (ws' := []) [] rfl) hK) rfl rfl hl.1 rfl (lv_room (Nat.le_of_ble_eq_true rfl)) dX2_reachedStates_25 ⟨Nat.zero_le _, Nat.zero_le _⟩) ?_
              refine zb_if_eq (tgt := 39) hx hb dX2_reachedStates_28 (by decide) (fun c_3 => ?_) (fun c_3 => ?_)
              · have hq2 : x = rin S (rout S b r) (i + 1) := by unfold rin; rw [← hxq, c_3]; rfl
                refine lv_iinc (v := nI (i + 1)) (lv' := [(3, .int (nI (i + 1))), (0, .ref h0), (1, .int x), (2, .int (nI r))]) hx hb dX2_reachedStates_39 hl (k := 3) rfl (z_inc _ 1) (by decide) rfl (fun ls hl => ?_)
                refine lv_goto (tgt := 17) hx hb dX2_reachedStates_42 (by decide) ?_
                exact ihlq (i + 1) x ls (by omega) (by omega) (hq2) (lv_sub hl [1, 2, 3, 0] rfl)
              · have hq2 : x ||| sfr S i 4 = rin S (rout S b r) (i + 1) := by unfold rin; rw [← hxq, c_3]; rfl
                refine lv_iload_n hx hb dX2_reachedStates_31 rfl (lv_at hl 1 rfl) ?_
                refine lv_aload_n hx hb dX2_reachedStates_32 rfl (lv_at hl 0 rfl) ?_
                refine lv_iload_n hx hb dX2_reachedStates_33 rfl (lv_at hl 3 rfl) ?_
                refine zc_i (W.runV ⟨hx, hb, hml, hown, hts⟩ (kX2_stepsFrom l E h0 a1 a2 b S J w1 w2 w3 w4 hb0 hS0 hJ0 i (by omega)) (cwV 1 hts gX2_reachedStates_X2_stepsFrom rfl rfl rfl (by decide +kernel) ⟨Nat.le_trans (Nat.le_of_ble_eq_true rfl) hRf, Nat.le_trans (Nat.le_of_ble_eq_true rfl) hRl⟩) (z_preV (As := [.int (nI i)]) hP hK 0 rfl rfl) rfl rfl hl.1 rfl (lv_room (Nat.le_of_ble_eq_true rfl)) dX2_reachedStates_34 ⟨Nat.zero_le _, Nat.zero_le _⟩) ?_
                refine lv_ior hx hb dX2_reachedStates_37 ?_
                refine lv_istore_n (lv' := [(1, .int (x ||| (sfr S i 4))), (0, .ref h0), (2, .int (nI r)), (3, .int (nI i))]) hx hb dX2_reachedStates_38 rfl hl (by decide) rfl (fun ls hl => ?_)
                refine lv_iinc (v := nI (i + 1)) (lv' := [(3, .int (nI (i + 1))), (1, .int (x ||| (sfr S i 4))), (0, .ref h0), (2, .int (nI r))]) hx hb dX2_reachedStates_39 hl (k := 3) rfl (z_inc _ 1) (by decide) rfl (fun ls hl => ?_)
                refine lv_goto (tgt := 17) hx hb dX2_reachedStates_42 (by decide) ?_
                exact ihlq (i + 1) (x ||| (sfr S i 4)) ls (by omega) (by omega) (hq2) (lv_sub hl [2, 1, 3, 0] rfl)
        exact lq _ 0 (rout S b r) ls (Nat.lt_succ_self _) (Nat.zero_le _) (rfl) (lv_sub hl [1, 2, 3, 0] rfl)
  exact lp _ 0 ls (Nat.lt_succ_self _) (Nat.zero_le _) (lv_sub hl [2, 1, 0] rfl)
set_option maxHeartbeats 4000000 in
set_option maxRecDepth 100000 in
theorem kX2_lookThroughSteps (l : Launch) (E : zE) (sz : Nat) (h0 a1 a2 : Nat) (b : Nat) (S J : Nat → Nat) (w1 w2 w3 w4 : Int32) (hb0 : b < 8) (hS0 : ∀ j, S j < 8) (hJ0 : ∀ j, J j < 8) (s_ t_ : Nat) (hs : s_ < 8) (ht : t_ < 8) : Met l yX2_lookThroughSteps wsX2_lookThroughSteps (rmL 2) (va_Pc [.ref h0, .int (nI s_), .int (nI t_)] (zS E [(h0, .inr (3, [.int (nI b), .ref a1, .ref a2, .int w1, .int w2, .int w3, .int w4])), (a1, .inl (E.2.1, 32, .inl (fun j => nI (S j)))), (a2, .inl (E.2.1, 64, .inl (fun j => nI (J j))))] sz)) (va_Qv (fun (_ : Unit) => True) (fun _ t9 => zW E [(h0, .inr (3, [.int (nI b), .ref a1, .ref a2, .int ((ltsF S J s_ t_ 4 0 (w1, w2, w3, w4)).1), .int ((ltsF S J s_ t_ 4 0 (w1, w2, w3, w4)).2.1), .int ((ltsF S J s_ t_ 4 0 (w1, w2, w3, w4)).2.2.1), .int ((ltsF S J s_ t_ 4 0 (w1, w2, w3, w4)).2.2.2)])), (a1, .inl (E.2.1, 32, .inl (fun j => nI (S j)))), (a2, .inl (E.2.1, 64, .inl (fun j => nI (J j))))] t9) (va_A [(h0, .inr (3, [.int (nI b), .ref a1, .ref a2, .int w1, .int w2, .int w3, .int w4])), (a1, .inl (E.2.1, 32, .inl (fun j => nI (S j)))), (a2, .inl (E.2.1, 64, .inl (fun j => nI (J j))))] sz)) 0 0 (va_A [(h0, .inr (3, [.int (nI b), .ref a1, .ref a2, .int w1, .int w2, .int w3, .int w4])), (a1, .inl (E.2.1, 32, .inl (fun j => nI (S j)))), (a2, .inl (E.2.1, 64, .inl (fun j => nI (J j))))] sz) := by
  refine z_ofWv (cc := cX2_lookThroughSteps) (maxL := 4) (own := RX2) (by decide) rfl rfl (Nat.le_of_ble_eq_true rfl) ?_
  intro p e s m args below meth c R Q A B hP hD hA ret ls hl
  obtain ⟨hx, hb, hml, hown, hts, hK, hRf, hRl⟩ := B
  have hS : va_S A s.heap s.heap [] := va_S.rf
  have hl : lv_has ls 4 [(0, .ref h0), (1, .int (nI s_)), (2, .int (nI t_))] := hl
  refine lv_iconst (v := nI 0) hx hb dX2_lookThroughSteps_0 (by decide) ?_
  refine lv_istore_n (lv' := [(3, .int (nI 0)), (0, .ref h0), (1, .int (nI s_)), (2, .int (nI t_))]) hx hb dX2_lookThroughSteps_1 rfl hl (by decide) rfl (fun ls hl => ?_)
  have lp : ∀ (fu : Nat) (i : Nat) (ls : Array Slot) (H : Heap) (locs : List Loc), 4 - i < fu → (i ≤ 4) → (ltsF S J s_ t_ (4 - i) i (w1, w2, w3, w4) = ltsF S J s_ t_ 4 0 (w1, w2, w3, w4)) → lv_has ls 4 [(0, .ref h0), (1, .int (nI s_)), (2, .int (nI t_)), (3, .int (nI i))] → va_P E.1 vwCl [(h0, .inr (3, [.int (nI b), .ref a1, .ref a2, .int w1, .int w2, .int w3, .int w4])), (a1, .inl (E.2.1, 32, .inl (fun j => nI (S j)))), (a2, .inl (E.2.1, 64, .inl (fun j => nI (J j))))] H → va_D A [(h0, .inr (3, [.int (nI b), .ref a1, .ref a2, .int w1, .int w2, .int w3, .int w4])), (a1, .inl (E.2.1, 32, .inl (fun j => nI (S j)))), (a2, .inl (E.2.1, 64, .inl (fun j => nI (J j))))] → va_S A s.heap H locs → W p l e R s m args below meth c H locs 0 0 Q (F0 m 2 ls []) := by
    intro fu
    induction fu with
    | zero => intros; exact absurd (by assumption) (Nat.not_lt_zero _)
    | succ fu ihlp =>
      intro i ls H locs hfu hi hq hl hP hD hS
      refine lv_iload_n hx hb dX2_lookThroughSteps_2 rfl (lv_at hl 3 rfl) ?_
      refine lv_iconst (v := nI 4) hx hb dX2_lookThroughSteps_3 (by decide) ?_
      refine zn_icmp_ge (tgt := 47) hx hb dX2_lookThroughSteps_4 (by decide) (by omega) (by omega) (fun c_1 => ?_) (fun c_1 => ?_)
      · obtain rfl : i = 4 := by omega
        exact ret _ _ _ _ (by rw [← hq]; exact hP) hS dX2_lookThroughSteps_47
      · have hs1 := hS0 (t_ * 4 + i)
        have hj1 := hJ0 (s_ * 8 + t_)
        refine lv_aload_n hx hb dX2_lookThroughSteps_7 rfl (lv_at hl 0 rfl) ?_
        refine lv_iload_n hx hb dX2_lookThroughSteps_8 rfl (lv_at hl 1 rfl) ?_
        refine lv_aload_n hx hb dX2_lookThroughSteps_9 rfl (lv_at hl 0 rfl) ?_
        refine lv_iload_n hx hb dX2_lookThroughSteps_10 rfl (lv_at hl 2 rfl) ?_
        refine lv_iload_n hx hb dX2_lookThroughSteps_11 rfl (lv_at hl 3 rfl) ?_
        refine zc_i (W.runV ⟨hx, hb, hml, hown, hts⟩ (kX2_stepOf l E h0 a1 a2 b S J w1 w2 w3 w4 hb0 hS0 hJ0 t_ i (by omega) (by omega)) (cwV 2 hts gX2_lookThroughSteps_X2_stepOf rfl rfl rfl (by decide +kernel) ⟨Nat.le_trans (Nat.le_of_ble_eq_true rfl) hRf, Nat.le_trans (Nat.le_of_ble_eq_true rfl) hRl⟩) (z_preV (As := [.int (nI t_), .int (nI i)]) hP hK 0 rfl rfl) rfl rfl hl.1 rfl (lv_room (Nat.le_of_ble_eq_true rfl)) dX2_lookThroughSteps_12 ⟨Nat.zero_le _, Nat.zero_le _⟩) ?_
        refine zc_i (W.runV ⟨hx, hb, hml, hown, hts⟩ (kX2_joinOf l E h0 a1 a2 b S J w1 w2 w3 w4 hb0 hS0 hJ0 s_ (S (t_ * 4 + i)) (by omega) (by omega)) (cwV 2 hts gX2_lookThroughSteps_X2_joinOf rfl rfl rfl (by decide +kernel) ⟨Nat.le_trans (Nat.le_of_ble_eq_true rfl) hRf, Nat.le_trans (Nat.le_of_ble_eq_true rfl) hRl⟩) (z_preV (As := [.int (nI s_), .int (nI (S (t_ * 4 + i)))]) hP hK 0 rfl rfl) rfl rfl hl.1 rfl (lv_room (Nat.le_of_ble_eq_true rfl)) dX2_lookThroughSteps_15 ⟨Nat.zero_le _, Nat.zero_le _⟩) ?_
        refine lv_aload_n hx hb dX2_lookThroughSteps_18 rfl (lv_at hl 0 rfl) ?_
        refine lv_aload_n hx hb dX2_lookThroughSteps_19 rfl (lv_at hl 0 rfl) ?_
        refine lv_iload_n hx hb dX2_lookThroughSteps_20 rfl (lv_at hl 1 rfl) ?_
        refine lv_iload_n hx hb dX2_lookThroughSteps_21 rfl (lv_at hl 2 rfl) ?_
        refine zc_i (W.runV ⟨hx, hb, hml, hown, hts⟩ (kX2_joinOf l E h0 a1 a2 b S J w1 w2 w3 w4 hb0 hS0 hJ0 s_ t_ (by omega) (by omega)) (cwV 2 hts gX2_lookThroughSteps_X2_joinOf rfl rfl rfl (by decide +kernel) ⟨Nat.le_trans (Nat.le_of_ble_eq_true rfl) hRf, Nat.le_trans (Nat.le_of_ble_eq_true rfl) hRl⟩) (z_preV (As := [.int (nI s_), .int (nI t_)]) hP hK 0 rfl rfl) rfl rfl hl.1 rfl (lv_room (Nat.le_of_ble_eq_true rfl)) dX2_lookThroughSteps_22 ⟨Nat.zero_le _, Nat.zero_le _⟩) ?_
        refine lv_iload_n hx hb dX2_lookThroughSteps_25 rfl (lv_at hl 3 rfl) ?_
        refine zc_i (W.runV ⟨hx, hb, hml, hown, hts⟩ (kX2_stepOf l E h0 a1 a2 b S J w1 w2 w3 w4 hb0 hS0 hJ0 (J (s_ * 8 + t_)) i (by omega) (by omega)) (cwV 2 hts gX2_lookThroughSteps_X2_stepOf rfl rfl rfl (by decide +kernel) ⟨Nat.le_trans (Nat.le_of_ble_eq_true rfl) hRf, Nat.le_trans (Nat.le_of_ble_eq_true rfl) hRl⟩) (z_preV (As := [.int (nI (J (s_ * 8 + t_))), .int (nI i)]) hP hK 0 rfl rfl) rfl rfl hl.1 rfl (lv_room (Nat.le_of_ble_eq_true rfl)) dX2_lookThroughSteps_26 ⟨Nat.zero_le _, Nat.zero_le _⟩) ?_
        refine zn_icmp_eq (tgt := 41) hx hb dX2_lookThroughSteps_29 (by decide) (Nat.lt_trans (hJ0 _) (by decide)) (Nat.lt_trans (hS0 _) (by decide)) (fun c_2 => ?_) (fun c_2 => ?_)
        · have hq2 : ltsF S J s_ t_ (4 - (i + 1)) (i + 1) (w1, w2, w3, w4) = ltsF S J s_ t_ 4 0 (w1, w2, w3, w4) := by rw [← lts_step c_1 c_2]; exact hq
          refine lv_iinc (v := nI (i + 1)) (lv' := [(3, .int (nI (i + 1))), (0, .ref h0), (1, .int (nI s_)), (2, .int (nI t_))]) hx hb dX2_lookThroughSteps_41 hl (k := 3) rfl (z_inc _ 1) (by decide) rfl (fun ls hl => ?_)
          refine lv_goto (tgt := 2) hx hb dX2_lookThroughSteps_44 (by decide) ?_
          exact ihlp (i + 1) ls _ _ (by omega) (by omega) (hq2) (lv_sub hl [1, 2, 3, 0] rfl) hP hD hS
        · refine lv_aload_n hx hb dX2_lookThroughSteps_32 rfl (lv_at hl 0 rfl) ?_
          refine lv_iconst (v := nI 2) hx hb dX2_lookThroughSteps_33 (by decide) ?_
          refine lv_iload_n hx hb dX2_lookThroughSteps_34 rfl (lv_at hl 1 rfl) ?_
          refine lv_iload_n hx hb dX2_lookThroughSteps_35 rfl (lv_at hl 2 rfl) ?_
          refine lv_iload_n hx hb dX2_lookThroughSteps_36 rfl (lv_at hl 3 rfl) ?_
          have hPc := hP.sub (ws' := [(h0, .inr (3, [.int (nI b), .ref a1, .ref a2, .int w1, .int w2, .int w3, .int w4])), (a1, .inl (E.2.1, 32, .inl (fun j => nI (S j)))), (a2, .inl (E.2.1, 64, .inl (fun j => nI (J j))))]) [0, 1, 2] rfl
          have hDc := hD.sub (ws' := [(h0, .inr (3, [.int (nI b), .ref a1, .ref a2, .int w1, .int w2, .int w3, .int w4])), (a1, .inl (E.2.1, 32, .inl (fun j => nI (S j)))), (a2, .inl (E.2.1, 64, .inl (fun j => nI (J j))))]) [0, 1, 2] (by decide) rfl
          refine zw_v (E := E) (wc := [(h0, .inr (3, [.int (nI b), .ref a1, .ref a2, .int w1, .int w2, .int w3, .int w4])), (a1, .inl (E.2.1, 32, .inl (fun j => nI (S j)))), (a2, .inl (E.2.1, 64, .inl (fun j => nI (J j))))]) (wc' := [(h0, .inr (3, [.int (nI b), .ref a1, .ref a2, .int (nI 2), .int (nI s_), .int (nI t_), .int (nI i)])), (a1, .inl (E.2.1, 32, .inl (fun j => nI (S j)))), (a2, .inl (E.2.1, 64, .inl (fun j => nI (J j))))]) (wr := []) (va_runV ⟨hx, hb, hml, hown, hts⟩ (kX2_keepWrong l E _ h0 a1 a2 b S J w1 w2 w3 w4 hb0 hS0 hJ0 (nI 2) (nI s_) (nI t_) (nI i)) (cwV 4 hts gX2_lookThroughSteps_X2_keepWrong rfl rfl rfl (by decide +kernel) ⟨Nat.le_trans (Nat.le_of_ble_eq_true rfl) hRf, Nat.le_trans (Nat.le_of_ble_eq_true rfl) hRl⟩) (z_preWV (As := [.int (nI 2), .int (nI s_), .int (nI t_), .int (nI i)]) hPc hDc hK 0 rfl rfl) rfl rfl hl.1 rfl (lv_room (Nat.le_of_ble_eq_true rfl)) dX2_lookThroughSteps_37 ⟨Nat.zero_le _, Nat.zero_le _⟩) hP hD hS hA [0, 1, 2] [] rfl rfl (by decide) (by decide) (by decide) rfl (fun H locs hP hD hS => ?_)
          have hP : va_P E.1 vwCl [(h0, .inr (3, [.int (nI b), .ref a1, .ref a2, .int (nI 2), .int (nI s_), .int (nI t_), .int (nI i)])), (a1, .inl (E.2.1, 32, .inl (fun j => nI (S j)))), (a2, .inl (E.2.1, 64, .inl (fun j => nI (J j))))] H := hP
          have hD : va_D A [(h0, .inr (3, [.int (nI b), .ref a1, .ref a2, .int (nI 2), .int (nI s_), .int (nI t_), .int (nI i)])), (a1, .inl (E.2.1, 32, .inl (fun j => nI (S j)))), (a2, .inl (E.2.1, 64, .inl (fun j => nI (J j))))] := hD
          exact ret _ _ _ _ (by rw [← hq, lts_hit c_1 c_2]; exact hP) hS dX2_lookThroughSteps_40
  exact lp _ 0 ls _ _ (Nat.lt_succ_self _) (Nat.zero_le _) (rfl) (lv_sub hl [1, 2, 3, 0] rfl) hP hD hS
set_option maxHeartbeats 4000000 in
set_option maxRecDepth 100000 in
theorem kX2_lookThroughFrom (l : Launch) (E : zE) (sz : Nat) (h0 a1 a2 : Nat) (b : Nat) (S J : Nat → Nat) (w1 w2 w3 w4 : Int32) (hb0 : b < 8) (hS0 : ∀ j, S j < 8) (hJ0 : ∀ j, J j < 8) (s_ : Nat) (m_ : Int32) (hs : s_ < 8) : Met l yX2_lookThroughFrom wsX2_lookThroughFrom (rmL 3) (va_Pc [.ref h0, .int (nI s_), .int m_] (zS E [(h0, .inr (3, [.int (nI b), .ref a1, .ref a2, .int w1, .int w2, .int w3, .int w4])), (a1, .inl (E.2.1, 32, .inl (fun j => nI (S j)))), (a2, .inl (E.2.1, 64, .inl (fun j => nI (J j))))] sz)) (va_Qv (fun (_ : Unit) => True) (fun _ t9 => zW E [(h0, .inr (3, [.int (nI b), .ref a1, .ref a2, .int ((ltf S J b m_ s_ (w1, w2, w3, w4)).1), .int ((ltf S J b m_ s_ (w1, w2, w3, w4)).2.1), .int ((ltf S J b m_ s_ (w1, w2, w3, w4)).2.2.1), .int ((ltf S J b m_ s_ (w1, w2, w3, w4)).2.2.2)])), (a1, .inl (E.2.1, 32, .inl (fun j => nI (S j)))), (a2, .inl (E.2.1, 64, .inl (fun j => nI (J j))))] t9) (va_A [(h0, .inr (3, [.int (nI b), .ref a1, .ref a2, .int w1, .int w2, .int w3, .int w4])), (a1, .inl (E.2.1, 32, .inl (fun j => nI (S j)))), (a2, .inl (E.2.1, 64, .inl (fun j => nI (J j))))] sz)) 0 0 (va_A [(h0, .inr (3, [.int (nI b), .ref a1, .ref a2, .int w1, .int w2, .int w3, .int w4])), (a1, .inl (E.2.1, 32, .inl (fun j => nI (S j)))), (a2, .inl (E.2.1, 64, .inl (fun j => nI (J j))))] sz) := by
  refine z_ofWv (cc := cX2_lookThroughFrom) (maxL := 4) (own := RX2) (by decide) rfl rfl (Nat.le_of_ble_eq_true rfl) ?_
  intro p e s m args below meth c R Q A B hP hD hA ret ls hl
  obtain ⟨hx, hb, hml, hown, hts, hK, hRf, hRl⟩ := B
  have hiX2 : ∀ w ∈ wsX20, w ∈ wsX2_lookThroughFrom := by decide +kernel
  have hf9 := hts (.fieldLink RX2 9 "ExactFolds$Tables" "startState" "I") (by decide +kernel)
  have hf22 := hts (.fieldLink RX2 22 "ExactFolds$Tables" "wrongRule" "I") (by decide +kernel)
  have hS : va_S A s.heap s.heap [] := va_S.rf
  have hl : lv_has ls 4 [(0, .ref h0), (1, .int (nI s_)), (2, .int m_)] := hl
  refine lv_aload_n hx hb dX2_lookThroughFrom_0 rfl (lv_at hl 0 rfl) ?_
  refine lv_iload_n hx hb dX2_lookThroughFrom_1 rfl (lv_at hl 1 rfl) ?_
  refine lv_aload_n hx hb dX2_lookThroughFrom_2 rfl (lv_at hl 0 rfl) ?_
  refine va_get (D := E.1) (ci := 3) (C := RX2) (T := TX2) (N := 7) hx hb hts hiX2 hown hK.1 hP 0 rfl rfl 0 (by decide) hf9 (fun _ h9 => h9) rfl dX2_lookThroughFrom_3 ?_
  refine zc_i (W.runV ⟨hx, hb, hml, hown, hts⟩ (kX2_joinOf l E h0 a1 a2 b S J w1 w2 w3 w4 hb0 hS0 hJ0 s_ b (by omega) (by omega)) (cwV 2 hts gX2_lookThroughFrom_X2_joinOf rfl rfl rfl (by decide +kernel) ⟨Nat.le_trans (Nat.le_of_ble_eq_true rfl) hRf, Nat.le_trans (Nat.le_of_ble_eq_true rfl) hRl⟩) (z_preV (As := [.int (nI s_), .int (nI b)]) hP hK 0 rfl rfl) rfl rfl hl.1 rfl (lv_room (Nat.le_of_ble_eq_true rfl)) dX2_lookThroughFrom_6 ⟨Nat.zero_le _, Nat.zero_le _⟩) ?_
  refine lv_iload_n hx hb dX2_lookThroughFrom_9 rfl (lv_at hl 1 rfl) ?_
  refine zn_icmp_eq (tgt := 24) hx hb dX2_lookThroughFrom_10 (by decide) (Nat.lt_trans (hJ0 _) (by decide)) (by omega) (fun c_1 => ?_) (fun c_1 => ?_)
  · refine lv_iconst (v := nI 0) hx hb dX2_lookThroughFrom_24 (by decide) ?_
    refine lv_istore_n (lv' := [(3, .int (nI 0)), (0, .ref h0), (1, .int (nI s_)), (2, .int m_)]) hx hb dX2_lookThroughFrom_25 rfl hl (by decide) rfl (fun ls hl => ?_)
    have lp : ∀ (fu : Nat) (i : Nat) (u1 : Int32) (u2 : Int32) (u3 : Int32) (u4 : Int32) (ls : Array Slot) (H : Heap) (locs : List Loc), 8 - i < fu → (i ≤ 8) → (ltfF S J m_ s_ (8 - i) i (u1, u2, u3, u4) = ltf S J b m_ s_ (w1, w2, w3, w4)) → lv_has ls 4 [(0, .ref h0), (1, .int (nI s_)), (2, .int m_), (3, .int (nI i))] → va_P E.1 vwCl [(h0, .inr (3, [.int (nI b), .ref a1, .ref a2, .int u1, .int u2, .int u3, .int u4])), (a1, .inl (E.2.1, 32, .inl (fun j => nI (S j)))), (a2, .inl (E.2.1, 64, .inl (fun j => nI (J j))))] H → va_D A [(h0, .inr (3, [.int (nI b), .ref a1, .ref a2, .int u1, .int u2, .int u3, .int u4])), (a1, .inl (E.2.1, 32, .inl (fun j => nI (S j)))), (a2, .inl (E.2.1, 64, .inl (fun j => nI (J j))))] → va_S A s.heap H locs → W p l e R s m args below meth c H locs 0 0 Q (F0 m 26 ls []) := by
      intro fu
      induction fu with
      | zero => intros; exact absurd (by assumption) (Nat.not_lt_zero _)
      | succ fu ihlp =>
        intro i u1 u2 u3 u4 ls H locs hfu hi hq hl hP hD hS
        refine lv_iload_n hx hb dX2_lookThroughFrom_26 rfl (lv_at hl 3 rfl) ?_
        refine lv_bipush (v := nI 8) hx hb dX2_lookThroughFrom_27 (by decide) ?_
        refine zn_icmp_ge (tgt := 59) hx hb dX2_lookThroughFrom_29 (by decide) (by omega) (by omega) (fun c_2 => ?_) (fun c_2 => ?_)
        · obtain rfl : i = 8 := by omega
          exact ret _ _ _ _ (by rw [← hq]; exact hP) hS dX2_lookThroughFrom_59
        · refine lv_aload_n hx hb dX2_lookThroughFrom_32 rfl (lv_at hl 0 rfl) ?_
          refine va_get (D := E.1) (ci := 3) (C := RX2) (T := TX2) (N := 7) hx hb hts hiX2 hown hK.1 hP 0 rfl rfl 3 (by decide) hf22 (fun _ h9 => h9) rfl dX2_lookThroughFrom_33 ?_
          refine lv_if_ne (tgt := 59) hx hb dX2_lookThroughFrom_36 (by decide) (fun c_3 => ?_) (fun c_3 => ?_)
          · exact ret _ _ _ _ (by rw [← hq, ltf_hit c_2 c_3]; exact hP) hS dX2_lookThroughFrom_59
          · refine lv_iload_n hx hb dX2_lookThroughFrom_39 rfl (lv_at hl 2 rfl) ?_
            refine lv_iload_n hx hb dX2_lookThroughFrom_40 rfl (lv_at hl 3 rfl) ?_
            refine zc_i (W.runS ⟨hx, hb, hml, hown, hts⟩ (kX2_holds l E m_ i) (cwS 2 hts gX2_lookThroughFrom_X2_holds rfl rfl rfl (by decide +kernel) ⟨Nat.le_trans (Nat.le_of_ble_eq_true rfl) hRf, Nat.le_trans (Nat.le_of_ble_eq_true rfl) hRl⟩) (z_preR (av := [.int m_, .int (nI i)]) (hP.sub (ws' := []) [] rfl) hK) rfl rfl hl.1 rfl (lv_room (Nat.le_of_ble_eq_true rfl)) dX2_lookThroughFrom_41 ⟨Nat.zero_le _, Nat.zero_le _⟩) ?_
            refine zb_if_eq (tgt := 53) hx hb dX2_lookThroughFrom_44 (by decide) (fun c_4 => ?_) (fun c_4 => ?_)
            · have hq2 : ltfF S J m_ s_ (8 - (i + 1)) (i + 1) (u1, u2, u3, u4) = ltf S J b m_ s_ (w1, w2, w3, w4) := by rw [← hq, ltf_step c_2 c_3, c_4]; rfl
              refine lv_iinc (v := nI (i + 1)) (lv' := [(3, .int (nI (i + 1))), (0, .ref h0), (1, .int (nI s_)), (2, .int m_)]) hx hb dX2_lookThroughFrom_53 hl (k := 3) rfl (z_inc _ 1) (by decide) rfl (fun ls hl => ?_)
              refine lv_goto (tgt := 26) hx hb dX2_lookThroughFrom_56 (by decide) ?_
              exact ihlp (i + 1) u1 u2 u3 u4 ls _ _ (by omega) (by omega) (hq2) (lv_sub hl [1, 2, 3, 0] rfl) hP hD hS
            · have hq2 : ltfF S J m_ s_ (8 - (i + 1)) (i + 1) (ltsF S J s_ i 4 0 (u1, u2, u3, u4)) = ltf S J b m_ s_ (w1, w2, w3, w4) := by rw [← hq, ltf_step c_2 c_3, c_4]; rfl
              refine lv_aload_n hx hb dX2_lookThroughFrom_47 rfl (lv_at hl 0 rfl) ?_
              refine lv_iload_n hx hb dX2_lookThroughFrom_48 rfl (lv_at hl 1 rfl) ?_
              refine lv_iload_n hx hb dX2_lookThroughFrom_49 rfl (lv_at hl 3 rfl) ?_
              have hPc := hP.sub (ws' := [(h0, .inr (3, [.int (nI b), .ref a1, .ref a2, .int u1, .int u2, .int u3, .int u4])), (a1, .inl (E.2.1, 32, .inl (fun j => nI (S j)))), (a2, .inl (E.2.1, 64, .inl (fun j => nI (J j))))]) [0, 1, 2] rfl
              have hDc := hD.sub (ws' := [(h0, .inr (3, [.int (nI b), .ref a1, .ref a2, .int u1, .int u2, .int u3, .int u4])), (a1, .inl (E.2.1, 32, .inl (fun j => nI (S j)))), (a2, .inl (E.2.1, 64, .inl (fun j => nI (J j))))]) [0, 1, 2] (by decide) rfl
              refine zw_v (E := E) (wc := [(h0, .inr (3, [.int (nI b), .ref a1, .ref a2, .int u1, .int u2, .int u3, .int u4])), (a1, .inl (E.2.1, 32, .inl (fun j => nI (S j)))), (a2, .inl (E.2.1, 64, .inl (fun j => nI (J j))))]) (wc' := [(h0, .inr (3, [.int (nI b), .ref a1, .ref a2, .int ((ltsF S J s_ i 4 0 (u1, u2, u3, u4)).1), .int ((ltsF S J s_ i 4 0 (u1, u2, u3, u4)).2.1), .int ((ltsF S J s_ i 4 0 (u1, u2, u3, u4)).2.2.1), .int ((ltsF S J s_ i 4 0 (u1, u2, u3, u4)).2.2.2)])), (a1, .inl (E.2.1, 32, .inl (fun j => nI (S j)))), (a2, .inl (E.2.1, 64, .inl (fun j => nI (J j))))]) (wr := []) (va_runV ⟨hx, hb, hml, hown, hts⟩ (kX2_lookThroughSteps l E _ h0 a1 a2 b S J u1 u2 u3 u4 hb0 hS0 hJ0 s_ i (by omega) (by omega)) (cwV 2 hts gX2_lookThroughFrom_X2_lookThroughSteps rfl rfl rfl (by decide +kernel) ⟨Nat.le_trans (Nat.le_of_ble_eq_true rfl) hRf, Nat.le_trans (Nat.le_of_ble_eq_true rfl) hRl⟩) (z_preWV (As := [.int (nI s_), .int (nI i)]) hPc hDc hK 0 rfl rfl) rfl rfl hl.1 rfl (lv_room (Nat.le_of_ble_eq_true rfl)) dX2_lookThroughFrom_50 ⟨Nat.zero_le _, Nat.zero_le _⟩) hP hD hS hA [0, 1, 2] [] rfl rfl (by decide) (by decide) (by decide) rfl (fun H locs hP hD hS => ?_)
              have hP : va_P E.1 vwCl [(h0, .inr (3, [.int (nI b), .ref a1, .ref a2, .int ((ltsF S J s_ i 4 0 (u1, u2, u3, u4)).1), .int ((ltsF S J s_ i 4 0 (u1, u2, u3, u4)).2.1), .int ((ltsF S J s_ i 4 0 (u1, u2, u3, u4)).2.2.1), .int ((ltsF S J s_ i 4 0 (u1, u2, u3, u4)).2.2.2)])), (a1, .inl (E.2.1, 32, .inl (fun j => nI (S j)))), (a2, .inl (E.2.1, 64, .inl (fun j => nI (J j))))] H := hP
              have hD : va_D A [(h0, .inr (3, [.int (nI b), .ref a1, .ref a2, .int ((ltsF S J s_ i 4 0 (u1, u2, u3, u4)).1), .int ((ltsF S J s_ i 4 0 (u1, u2, u3, u4)).2.1), .int ((ltsF S J s_ i 4 0 (u1, u2, u3, u4)).2.2.1), .int ((ltsF S J s_ i 4 0 (u1, u2, u3, u4)).2.2.2)])), (a1, .inl (E.2.1, 32, .inl (fun j => nI (S j)))), (a2, .inl (E.2.1, 64, .inl (fun j => nI (J j))))] := hD
              refine lv_iinc (v := nI (i + 1)) (lv' := [(3, .int (nI (i + 1))), (0, .ref h0), (1, .int (nI s_)), (2, .int m_)]) hx hb dX2_lookThroughFrom_53 hl (k := 3) rfl (z_inc _ 1) (by decide) rfl (fun ls hl => ?_)
              refine lv_goto (tgt := 26) hx hb dX2_lookThroughFrom_56 (by decide) ?_
              exact ihlp (i + 1) ((ltsF S J s_ i 4 0 (u1, u2, u3, u4)).1) ((ltsF S J s_ i 4 0 (u1, u2, u3, u4)).2.1) ((ltsF S J s_ i 4 0 (u1, u2, u3, u4)).2.2.1) ((ltsF S J s_ i 4 0 (u1, u2, u3, u4)).2.2.2) ls _ _ (by omega) (by omega) (hq2) (lv_sub hl [1, 2, 3, 0] rfl) hP hD hS
    exact lp _ 0 w1 w2 w3 w4 ls _ _ (Nat.lt_succ_self _) (Nat.zero_le _) (by unfold ltf; rw [if_pos c_1]) (lv_sub hl [1, 2, 3, 0] rfl) hP hD hS
  · refine lv_aload_n hx hb dX2_lookThroughFrom_13 rfl (lv_at hl 0 rfl) ?_
    refine lv_iconst (v := nI 1) hx hb dX2_lookThroughFrom_14 (by decide) ?_
    refine lv_iload_n hx hb dX2_lookThroughFrom_15 rfl (lv_at hl 1 rfl) ?_
    refine lv_bipush (v := (-3)) hx hb dX2_lookThroughFrom_16 (by decide) ?_
    refine lv_bipush (v := (-3)) hx hb dX2_lookThroughFrom_18 (by decide) ?_
    have hPc := hP.sub (ws' := [(h0, .inr (3, [.int (nI b), .ref a1, .ref a2, .int w1, .int w2, .int w3, .int w4])), (a1, .inl (E.2.1, 32, .inl (fun j => nI (S j)))), (a2, .inl (E.2.1, 64, .inl (fun j => nI (J j))))]) [0, 1, 2] rfl
    have hDc := hD.sub (ws' := [(h0, .inr (3, [.int (nI b), .ref a1, .ref a2, .int w1, .int w2, .int w3, .int w4])), (a1, .inl (E.2.1, 32, .inl (fun j => nI (S j)))), (a2, .inl (E.2.1, 64, .inl (fun j => nI (J j))))]) [0, 1, 2] (by decide) rfl
    refine zw_v (E := E) (wc := [(h0, .inr (3, [.int (nI b), .ref a1, .ref a2, .int w1, .int w2, .int w3, .int w4])), (a1, .inl (E.2.1, 32, .inl (fun j => nI (S j)))), (a2, .inl (E.2.1, 64, .inl (fun j => nI (J j))))]) (wc' := [(h0, .inr (3, [.int (nI b), .ref a1, .ref a2, .int (nI 1), .int (nI s_), .int (-3), .int (-3)])), (a1, .inl (E.2.1, 32, .inl (fun j => nI (S j)))), (a2, .inl (E.2.1, 64, .inl (fun j => nI (J j))))]) (wr := []) (va_runV ⟨hx, hb, hml, hown, hts⟩ (kX2_keepWrong l E _ h0 a1 a2 b S J w1 w2 w3 w4 hb0 hS0 hJ0 (nI 1) (nI s_) (-3) (-3)) (cwV 4 hts gX2_lookThroughFrom_X2_keepWrong rfl rfl rfl (by decide +kernel) ⟨Nat.le_trans (Nat.le_of_ble_eq_true rfl) hRf, Nat.le_trans (Nat.le_of_ble_eq_true rfl) hRl⟩) (z_preWV (As := [.int (nI 1), .int (nI s_), .int (-3), .int (-3)]) hPc hDc hK 0 rfl rfl) rfl rfl hl.1 rfl (lv_room (Nat.le_of_ble_eq_true rfl)) dX2_lookThroughFrom_20 ⟨Nat.zero_le _, Nat.zero_le _⟩) hP hD hS hA [0, 1, 2] [] rfl rfl (by decide) (by decide) (by decide) rfl (fun H locs hP hD hS => ?_)
    have hP : va_P E.1 vwCl [(h0, .inr (3, [.int (nI b), .ref a1, .ref a2, .int (nI 1), .int (nI s_), .int (-3), .int (-3)])), (a1, .inl (E.2.1, 32, .inl (fun j => nI (S j)))), (a2, .inl (E.2.1, 64, .inl (fun j => nI (J j))))] H := hP
    have hD : va_D A [(h0, .inr (3, [.int (nI b), .ref a1, .ref a2, .int (nI 1), .int (nI s_), .int (-3), .int (-3)])), (a1, .inl (E.2.1, 32, .inl (fun j => nI (S j)))), (a2, .inl (E.2.1, 64, .inl (fun j => nI (J j))))] := hD
    exact ret _ _ _ _ (by unfold ltf; rw [if_neg c_1]; exact hP) hS dX2_lookThroughFrom_23
set_option maxHeartbeats 4000000 in
set_option maxRecDepth 100000 in
theorem kX2_lookThrough (l : Launch) (E : zE) (sz : Nat) (h0 a1 a2 : Nat) (b : Nat) (S J : Nat → Nat) (w1 w2 w3 w4 : Int32) (hb0 : b < 8) (hS0 : ∀ j, S j < 8) (hJ0 : ∀ j, J j < 8) : Met l yX2_lookThrough wsX2_lookThrough (rmL 4) (va_Pc [.ref h0] (zS E [(h0, .inr (3, [.int (nI b), .ref a1, .ref a2, .int w1, .int w2, .int w3, .int w4])), (a1, .inl (E.2.1, 32, .inl (fun j => nI (S j)))), (a2, .inl (E.2.1, 64, .inl (fun j => nI (J j))))] sz)) (va_Qv (fun (_ : Unit) => True) (fun _ t9 => zW E [(h0, .inr (3, [.int (nI b), .ref a1, .ref a2, .int ((ltAll S J b).1), .int ((ltAll S J b).2.1), .int ((ltAll S J b).2.2.1), .int ((ltAll S J b).2.2.2)])), (a1, .inl (E.2.1, 32, .inl (fun j => nI (S j)))), (a2, .inl (E.2.1, 64, .inl (fun j => nI (J j))))] t9) (va_A [(h0, .inr (3, [.int (nI b), .ref a1, .ref a2, .int w1, .int w2, .int w3, .int w4])), (a1, .inl (E.2.1, 32, .inl (fun j => nI (S j)))), (a2, .inl (E.2.1, 64, .inl (fun j => nI (J j))))] sz)) 0 0 (va_A [(h0, .inr (3, [.int (nI b), .ref a1, .ref a2, .int w1, .int w2, .int w3, .int w4])), (a1, .inl (E.2.1, 32, .inl (fun j => nI (S j)))), (a2, .inl (E.2.1, 64, .inl (fun j => nI (J j))))] sz) := by
  refine z_ofWv (cc := cX2_lookThrough) (maxL := 3) (own := RX2) (by decide) rfl rfl (Nat.le_of_ble_eq_true rfl) ?_
  intro p e s m args below meth c R Q A B hP hD hA ret ls hl
  obtain ⟨hx, hb, hml, hown, hts, hK, hRf, hRl⟩ := B
  have hiX2 : ∀ w ∈ wsX20, w ∈ wsX2_lookThrough := by decide +kernel
  have hf22 := hts (.fieldLink RX2 22 "ExactFolds$Tables" "wrongRule" "I") (by decide +kernel)
  have hS : va_S A s.heap s.heap [] := va_S.rf
  have hl : lv_has ls 3 [(0, .ref h0)] := hl
  refine lv_aload_n hx hb dX2_lookThrough_0 rfl (lv_at hl 0 rfl) ?_
  refine lv_iconst (v := nI 0) hx hb dX2_lookThrough_1 (by decide) ?_
  refine lv_bipush (v := (-3)) hx hb dX2_lookThrough_2 (by decide) ?_
  refine lv_bipush (v := (-3)) hx hb dX2_lookThrough_4 (by decide) ?_
  refine lv_bipush (v := (-3)) hx hb dX2_lookThrough_6 (by decide) ?_
  have hPc := hP.sub (ws' := [(h0, .inr (3, [.int (nI b), .ref a1, .ref a2, .int w1, .int w2, .int w3, .int w4])), (a1, .inl (E.2.1, 32, .inl (fun j => nI (S j)))), (a2, .inl (E.2.1, 64, .inl (fun j => nI (J j))))]) [0, 1, 2] rfl
  have hDc := hD.sub (ws' := [(h0, .inr (3, [.int (nI b), .ref a1, .ref a2, .int w1, .int w2, .int w3, .int w4])), (a1, .inl (E.2.1, 32, .inl (fun j => nI (S j)))), (a2, .inl (E.2.1, 64, .inl (fun j => nI (J j))))]) [0, 1, 2] (by decide) rfl
  refine zw_v (E := E) (wc := [(h0, .inr (3, [.int (nI b), .ref a1, .ref a2, .int w1, .int w2, .int w3, .int w4])), (a1, .inl (E.2.1, 32, .inl (fun j => nI (S j)))), (a2, .inl (E.2.1, 64, .inl (fun j => nI (J j))))]) (wc' := [(h0, .inr (3, [.int (nI b), .ref a1, .ref a2, .int (nI 0), .int (-3), .int (-3), .int (-3)])), (a1, .inl (E.2.1, 32, .inl (fun j => nI (S j)))), (a2, .inl (E.2.1, 64, .inl (fun j => nI (J j))))]) (wr := []) (va_runV ⟨hx, hb, hml, hown, hts⟩ (kX2_keepWrong l E _ h0 a1 a2 b S J w1 w2 w3 w4 hb0 hS0 hJ0 (nI 0) (-3) (-3) (-3)) (cwV 4 hts gX2_lookThrough_X2_keepWrong rfl rfl rfl (by decide +kernel) ⟨Nat.le_trans (Nat.le_of_ble_eq_true rfl) hRf, Nat.le_trans (Nat.le_of_ble_eq_true rfl) hRl⟩) (z_preWV (As := [.int (nI 0), .int (-3), .int (-3), .int (-3)]) hPc hDc hK 0 rfl rfl) rfl rfl hl.1 rfl (lv_room (Nat.le_of_ble_eq_true rfl)) dX2_lookThrough_8 ⟨Nat.zero_le _, Nat.zero_le _⟩) hP hD hS hA [0, 1, 2] [] rfl rfl (by decide) (by decide) (by decide) rfl (fun H locs hP hD hS => ?_)
  have hP : va_P E.1 vwCl [(h0, .inr (3, [.int (nI b), .ref a1, .ref a2, .int (nI 0), .int (-3), .int (-3), .int (-3)])), (a1, .inl (E.2.1, 32, .inl (fun j => nI (S j)))), (a2, .inl (E.2.1, 64, .inl (fun j => nI (J j))))] H := hP
  have hD : va_D A [(h0, .inr (3, [.int (nI b), .ref a1, .ref a2, .int (nI 0), .int (-3), .int (-3), .int (-3)])), (a1, .inl (E.2.1, 32, .inl (fun j => nI (S j)))), (a2, .inl (E.2.1, 64, .inl (fun j => nI (J j))))] := hD
  refine lv_aload_n hx hb dX2_lookThrough_11 rfl (lv_at hl 0 rfl) ?_
  refine zc_i (W.runV ⟨hx, hb, hml, hown, hts⟩ (kX2_reachedStates l E h0 a1 a2 b S J (nI 0) (-3) (-3) (-3) hb0 hS0 hJ0) (cwV 0 hts gX2_lookThrough_X2_reachedStates rfl rfl rfl (by decide +kernel) ⟨Nat.le_trans (Nat.le_of_ble_eq_true rfl) hRf, Nat.le_trans (Nat.le_of_ble_eq_true rfl) hRl⟩) (z_preV (As := []) hP hK 0 rfl rfl) rfl rfl hl.1 rfl (lv_room (Nat.le_of_ble_eq_true rfl)) dX2_lookThrough_12 ⟨Nat.zero_le _, Nat.zero_le _⟩) ?_
  refine lv_istore_n (lv' := [(1, .int (rout S b 8)), (0, .ref h0)]) hx hb dX2_lookThrough_15 rfl hl (by decide) rfl (fun ls hl => ?_)
  refine lv_iconst (v := nI 0) hx hb dX2_lookThrough_16 (by decide) ?_
  refine lv_istore_n (lv' := [(2, .int (nI 0)), (1, .int (rout S b 8)), (0, .ref h0)]) hx hb dX2_lookThrough_17 rfl hl (by decide) rfl (fun ls hl => ?_)
  have lp : ∀ (fu : Nat) (i : Nat) (u1 : Int32) (u2 : Int32) (u3 : Int32) (u4 : Int32) (ls : Array Slot) (H : Heap) (locs : List Loc), 8 - i < fu → (i ≤ 8) → (ltF S J b (rout S b 8) (8 - i) i (u1, u2, u3, u4) = ltAll S J b) → lv_has ls 3 [(0, .ref h0), (1, .int (rout S b 8)), (2, .int (nI i))] → va_P E.1 vwCl [(h0, .inr (3, [.int (nI b), .ref a1, .ref a2, .int u1, .int u2, .int u3, .int u4])), (a1, .inl (E.2.1, 32, .inl (fun j => nI (S j)))), (a2, .inl (E.2.1, 64, .inl (fun j => nI (J j))))] H → va_D A [(h0, .inr (3, [.int (nI b), .ref a1, .ref a2, .int u1, .int u2, .int u3, .int u4])), (a1, .inl (E.2.1, 32, .inl (fun j => nI (S j)))), (a2, .inl (E.2.1, 64, .inl (fun j => nI (J j))))] → va_S A s.heap H locs → W p l e R s m args below meth c H locs 0 0 Q (F0 m 18 ls []) := by
    intro fu
    induction fu with
    | zero => intros; exact absurd (by assumption) (Nat.not_lt_zero _)
    | succ fu ihlp =>
      intro i u1 u2 u3 u4 ls H locs hfu hi hq hl hP hD hS
      refine lv_iload_n hx hb dX2_lookThrough_18 rfl (lv_at hl 2 rfl) ?_
      refine lv_bipush (v := nI 8) hx hb dX2_lookThrough_19 (by decide) ?_
      refine zn_icmp_ge (tgt := 51) hx hb dX2_lookThrough_21 (by decide) (by omega) (by omega) (fun c_1 => ?_) (fun c_1 => ?_)
      · obtain rfl : i = 8 := by omega
        exact ret _ _ _ _ (by rw [← hq]; exact hP) hS dX2_lookThrough_51
      · refine lv_aload_n hx hb dX2_lookThrough_24 rfl (lv_at hl 0 rfl) ?_
        refine va_get (D := E.1) (ci := 3) (C := RX2) (T := TX2) (N := 7) hx hb hts hiX2 hown hK.1 hP 0 rfl rfl 3 (by decide) hf22 (fun _ h9 => h9) rfl dX2_lookThrough_25 ?_
        refine lv_if_ne (tgt := 51) hx hb dX2_lookThrough_28 (by decide) (fun c_2 => ?_) (fun c_2 => ?_)
        · exact ret _ _ _ _ (by rw [← hq, lt_hit c_1 c_2]; exact hP) hS dX2_lookThrough_51
        · refine lv_iload_n hx hb dX2_lookThrough_31 rfl (lv_at hl 1 rfl) ?_
          refine lv_iload_n hx hb dX2_lookThrough_32 rfl (lv_at hl 2 rfl) ?_
          refine zc_i (W.runS ⟨hx, hb, hml, hown, hts⟩ (kX2_holds l E (rout S b 8) i) (cwS 2 hts gX2_lookThrough_X2_holds rfl rfl rfl (by decide +kernel) ⟨Nat.le_trans (Nat.le_of_ble_eq_true rfl) hRf, Nat.le_trans (Nat.le_of_ble_eq_true rfl) hRl⟩) (z_preR (av := [.int (rout S b 8), .int (nI i)]) (hP.sub (ws' := []) [] rfl) hK) rfl rfl hl.1 rfl (lv_room (Nat.le_of_ble_eq_true rfl)) dX2_lookThrough_33 ⟨Nat.zero_le _, Nat.zero_le _⟩) ?_
          refine zb_if_eq (tgt := 45) hx hb dX2_lookThrough_36 (by decide) (fun c_3 => ?_) (fun c_3 => ?_)
          · have hq2 : ltF S J b (rout S b 8) (8 - (i + 1)) (i + 1) (u1, u2, u3, u4) = ltAll S J b := by rw [← hq, lt_step c_1 c_2, c_3]; rfl
            refine lv_iinc (v := nI (i + 1)) (lv' := [(2, .int (nI (i + 1))), (0, .ref h0), (1, .int (rout S b 8))]) hx hb dX2_lookThrough_45 hl (k := 2) rfl (z_inc _ 1) (by decide) rfl (fun ls hl => ?_)
            refine lv_goto (tgt := 18) hx hb dX2_lookThrough_48 (by decide) ?_
            exact ihlp (i + 1) u1 u2 u3 u4 ls _ _ (by omega) (by omega) (hq2) (lv_sub hl [1, 2, 0] rfl) hP hD hS
          · have hq2 : ltF S J b (rout S b 8) (8 - (i + 1)) (i + 1) (ltf S J b (rout S b 8) i (u1, u2, u3, u4)) = ltAll S J b := by rw [← hq, lt_step c_1 c_2, c_3]; rfl
            refine lv_aload_n hx hb dX2_lookThrough_39 rfl (lv_at hl 0 rfl) ?_
            refine lv_iload_n hx hb dX2_lookThrough_40 rfl (lv_at hl 2 rfl) ?_
            refine lv_iload_n hx hb dX2_lookThrough_41 rfl (lv_at hl 1 rfl) ?_
            have hPc := hP.sub (ws' := [(h0, .inr (3, [.int (nI b), .ref a1, .ref a2, .int u1, .int u2, .int u3, .int u4])), (a1, .inl (E.2.1, 32, .inl (fun j => nI (S j)))), (a2, .inl (E.2.1, 64, .inl (fun j => nI (J j))))]) [0, 1, 2] rfl
            have hDc := hD.sub (ws' := [(h0, .inr (3, [.int (nI b), .ref a1, .ref a2, .int u1, .int u2, .int u3, .int u4])), (a1, .inl (E.2.1, 32, .inl (fun j => nI (S j)))), (a2, .inl (E.2.1, 64, .inl (fun j => nI (J j))))]) [0, 1, 2] (by decide) rfl
            refine zw_v (E := E) (wc := [(h0, .inr (3, [.int (nI b), .ref a1, .ref a2, .int u1, .int u2, .int u3, .int u4])), (a1, .inl (E.2.1, 32, .inl (fun j => nI (S j)))), (a2, .inl (E.2.1, 64, .inl (fun j => nI (J j))))]) (wc' := [(h0, .inr (3, [.int (nI b), .ref a1, .ref a2, .int ((ltf S J b (rout S b 8) i (u1, u2, u3, u4)).1), .int ((ltf S J b (rout S b 8) i (u1, u2, u3, u4)).2.1), .int ((ltf S J b (rout S b 8) i (u1, u2, u3, u4)).2.2.1), .int ((ltf S J b (rout S b 8) i (u1, u2, u3, u4)).2.2.2)])), (a1, .inl (E.2.1, 32, .inl (fun j => nI (S j)))), (a2, .inl (E.2.1, 64, .inl (fun j => nI (J j))))]) (wr := []) (va_runV ⟨hx, hb, hml, hown, hts⟩ (kX2_lookThroughFrom l E _ h0 a1 a2 b S J u1 u2 u3 u4 hb0 hS0 hJ0 i (rout S b 8) (by omega)) (cwV 2 hts gX2_lookThrough_X2_lookThroughFrom rfl rfl rfl (by decide +kernel) ⟨Nat.le_trans (Nat.le_of_ble_eq_true rfl) hRf, Nat.le_trans (Nat.le_of_ble_eq_true rfl) hRl⟩) (z_preWV (As := [.int (nI i), .int (rout S b 8)]) hPc hDc hK 0 rfl rfl) rfl rfl hl.1 rfl (lv_room (Nat.le_of_ble_eq_true rfl)) dX2_lookThrough_42 ⟨Nat.zero_le _, Nat.zero_le _⟩) hP hD hS hA [0, 1, 2] [] rfl rfl (by decide) (by decide) (by decide) rfl (fun H locs hP hD hS => ?_)
            have hP : va_P E.1 vwCl [(h0, .inr (3, [.int (nI b), .ref a1, .ref a2, .int ((ltf S J b (rout S b 8) i (u1, u2, u3, u4)).1), .int ((ltf S J b (rout S b 8) i (u1, u2, u3, u4)).2.1), .int ((ltf S J b (rout S b 8) i (u1, u2, u3, u4)).2.2.1), .int ((ltf S J b (rout S b 8) i (u1, u2, u3, u4)).2.2.2)])), (a1, .inl (E.2.1, 32, .inl (fun j => nI (S j)))), (a2, .inl (E.2.1, 64, .inl (fun j => nI (J j))))] H := hP
            have hD : va_D A [(h0, .inr (3, [.int (nI b), .ref a1, .ref a2, .int ((ltf S J b (rout S b 8) i (u1, u2, u3, u4)).1), .int ((ltf S J b (rout S b 8) i (u1, u2, u3, u4)).2.1), .int ((ltf S J b (rout S b 8) i (u1, u2, u3, u4)).2.2.1), .int ((ltf S J b (rout S b 8) i (u1, u2, u3, u4)).2.2.2)])), (a1, .inl (E.2.1, 32, .inl (fun j => nI (S j)))), (a2, .inl (E.2.1, 64, .inl (fun j => nI (J j))))] := hD
            refine lv_iinc (v := nI (i + 1)) (lv' := [(2, .int (nI (i + 1))), (0, .ref h0), (1, .int (rout S b 8))]) hx hb dX2_lookThrough_45 hl (k := 2) rfl (z_inc _ 1) (by decide) rfl (fun ls hl => ?_)
            refine lv_goto (tgt := 18) hx hb dX2_lookThrough_48 (by decide) ?_
            exact ihlp (i + 1) ((ltf S J b (rout S b 8) i (u1, u2, u3, u4)).1) ((ltf S J b (rout S b 8) i (u1, u2, u3, u4)).2.1) ((ltf S J b (rout S b 8) i (u1, u2, u3, u4)).2.2.1) ((ltf S J b (rout S b 8) i (u1, u2, u3, u4)).2.2.2) ls _ _ (by omega) (by omega) (hq2) (lv_sub hl [1, 2, 0] rfl) hP hD hS
  exact lp _ 0 (nI 0) (-3) (-3) (-3) ls _ _ (Nat.lt_succ_self _) (Nat.zero_le _) (rfl) (lv_sub hl [2, 1, 0] rfl) hP hD hS
