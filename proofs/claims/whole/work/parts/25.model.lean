/-! the model: joining by halves with a stack of spans -/
def vo (VV : Nat → Int64) (OO : Nat → Nat) : Nat → Int64 := fun k => VV (OO k)
def stk (FD : Nat → Nat) : Nat → List Nat
  | 0 => []
  | F + 1 => FD F :: stk FD F
theorem stk_congr {FD FD' : Nat → Nat} {F : Nat} (h : ∀ k, k < F → FD' k = FD k) : stk FD' F = stk FD F := by
  induction F with
  | zero => rfl
  | succ F ih => unfold stk; rw [h F (by omega), ih (fun k hk => h k (by omega))]
theorem stk_len (FD : Nat → Nat) (F : Nat) : (stk FD F).length = F := by
  induction F with
  | zero => rfl
  | succ F ih => show (stk FD F).length + 1 = _; rw [ih]
/-- what the spans 0 .. k come to over the stack st -/
def hvR (g : Nat → Nat → Nat) (J SF SM : Nat → Nat) : Nat → List Nat → Option (List Nat)
  | 0, st => some st
  | k + 1, st => if SM k = 0 then (match st with
      | y :: x :: r => hvR g J SF SM k (J (8 * x + y) :: r)
      | _ => none) else hvR g J SF SM k (g (SF k) (SM k) :: st)
def sumN (SM : Nat → Nat) : Nat → Nat
  | 0 => 0
  | k + 1 => sumN SM k + SM k
def wtN (SM : Nat → Nat) : Nat → Nat
  | 0 => 0
  | k + 1 => wtN SM k + (if SM k = 0 then 1 else 4 * SM k - 2)
theorem hvR_congr {g : Nat → Nat → Nat} {J SF SM SF' SM' : Nat → Nat} {n : Nat} (h : ∀ k, k < n → SF' k = SF k ∧ SM' k = SM k) (st : List Nat) : hvR g J SF' SM' n st = hvR g J SF SM n st := by
  induction n generalizing st with
  | zero => rfl
  | succ n ih =>
    have h1 := h n (by omega)
    have ih := ih (fun k hk => h k (by omega))
    unfold hvR
    rw [h1.1, h1.2]
    split
    · split
      · exact ih _
      · rfl
    · exact ih _
theorem sumN_congr {SM SM' : Nat → Nat} {n : Nat} (h : ∀ k, k < n → SM' k = SM k) : sumN SM' n = sumN SM n := by
  induction n with
  | zero => rfl
  | succ n ih => unfold sumN; rw [h n (by omega), ih (fun k hk => h k (by omega))]
theorem wtN_congr {SM SM' : Nat → Nat} {n : Nat} (h : ∀ k, k < n → SM' k = SM k) : wtN SM' n = wtN SM n := by
  induction n with
  | zero => rfl
  | succ n ih => unfold wtN; rw [h n (by omega), ih (fun k hk => h k (by omega))]
/-- how many spans there can be -/
theorem hv_len {g : Nat → Nat → Nat} {J SF SM : Nat → Nat} {n : Nat} {st l : List Nat} (h : hvR g J SF SM n st = some l) : n + l.length ≤ st.length + 2 * sumN SM n := by
  induction n generalizing st with
  | zero => have : st = l := Option.some.inj h; subst this; show 0 + _ ≤ _; omega
  | succ n ih =>
    unfold hvR at h
    unfold sumN
    by_cases c : SM n = 0
    · rw [if_pos c] at h
      match st, h with
      | y :: x :: r, h =>
        have := ih h
        simp only [List.length_cons] at this ⊢
        omega
    · rw [if_neg c] at h
      have := ih h
      simp only [List.length_cons] at this
      omega
theorem hvR_real {g : Nat → Nat → Nat} {J SF SM : Nat → Nat} {k : Nat} {st : List Nat} (h : ¬ SM k = 0) : hvR g J SF SM (k + 1) st = hvR g J SF SM k (g (SF k) (SM k) :: st) := by
  conv => lhs; unfold hvR
  rw [if_neg h]
theorem hvR_mk {g : Nat → Nat → Nat} {J SF SM : Nat → Nat} {k x y : Nat} {r : List Nat} (h : SM k = 0) : hvR g J SF SM (k + 1) (y :: x :: r) = hvR g J SF SM k (J (8 * x + y) :: r) := by
  conv => lhs; unfold hvR
  rw [if_pos h]
theorem sumN_s (SM : Nat → Nat) (k : Nat) : sumN SM (k + 1) = sumN SM k + SM k := rfl
theorem wtN_s (SM : Nat → Nat) (k : Nat) : wtN SM (k + 1) = wtN SM k + (if SM k = 0 then 1 else 4 * SM k - 2) := rfl
theorem hv_exp {g : Nat → Nat → Nat} {J SF SM : Nat → Nat} {q : Nat} {st : List Nat} (h2 : 2 ≤ SM q) (hg : g (SF q) (SM q) = J (8 * g (SF q) (SM q / 2) + g (SF q + SM q / 2) (SM q - SM q / 2))) : hvR g J (updN (updN SF (q + 1) (SF q + SM q / 2)) (q + 2) (SF q)) (updN (updN (updN SM q 0) (q + 1) (SM q - SM q / 2)) (q + 2) (SM q / 2)) (q + 3) st = hvR g J SF SM (q + 1) st := by
  have a1 : updN (updN (updN SM q 0) (q + 1) (SM q - SM q / 2)) (q + 2) (SM q / 2) (q + 2) = SM q / 2 := updN_self _ _ _
  have a2 : updN (updN (updN SM q 0) (q + 1) (SM q - SM q / 2)) (q + 2) (SM q / 2) (q + 1) = SM q - SM q / 2 := by rw [updN_ne _ _ (by omega), updN_self]
  have a3 : updN (updN (updN SM q 0) (q + 1) (SM q - SM q / 2)) (q + 2) (SM q / 2) q = 0 := by rw [updN_ne _ _ (by omega), updN_ne _ _ (by omega), updN_self]
  have b1 : updN (updN SF (q + 1) (SF q + SM q / 2)) (q + 2) (SF q) (q + 2) = SF q := updN_self _ _ _
  have b2 : updN (updN SF (q + 1) (SF q + SM q / 2)) (q + 2) (SF q) (q + 1) = SF q + SM q / 2 := by rw [updN_ne _ _ (by omega), updN_self]
  have e1 : ∀ st, hvR g J (updN (updN SF (q + 1) (SF q + SM q / 2)) (q + 2) (SF q)) (updN (updN (updN SM q 0) (q + 1) (SM q - SM q / 2)) (q + 2) (SM q / 2)) q st = hvR g J SF SM q st := fun st => hvR_congr (fun k hk => ⟨by rw [updN_ne _ _ (by omega), updN_ne _ _ (by omega)], by rw [updN_ne _ _ (by omega), updN_ne _ _ (by omega), updN_ne _ _ (by omega)]⟩) st
  rw [show q + 3 = (q + 2) + 1 from rfl, hvR_real (by rw [a1]; omega), a1, b1, show q + 2 = (q + 1) + 1 from rfl, hvR_real (by rw [a2]; omega), a2, b2, hvR_mk a3, hvR_real (by omega), e1, hg]
theorem sum_exp {SM : Nat → Nat} {q : Nat} (h2 : 2 ≤ SM q) : sumN (updN (updN (updN SM q 0) (q + 1) (SM q - SM q / 2)) (q + 2) (SM q / 2)) (q + 3) = sumN SM (q + 1) := by
  rw [show q + 3 = ((q + 1) + 1) + 1 from rfl, sumN_s, sumN_s, sumN_s, sumN_s, show updN (updN (updN SM q 0) (q + 1) (SM q - SM q / 2)) (q + 2) (SM q / 2) (q + 1 + 1) = SM q / 2 from updN_self _ _ _, show updN (updN (updN SM q 0) (q + 1) (SM q - SM q / 2)) (q + 2) (SM q / 2) (q + 1) = SM q - SM q / 2 by rw [updN_ne _ _ (by omega), updN_self], show updN (updN (updN SM q 0) (q + 1) (SM q - SM q / 2)) (q + 2) (SM q / 2) q = 0 by rw [updN_ne _ _ (by omega), updN_ne _ _ (by omega), updN_self], sumN_congr (SM := SM) (fun k hk => by rw [updN_ne _ _ (by omega), updN_ne _ _ (by omega), updN_ne _ _ (by omega)])]
  omega
theorem wt_exp {SM : Nat → Nat} {q : Nat} (h2 : 2 ≤ SM q) : wtN (updN (updN (updN SM q 0) (q + 1) (SM q - SM q / 2)) (q + 2) (SM q / 2)) (q + 3) < wtN SM (q + 1) := by
  rw [show q + 3 = ((q + 1) + 1) + 1 from rfl, wtN_s, wtN_s, wtN_s, wtN_s, show updN (updN (updN SM q 0) (q + 1) (SM q - SM q / 2)) (q + 2) (SM q / 2) (q + 1 + 1) = SM q / 2 from updN_self _ _ _, show updN (updN (updN SM q 0) (q + 1) (SM q - SM q / 2)) (q + 2) (SM q / 2) (q + 1) = SM q - SM q / 2 by rw [updN_ne _ _ (by omega), updN_self], show updN (updN (updN SM q 0) (q + 1) (SM q - SM q / 2)) (q + 2) (SM q / 2) q = 0 by rw [updN_ne _ _ (by omega), updN_ne _ _ (by omega), updN_self], wtN_congr (SM := SM) (fun k hk => by rw [updN_ne _ _ (by omega), updN_ne _ _ (by omega), updN_ne _ _ (by omega)]), if_pos rfl, if_neg (show ¬ SM q - SM q / 2 = 0 by omega), if_neg (show ¬ SM q / 2 = 0 by omega), if_neg (show ¬ SM q = 0 by omega)]
  omega
theorem jh_stab {S J : Nat → Nat} {b : Nat} {V : Nat → Int64} : ∀ f p n, n ≤ 2 ^ f → jhF S J b V (f + 1) p n = jhF S J b V f p n := by
  intro f
  induction f with
  | zero =>
    intro p n hn
    show (if n ≤ 1 then sgl S b V p else _) = sgl S b V p
    rw [if_pos (by simpa using hn)]
  | succ f ih =>
    intro p n hn
    rw [Nat.pow_succ] at hn
    by_cases c : n ≤ 1
    · show (if n ≤ 1 then sgl S b V p else _) = (if n ≤ 1 then sgl S b V p else _)
      rw [if_pos c, if_pos c]
    · rw [← jh_step c, ← jh_step c, ih p (n / 2) (by omega), ih (p + n / 2) (n - n / 2) (by omega)]
theorem jh_8 {S J : Nat → Nat} {b : Nat} {V : Nat → Int64} {p n : Nat} (h2 : 2 ≤ n) (hn : n ≤ 64) : jhF S J b V 8 p n = J (8 * jhF S J b V 8 p (n / 2) + jhF S J b V 8 (p + n / 2) (n - n / 2)) := by
  rw [← jh_step (f := 7) (by omega), jh_stab 7 p (n / 2) (by omega), jh_stab 7 (p + n / 2) (n - n / 2) (by omega), Nat.mul_comm]
theorem jh_1 {S J : Nat → Nat} {b : Nat} {V : Nat → Int64} {p : Nat} : jhF S J b V 8 p 1 = sgl S b V p := rfl
theorem z_ofWix {α : Type} {l : Launch} {y : MethodName} {ws ws' : List Cond} {rm : Room} {E : zE} {wc : va_W} {av : List Value} {wf : α → va_W} {sz : Nat} {v : Int32} {cc : ByteArray} {maxL : Nat} {own : String} (hy : plainName y.cls = true) (hw : ws = Cond.code y cc maxL (some .int) :: ws') (hown : y.cls = own) (hlen : (lg_sl av).length ≤ maxL)
    (body : ∀ (p : Program) (e : Env) (s : State) (m : MethodId) (args : Array Value) (below : List Frame) (meth : Method) (c : Code) (R : Room) (Q : State → Prop) (A : Nat → Prop), zB p s m c args cc maxL own ws E R rm → va_P E.1 vwCl wc s.heap → va_D A wc → (∀ q : Nat, s.heap.size ≤ q → A q) →
      (∀ (pc : Nat) (ls : Array Slot) (H : Heap) (locs : List Loc) (u : α), va_P E.1 vwCl (wf u) H → va_S A s.heap H locs → decode cc pc = .ok (.ireturn, 1) → W p l e R s m args below meth c H locs 0 0 Q (F0 m pc ls [.int v])) →
      ∀ ls : Array Slot, lv_has ls maxL (lv_args 0 av) → W p l e R s m args below meth c s.heap [] 0 0 Q (F0 m 0 ls [])) :
    Met l y ws rm (va_Pc av (zS E wc sz)) (va_Qi (fun (r : Int32) (_ : α) => r = v) (fun u t => zW E (wf u) t) (va_A wc sz)) 0 0 (va_A wc sz) := by
  refine Met.ofW (cc := cc) (maxL := maxL) (ret := some .int) hy hw ?_
  intro p e s m args below meth c s₁ B hml hv
  obtain ⟨rfl, hsz, ⟨hP, hK⟩, hD0⟩ := hv
  have hl := lv_entry av (n := maxL) hlen
  rw [lg_entry_eq]
  subst hsz
  refine body p e s m _ below meth c _ _ (va_A wc s.heap.size) ⟨B.exec, B.bytes, hml, ?_, atoms_spec (ws := ws) B.pre, hK, Nat.le_refl _, Nat.le_refl _⟩ hP (hD0.self (sz := s.heap.size)) (fun q h => Or.inr h) ?_ _ hl
  · rw [← hown]; exact findClass_of_methodNamed B.named
  · intro pc ls H1 locs1 u hP1 hS1 hd
    exact W.iret B.exec B.bytes B.returns (fun t ht hW => ⟨⟨v, u, rfl, rfl, by rw [ht]; exact hP1, hK.warm hW⟩, hS1.F ht⟩) hS1.2.2 hd (hlocks := B.notSynchronized)
def smJ (n : Nat) (K M : Nat → Nat) (TT : Nat → Int32) (VV : Nat → Int64) (OO : Nat → Nat) (f w : Int32) : Nat → Nat := (fidx n f).elim OO (fun j => if K j = 4 ∧ ¬ (w < 0 ∨ nI 2 < w) ∧ ¬ M j = 0 then layO TT VV OO j (M j) else OO)
section ZALLX
variable {p : Program} {l : Launch} {e : Env} {R : Room} {s : State} {m : MethodId} {args : Array Value} {below : List Frame} {meth : Method} {c : Code} {H : Heap} {locs : List Loc} {cells slots : Nat} {Q : State → Prop} {pc : Nat} {ls : Array Slot} {rest st0 : List Value} {E : zE} {A : Nat → Prop} {a : Array Value}
theorem zallx_i {α : Type} {wc : va_W} {wf : α → va_W} {v : Int32} (hr : va_Run p l e R s m args below meth c H locs cells slots 0 0 (F0 m pc ls st0) rest (va_Qi (fun (r : Int32) (_ : α) => r = v) (fun u t => zW E (wf u) t) (va_A wc H.size) a) (va_A wc H.size)) (hD : va_D A wc) (hS : va_S A s.heap H locs) (hA : ∀ q : Nat, s.heap.size ≤ q → A q) (he : ∀ u, (wf u).map Prod.fst = wc.map Prod.fst)
    (kk : ∀ (H1 : Heap) (locs1 : List Loc) (u : α), va_P E.1 vwCl (wf u) H1 → va_D A (wf u) → va_S A s.heap H1 locs1 → W p l e R s m args below meth c H1 locs1 cells slots Q (F0 m (pc + 3) ls (.int v :: rest))) : W p l e R s m args below meth c H locs cells slots Q (F0 m pc ls st0) := by
  have hFc : ∀ q, va_A wc H.size q → A q := x_free hD hS hA (fun k q h => ⟨k, h⟩)
  refine va_calli hr hS (fun q _ h => hFc q h) hFc (fun r u t H1 locs1 ht hvm hw hB hz1 hk1 hS1 => ?_)
  subst hw
  exact kk H1 locs1 u (by rw [← ht]; exact hB.1) (z_Da hD (he u)) hS1
end ZALLX
def isGs (VV : Nat → Int64) (OO : Nat → Nat) (m : Nat) : Prop := ∀ k, k < m → OO k < 768 ∧ isOwn (VV (OO k))
theorem inw2_t {w : Int32} (h : inL w.toInt64 0 2 = true) : ¬ (w < 0 ∨ nI 2 < w) := by
  have h : inL w.toInt64 0 (nI 2).toInt64 = true := h
  rw [inw_b] at h; exact fun q => q.elim (of_decide_eq_true h).1 (of_decide_eq_true h).2
theorem inw2_f {w : Int32} (h : inL w.toInt64 0 2 = false) : w < 0 ∨ nI 2 < w := by
  have h : inL w.toInt64 0 (nI 2).toInt64 = false := h
  rw [inw_b] at h
  have h := of_decide_eq_false h
  by_cases c : w < 0
  · exact Or.inl c
  · exact Or.inr (Decidable.of_not_not (fun q => h ⟨c, q⟩))
theorem hv_mark {g : Nat → Nat → Nat} {J SF SM FD : Nat → Nat} {q F G : Nat} (h0 : SM q = 0) (h : hvR g J SF SM (q + 1) (stk FD F) = some [G]) : 2 ≤ F ∧ hvR g J SF SM q (stk (updN FD (F - 1 - 1) (J (8 * FD (F - 1 - 1) + FD (F - 1)))) (F - 1)) = some [G] := by
  unfold hvR at h
  rw [if_pos h0] at h
  match F, h with
  | F + 2, h =>
    refine ⟨by omega, ?_⟩
    have e : stk (updN FD (F + 2 - 1 - 1) (J (8 * FD (F + 2 - 1 - 1) + FD (F + 2 - 1)))) (F + 2 - 1) = J (8 * FD F + FD (F + 1)) :: stk FD F := by
      show updN FD F (J (8 * FD F + FD (F + 1))) F :: stk (updN FD F (J (8 * FD F + FD (F + 1)))) F = _
      rw [updN_self, stk_congr (FD := FD) (fun k hk => updN_ne _ _ (by omega))]
    rw [e]
    exact h
theorem hv_one {g : Nat → Nat → Nat} {J SF SM FD : Nat → Nat} {q F G : Nat} (h0 : ¬ SM q = 0) (h : hvR g J SF SM (q + 1) (stk FD F) = some [G]) : hvR g J SF SM q (stk (updN FD F (g (SF q) (SM q))) (F + 1)) = some [G] := by
  unfold hvR at h
  rw [if_neg h0] at h
  have e : stk (updN FD F (g (SF q) (SM q))) (F + 1) = g (SF q) (SM q) :: stk FD F := by
    show updN FD F (g (SF q) (SM q)) F :: stk (updN FD F (g (SF q) (SM q))) F = _
    rw [updN_self, stk_congr (FD := FD) (fun k hk => updN_ne _ _ (by omega))]
  rw [e]; exact h
set_option maxHeartbeats 4000000 in
set_option maxRecDepth 100000 in
theorem kX4_single (l : Launch) (E : zE) (m0 k0 q0 t0 v0 c0 o0 s0 j0 r0 f0 g0 h0 : Nat) (cd : Int32) (n : Nat) (K M : Nat → Nat) (TT : Nat → Int32) (VV CC : Nat → Int64) (OO : Nat → Nat) (b : Nat) (S J : Nat → Nat) (RR : Nat → Bool) (w1 w2 w3 w4 : Int32) (SF SM FD : Nat → Nat) (hn : n ≤ 12) (hb0 : b < 8) (hS0 : ∀ j, S j < 8) (hJ0 : ∀ j, J j < 8) (k : Nat) (hk64 : k < 64) (hok : OO k < 768 ∧ isOwn (VV (OO k))) : Met l yX4_single wsX4_single (rmL 0) (va_Pc [.ref m0, .int (nI k)] (zW E (mW E m0 k0 q0 t0 v0 c0 o0 s0 j0 r0 f0 g0 h0 cd n K M TT VV CC OO b S J RR w1 w2 w3 w4 SF SM FD))) (vp_Si (fun r9 => r9 = nI (sgl S b (vo VV OO) k))) 0 0 (fun _ => False) := by
  refine z_ofRi (cc := cX4_single) (maxL := 2) (own := RX4) (by decide) rfl rfl (Nat.le_of_ble_eq_true rfl) ?_
  intro p e s m args below meth c R Q B hP ret ls hl
  obtain ⟨hx, hb, hml, hown, hts, hK, hRf, hRl⟩ := B
  have hiX4 : ∀ w ∈ wsX40, w ∈ wsX4_single := by decide +kernel
  have hf19 := hts (.fieldLink RX4 19 "ExactFoldsModel" "values" "[J") (by decide +kernel)
  have hf26 := hts (.fieldLink RX4 26 "ExactFoldsModel" "order" "[I") (by decide +kernel)
  have hf29 := hts (.fieldLink RX4 29 "ExactFoldsModel" "steps" "[I") (by decide +kernel)
  have hf155 := hts (.fieldLink RX4 155 "ExactFoldsModel" "begin" "I") (by decide +kernel)
  have hl : lv_has ls 2 [(0, .ref m0), (1, .int (nI k))] := hl
  have hv4 := vN_lt hok.2
  refine lv_aload_n hx hb dX4_single_0 rfl (lv_at hl 0 rfl) ?_
  refine va_get (D := E.1) (ci := 5) (C := RX4) (T := TX4) (N := 19) hx hb hts hiX4 hown hK.1 hP 0 rfl rfl 9 (by decide) hf29 (fun _ h9 => h9) rfl dX4_single_1 ?_
  refine lv_iconst (v := nI 4) hx hb dX4_single_4 (by decide) ?_
  refine lv_aload_n hx hb dX4_single_5 rfl (lv_at hl 0 rfl) ?_
  refine va_get (D := E.1) (ci := 5) (C := RX4) (T := TX4) (N := 19) hx hb hts hiX4 hown hK.1 hP 0 rfl rfl 8 (by decide) hf155 (fun _ h9 => h9) rfl dX4_single_6 ?_
  refine zn_imul hx hb dX4_single_9 ?_
  refine lv_aload_n hx hb dX4_single_10 rfl (lv_at hl 0 rfl) ?_
  refine va_get (D := E.1) (ci := 5) (C := RX4) (T := TX4) (N := 19) hx hb hts hiX4 hown hK.1 hP 0 rfl rfl 5 (by decide) hf19 (fun _ h9 => h9) rfl dX4_single_11 ?_
  refine lv_aload_n hx hb dX4_single_14 rfl (lv_at hl 0 rfl) ?_
  refine va_get (D := E.1) (ci := 5) (C := RX4) (T := TX4) (N := 19) hx hb hts hiX4 hown hK.1 hP 0 rfl rfl 7 (by decide) hf26 (fun _ h9 => h9) rfl dX4_single_15 ?_
  refine lv_iload_n hx hb dX4_single_18 rfl (lv_at hl 1 rfl) ?_
  refine zn_iald hx hb hK.1 hP 6 0 rfl rfl (by omega) (by decide) dX4_single_19 ?_
  refine zn_lald hx hb hK.1 hP 4 1 rfl rfl (by omega) (by decide) dX4_single_20 ?_
  refine lv_l2i (v := nI (vN (VV (OO k)))) hx hb dX4_single_21 (vN_i hok.2) ?_
  refine zn_iadd hx hb dX4_single_22 ?_
  refine zn_iald hx hb hK.1 hP 7 0 rfl rfl (by omega) (by decide) dX4_single_23 ?_
  exact z_reti (by unfold sgl vo; rw [Nat.mul_comm b 4]) (ret _ _ dX4_single_24)
set_option maxHeartbeats 4000000 in
set_option maxRecDepth 100000 in
theorem kX4_halved (l : Launch) (E : zE) (sz : Nat) (m0 k0 q0 t0 v0 c0 o0 s0 j0 r0 f0 g0 h0 : Nat) (cd : Int32) (n : Nat) (K M : Nat → Nat) (TT : Nat → Int32) (VV CC : Nat → Int64) (OO : Nat → Nat) (b : Nat) (S J : Nat → Nat) (RR : Nat → Bool) (w1 w2 w3 w4 : Int32) (SF SM FD : Nat → Nat) (hn : n ≤ 12) (hM : ∀ j, j < n → M j ≤ 64) (hb0 : b < 8) (hS0 : ∀ j, S j < 8) (hJ0 : ∀ j, J j < 8) (j : Nat) (hjj : j < n) (hgs : isGs VV OO (M j)) (hm0 : 0 < M j) : Met l yX4_halved wsX4_halved (rmL 1) (va_Pc [.ref m0, .int (nI j)] (zS E (mW E m0 k0 q0 t0 v0 c0 o0 s0 j0 r0 f0 g0 h0 cd n K M TT VV CC OO b S J RR w1 w2 w3 w4 SF SM FD) sz)) (va_Qi (fun (r9 : Int32) (_ : (Nat → Nat) × (Nat → Nat) × (Nat → Nat)) => r9 = nI (jhF S J b (vo VV OO) 8 0 (M j))) (fun u t9 => zW E (mW E m0 k0 q0 t0 v0 c0 o0 s0 j0 r0 f0 g0 h0 cd n K M TT VV CC OO b S J RR w1 w2 w3 w4 u.1 u.2.1 u.2.2) t9) (va_A (mW E m0 k0 q0 t0 v0 c0 o0 s0 j0 r0 f0 g0 h0 cd n K M TT VV CC OO b S J RR w1 w2 w3 w4 SF SM FD) sz)) 0 0 (va_A (mW E m0 k0 q0 t0 v0 c0 o0 s0 j0 r0 f0 g0 h0 cd n K M TT VV CC OO b S J RR w1 w2 w3 w4 SF SM FD) sz) := by
  refine z_ofWix (cc := cX4_halved) (maxL := 6) (own := RX4) (by decide) rfl rfl (Nat.le_of_ble_eq_true rfl) ?_
  intro p e s m args below meth c R Q A B hP hD hA ret ls hl
  obtain ⟨hx, hb, hml, hown, hts, hK, hRf, hRl⟩ := B
  have hiX4 : ∀ w ∈ wsX40, w ∈ wsX4_halved := by decide +kernel
  have hf13 := hts (.fieldLink RX4 13 "ExactFoldsModel" "many" "[I") (by decide +kernel)
  have hf32 := hts (.fieldLink RX4 32 "ExactFoldsModel" "joins" "[I") (by decide +kernel)
  have hf39 := hts (.fieldLink RX4 39 "ExactFoldsModel" "spanFrom" "[I") (by decide +kernel)
  have hf42 := hts (.fieldLink RX4 42 "ExactFoldsModel" "spanMany" "[I") (by decide +kernel)
  have hf45 := hts (.fieldLink RX4 45 "ExactFoldsModel" "found" "[I") (by decide +kernel)
  have hS : va_S A s.heap s.heap [] := va_S.rf
  have hl : lv_has ls 6 [(0, .ref m0), (1, .int (nI j))] := hl
  have hMj := hM j hjj
  refine lv_iconst (v := nI 1) hx hb dX4_halved_0 (by decide) ?_
  refine lv_istore_n (lv' := [(2, .int (nI 1)), (0, .ref m0), (1, .int (nI j))]) hx hb dX4_halved_1 rfl hl (by decide) rfl (fun ls hl => ?_)
  refine lv_iconst (v := nI 0) hx hb dX4_halved_2 (by decide) ?_
  refine lv_istore_n (lv' := [(3, .int (nI 0)), (2, .int (nI 1)), (0, .ref m0), (1, .int (nI j))]) hx hb dX4_halved_3 rfl hl (by decide) rfl (fun ls hl => ?_)
  refine lv_aload_n hx hb dX4_halved_4 rfl (lv_at hl 2 rfl) ?_
  refine va_get (D := E.1) (ci := 5) (C := RX4) (T := TX4) (N := 19) hx hb hts hiX4 hown hK.1 hP 0 rfl rfl 16 (by decide) hf39 (fun _ h9 => h9) rfl dX4_halved_5 ?_
  refine lv_iconst (v := nI 0) hx hb dX4_halved_8 (by decide) ?_
  refine lv_iconst (v := nI 0) hx hb dX4_halved_9 (by decide) ?_
  refine zn_iast hx hb hK.1 hP hD hS 10 0 rfl rfl (by omega) (by decide) dX4_halved_10 (fun H locs hP hD hS => ?_)
  have hP : va_P E.1 vwCl (mW E m0 k0 q0 t0 v0 c0 o0 s0 j0 r0 f0 g0 h0 cd n K M TT VV CC OO b S J RR w1 w2 w3 w4 (updN SF 0 0) SM FD) H := by rw [upd_nI] at hP; exact hP
  have hD : va_D A (mW E m0 k0 q0 t0 v0 c0 o0 s0 j0 r0 f0 g0 h0 cd n K M TT VV CC OO b S J RR w1 w2 w3 w4 (updN SF 0 0) SM FD) := by rw [upd_nI] at hD; exact hD
  refine lv_aload_n hx hb dX4_halved_11 rfl (lv_at hl 2 rfl) ?_
  refine va_get (D := E.1) (ci := 5) (C := RX4) (T := TX4) (N := 19) hx hb hts hiX4 hown hK.1 hP 0 rfl rfl 17 (by decide) hf42 (fun _ h9 => h9) rfl dX4_halved_12 ?_
  refine lv_iconst (v := nI 0) hx hb dX4_halved_15 (by decide) ?_
  refine lv_aload_n hx hb dX4_halved_16 rfl (lv_at hl 2 rfl) ?_
  refine va_get (D := E.1) (ci := 5) (C := RX4) (T := TX4) (N := 19) hx hb hts hiX4 hown hK.1 hP 0 rfl rfl 3 (by decide) hf13 (fun _ h9 => h9) rfl dX4_halved_17 ?_
  refine lv_iload_n hx hb dX4_halved_20 rfl (lv_at hl 3 rfl) ?_
  refine zn_iald hx hb hK.1 hP 2 0 rfl rfl (by omega) (by decide) dX4_halved_21 ?_
  refine zn_iast hx hb hK.1 hP hD hS 11 0 rfl rfl (by omega) (by decide) dX4_halved_22 (fun H locs hP hD hS => ?_)
  have hP : va_P E.1 vwCl (mW E m0 k0 q0 t0 v0 c0 o0 s0 j0 r0 f0 g0 h0 cd n K M TT VV CC OO b S J RR w1 w2 w3 w4 (updN SF 0 0) (updN SM 0 (M j)) FD) H := by rw [upd_nI] at hP; exact hP
  have hD : va_D A (mW E m0 k0 q0 t0 v0 c0 o0 s0 j0 r0 f0 g0 h0 cd n K M TT VV CC OO b S J RR w1 w2 w3 w4 (updN SF 0 0) (updN SM 0 (M j)) FD) := by rw [upd_nI] at hD; exact hD
  have lp : ∀ (fu : Nat) (sp : Nat) (F : Nat) (A1 : Nat → Nat) (A2 : Nat → Nat) (A3 : Nat → Nat) (ls : Array Slot) (H : Heap) (locs : List Loc), wtN A2 sp < fu → (hvR (jhF S J b (vo VV OO) 8) J A1 A2 sp (stk A3 F) = some [jhF S J b (vo VV OO) 8 0 (M j)]) → (F + sumN A2 sp ≤ 64) → (∀ k, k < sp → A2 k ≠ 0 → A1 k + A2 k ≤ M j) → (∀ k, k < F → A3 k < 8) → lv_has ls 6 [(0, .ref m0), (1, .int (nI j)), (2, .int (nI sp)), (3, .int (nI F))] → va_P E.1 vwCl (mW E m0 k0 q0 t0 v0 c0 o0 s0 j0 r0 f0 g0 h0 cd n K M TT VV CC OO b S J RR w1 w2 w3 w4 A1 A2 A3) H → va_D A (mW E m0 k0 q0 t0 v0 c0 o0 s0 j0 r0 f0 g0 h0 cd n K M TT VV CC OO b S J RR w1 w2 w3 w4 A1 A2 A3) → va_S A s.heap H locs → W p l e R s m args below meth c H locs 0 0 Q (F0 m 23 ls []) := by
    intro fu
    induction fu with
    | zero => intros; exact absurd (by assumption) (Nat.not_lt_zero _)
    | succ fu ihlp =>
      intro sp F A1 A2 A3 ls H locs hfu hv hfs hsg hfe hl hP hD hS
      have hln := hv_len hv
      rw [stk_len] at hln
      have hln : sp + 1 ≤ F + 2 * sumN A2 sp := hln
      refine lv_iload_n hx hb dX4_halved_23 rfl (lv_at hl 2 rfl) ?_
      refine zn_if_le (tgt := 177) hx hb dX4_halved_24 (by decide) (by omega) (fun c_1 => ?_) (fun c_1 => ?_)
      · obtain rfl : sp = 0 := by omega
        have hst : stk A3 F = [jhF S J b (vo VV OO) 8 0 (M j)] := Option.some.inj hv
        obtain rfl : F = 1 := by have h9 := stk_len A3 F; rw [hst] at h9; exact h9.symm
        have hres : A3 0 = jhF S J b (vo VV OO) 8 0 (M j) := by have h9 : [A3 0] = [jhF S J b (vo VV OO) 8 0 (M j)] := hst; exact List.cons.inj h9 |>.1
        refine lv_aload_n hx hb dX4_halved_177 rfl (lv_at hl 0 rfl) ?_
        refine va_get (D := E.1) (ci := 5) (C := RX4) (T := TX4) (N := 19) hx hb hts hiX4 hown hK.1 hP 0 rfl rfl 18 (by decide) hf45 (fun _ h9 => h9) rfl dX4_halved_178 ?_
        refine lv_iconst (v := nI 0) hx hb dX4_halved_181 (by decide) ?_
        refine zn_iald hx hb hK.1 hP 12 0 rfl rfl (by omega) (by decide) dX4_halved_182 ?_
        exact z_reti (by rw [hres]) (ret _ _ _ _ (A1, A2, A3) hP hS dX4_halved_183)
      · have hsp1 : sp - 1 + 1 = sp := by omega
        rw [← hsp1] at hv
        have hss : sumN A2 sp = sumN A2 (sp - 1) + A2 (sp - 1) := by rw [← sumN_s, hsp1]
        have hww : wtN A2 sp = wtN A2 (sp - 1) + (if A2 (sp - 1) = 0 then 1 else 4 * A2 (sp - 1) - 2) := by rw [← wtN_s, hsp1]
        refine lv_iinc (v := nI (sp - 1)) (lv' := [(2, .int (nI (sp - 1))), (0, .ref m0), (1, .int (nI j)), (3, .int (nI F))]) hx hb dX4_halved_27 hl (k := 2) rfl (z_dec 1 (by omega)) (by decide) rfl (fun ls hl => ?_)
        refine lv_aload_n hx hb dX4_halved_30 rfl (lv_at hl 1 rfl) ?_
        refine va_get (D := E.1) (ci := 5) (C := RX4) (T := TX4) (N := 19) hx hb hts hiX4 hown hK.1 hP 0 rfl rfl 16 (by decide) hf39 (fun _ h9 => h9) rfl dX4_halved_31 ?_
        refine lv_iload_n hx hb dX4_halved_34 rfl (lv_at hl 0 rfl) ?_
        refine zn_iald hx hb hK.1 hP 10 0 rfl rfl (by omega) (by decide) dX4_halved_35 ?_
        refine lv_istore (lv' := [(4, .int (nI (A1 (sp - 1)))), (2, .int (nI (sp - 1))), (0, .ref m0), (1, .int (nI j)), (3, .int (nI F))]) hx hb dX4_halved_36 hl (by decide) rfl (fun ls hl => ?_)
        refine lv_aload_n hx hb dX4_halved_38 rfl (lv_at hl 2 rfl) ?_
        refine va_get (D := E.1) (ci := 5) (C := RX4) (T := TX4) (N := 19) hx hb hts hiX4 hown hK.1 hP 0 rfl rfl 17 (by decide) hf42 (fun _ h9 => h9) rfl dX4_halved_39 ?_
        refine lv_iload_n hx hb dX4_halved_42 rfl (lv_at hl 1 rfl) ?_
        refine zn_iald hx hb hK.1 hP 11 0 rfl rfl (by omega) (by decide) dX4_halved_43 ?_
        refine lv_istore (lv' := [(5, .int (nI (A2 (sp - 1)))), (4, .int (nI (A1 (sp - 1)))), (2, .int (nI (sp - 1))), (0, .ref m0), (1, .int (nI j)), (3, .int (nI F))]) hx hb dX4_halved_44 hl (by decide) rfl (fun ls hl => ?_)
        refine lv_iload hx hb dX4_halved_46 (lv_at hl 0 rfl) ?_
        refine zn_if_ne (tgt := 88) hx hb dX4_halved_48 (by decide) (by omega) (fun c_2 => ?_) (fun c_2 => ?_)
        · rw [if_neg c_2] at hww
          have hsgq := hsg (sp - 1) (by omega) c_2
          refine lv_iload hx hb dX4_halved_88 (lv_at hl 0 rfl) ?_
          refine lv_iconst (v := nI 1) hx hb dX4_halved_90 (by decide) ?_
          refine zn_icmp_ne (tgt := 112) hx hb dX4_halved_91 (by decide) (by omega) (by omega) (fun c_3 => ?_) (fun c_3 => ?_)
          · have h2m : 2 ≤ A2 (sp - 1) := by omega
            have hm64 : A2 (sp - 1) ≤ 64 := by omega
            have hv2 := hv
            rw [← hv_exp h2m (jh_8 h2m hm64)] at hv2
            have hfs2 : F + sumN (updN (updN (updN A2 (sp - 1) 0) (sp - 1 + 1) (A2 (sp - 1) - A2 (sp - 1) / 2)) (sp - 1 + 2) (A2 (sp - 1) / 2)) (sp - 1 + 3) ≤ 64 := by rw [sum_exp h2m, hsp1]; exact hfs
            have hwt := wt_exp h2m
            have hsp2 : wtN A2 (sp - 1 + 1) = wtN A2 sp := by rw [hsp1]
            have hsg2 : ∀ k, k < sp - 1 + 3 → updN (updN (updN A2 (sp - 1) 0) (sp - 1 + 1) (A2 (sp - 1) - A2 (sp - 1) / 2)) (sp - 1 + 2) (A2 (sp - 1) / 2) k ≠ 0 → updN (updN A1 (sp - 1 + 1) (A1 (sp - 1) + A2 (sp - 1) / 2)) (sp - 1 + 2) (A1 (sp - 1)) k + updN (updN (updN A2 (sp - 1) 0) (sp - 1 + 1) (A2 (sp - 1) - A2 (sp - 1) / 2)) (sp - 1 + 2) (A2 (sp - 1) / 2) k ≤ M j := by
              intro k h9 h10
              by_cases e1 : k = sp - 1 + 2
              · subst e1; rw [updN_self, updN_self]; omega
              · rw [updN_ne _ _ e1, updN_ne _ _ e1]
                rw [updN_ne _ _ e1] at h10
                by_cases e2 : k = sp - 1 + 1
                · subst e2; rw [updN_self, updN_self]; omega
                · rw [updN_ne _ _ e2, updN_ne _ _ e2]
                  rw [updN_ne _ _ e2] at h10
                  by_cases e3 : k = sp - 1
                  · subst e3; rw [updN_self] at h10; exact absurd rfl h10
                  · rw [updN_ne _ _ e3]
                    rw [updN_ne _ _ e3] at h10
                    exact hsg k (by omega) h10
            have hfe2 := hfe
            refine lv_aload_n hx hb dX4_halved_112 rfl (lv_at hl 3 rfl) ?_
            refine va_get (D := E.1) (ci := 5) (C := RX4) (T := TX4) (N := 19) hx hb hts hiX4 hown hK.1 hP 0 rfl rfl 17 (by decide) hf42 (fun _ h9 => h9) rfl dX4_halved_113 ?_
            refine lv_iload_n hx hb dX4_halved_116 rfl (lv_at hl 2 rfl) ?_
            refine lv_iconst (v := nI 0) hx hb dX4_halved_117 (by decide) ?_
            refine zn_iast hx hb hK.1 hP hD hS 11 0 rfl rfl (by omega) (by decide) dX4_halved_118 (fun H locs hP hD hS => ?_)
            have hP : va_P E.1 vwCl (mW E m0 k0 q0 t0 v0 c0 o0 s0 j0 r0 f0 g0 h0 cd n K M TT VV CC OO b S J RR w1 w2 w3 w4 A1 (updN A2 (sp - 1) 0) A3) H := by rw [upd_nI] at hP; exact hP
            have hD : va_D A (mW E m0 k0 q0 t0 v0 c0 o0 s0 j0 r0 f0 g0 h0 cd n K M TT VV CC OO b S J RR w1 w2 w3 w4 A1 (updN A2 (sp - 1) 0) A3) := by rw [upd_nI] at hD; exact hD
            refine lv_aload_n hx hb dX4_halved_119 rfl (lv_at hl 3 rfl) ?_
            refine va_get (D := E.1) (ci := 5) (C := RX4) (T := TX4) (N := 19) hx hb hts hiX4 hown hK.1 hP 0 rfl rfl 16 (by decide) hf39 (fun _ h9 => h9) rfl dX4_halved_120 ?_
            refine lv_iload_n hx hb dX4_halved_123 rfl (lv_at hl 2 rfl) ?_
            refine lv_iconst (v := nI 1) hx hb dX4_halved_124 (by decide) ?_
            refine zn_iadd hx hb dX4_halved_125 ?_
            refine lv_iload hx hb dX4_halved_126 (lv_at hl 1 rfl) ?_
            refine lv_iload hx hb dX4_halved_128 (lv_at hl 0 rfl) ?_
            refine lv_iconst (v := nI 2) hx hb dX4_halved_130 (by decide) ?_
            refine zn_idiv hx hb (by omega) (by omega) (by omega) dX4_halved_131 ?_
            refine zn_iadd hx hb dX4_halved_132 ?_
            refine zn_iast hx hb hK.1 hP hD hS 10 0 rfl rfl (by omega) (by decide) dX4_halved_133 (fun H locs hP hD hS => ?_)
            have hP : va_P E.1 vwCl (mW E m0 k0 q0 t0 v0 c0 o0 s0 j0 r0 f0 g0 h0 cd n K M TT VV CC OO b S J RR w1 w2 w3 w4 (updN A1 ((sp - 1) + 1) ((A1 (sp - 1)) + ((A2 (sp - 1)) / 2))) (updN A2 (sp - 1) 0) A3) H := by rw [upd_nI] at hP; exact hP
            have hD : va_D A (mW E m0 k0 q0 t0 v0 c0 o0 s0 j0 r0 f0 g0 h0 cd n K M TT VV CC OO b S J RR w1 w2 w3 w4 (updN A1 ((sp - 1) + 1) ((A1 (sp - 1)) + ((A2 (sp - 1)) / 2))) (updN A2 (sp - 1) 0) A3) := by rw [upd_nI] at hD; exact hD
            refine lv_aload_n hx hb dX4_halved_134 rfl (lv_at hl 3 rfl) ?_
            refine va_get (D := E.1) (ci := 5) (C := RX4) (T := TX4) (N := 19) hx hb hts hiX4 hown hK.1 hP 0 rfl rfl 17 (by decide) hf42 (fun _ h9 => h9) rfl dX4_halved_135 ?_
            refine lv_iload_n hx hb dX4_halved_138 rfl (lv_at hl 2 rfl) ?_
            refine lv_iconst (v := nI 1) hx hb dX4_halved_139 (by decide) ?_
            refine zn_iadd hx hb dX4_halved_140 ?_
            refine lv_iload hx hb dX4_halved_141 (lv_at hl 0 rfl) ?_
            refine lv_iload hx hb dX4_halved_143 (lv_at hl 0 rfl) ?_
            refine lv_iconst (v := nI 2) hx hb dX4_halved_145 (by decide) ?_
            refine zn_idiv hx hb (by omega) (by omega) (by omega) dX4_halved_146 ?_
            refine zn_isub hx hb (by omega) dX4_halved_147 ?_
            refine zn_iast hx hb hK.1 hP hD hS 11 0 rfl rfl (by omega) (by decide) dX4_halved_148 (fun H locs hP hD hS => ?_)
            have hP : va_P E.1 vwCl (mW E m0 k0 q0 t0 v0 c0 o0 s0 j0 r0 f0 g0 h0 cd n K M TT VV CC OO b S J RR w1 w2 w3 w4 (updN A1 ((sp - 1) + 1) ((A1 (sp - 1)) + ((A2 (sp - 1)) / 2))) (updN (updN A2 (sp - 1) 0) ((sp - 1) + 1) ((A2 (sp - 1)) - ((A2 (sp - 1)) / 2))) A3) H := by rw [upd_nI] at hP; exact hP
            have hD : va_D A (mW E m0 k0 q0 t0 v0 c0 o0 s0 j0 r0 f0 g0 h0 cd n K M TT VV CC OO b S J RR w1 w2 w3 w4 (updN A1 ((sp - 1) + 1) ((A1 (sp - 1)) + ((A2 (sp - 1)) / 2))) (updN (updN A2 (sp - 1) 0) ((sp - 1) + 1) ((A2 (sp - 1)) - ((A2 (sp - 1)) / 2))) A3) := by rw [upd_nI] at hD; exact hD
            refine lv_aload_n hx hb dX4_halved_149 rfl (lv_at hl 3 rfl) ?_
            refine va_get (D := E.1) (ci := 5) (C := RX4) (T := TX4) (N := 19) hx hb hts hiX4 hown hK.1 hP 0 rfl rfl 16 (by decide) hf39 (fun _ h9 => h9) rfl dX4_halved_150 ?_
            refine lv_iload_n hx hb dX4_halved_153 rfl (lv_at hl 2 rfl) ?_
            refine lv_iconst (v := nI 2) hx hb dX4_halved_154 (by decide) ?_
            refine zn_iadd hx hb dX4_halved_155 ?_
            refine lv_iload hx hb dX4_halved_156 (lv_at hl 1 rfl) ?_
            refine zn_iast hx hb hK.1 hP hD hS 10 0 rfl rfl (by omega) (by decide) dX4_halved_158 (fun H locs hP hD hS => ?_)
            have hP : va_P E.1 vwCl (mW E m0 k0 q0 t0 v0 c0 o0 s0 j0 r0 f0 g0 h0 cd n K M TT VV CC OO b S J RR w1 w2 w3 w4 (updN (updN A1 ((sp - 1) + 1) ((A1 (sp - 1)) + ((A2 (sp - 1)) / 2))) ((sp - 1) + 2) (A1 (sp - 1))) (updN (updN A2 (sp - 1) 0) ((sp - 1) + 1) ((A2 (sp - 1)) - ((A2 (sp - 1)) / 2))) A3) H := by rw [upd_nI] at hP; exact hP
            have hD : va_D A (mW E m0 k0 q0 t0 v0 c0 o0 s0 j0 r0 f0 g0 h0 cd n K M TT VV CC OO b S J RR w1 w2 w3 w4 (updN (updN A1 ((sp - 1) + 1) ((A1 (sp - 1)) + ((A2 (sp - 1)) / 2))) ((sp - 1) + 2) (A1 (sp - 1))) (updN (updN A2 (sp - 1) 0) ((sp - 1) + 1) ((A2 (sp - 1)) - ((A2 (sp - 1)) / 2))) A3) := by rw [upd_nI] at hD; exact hD
            refine lv_aload_n hx hb dX4_halved_159 rfl (lv_at hl 3 rfl) ?_
            refine va_get (D := E.1) (ci := 5) (C := RX4) (T := TX4) (N := 19) hx hb hts hiX4 hown hK.1 hP 0 rfl rfl 17 (by decide) hf42 (fun _ h9 => h9) rfl dX4_halved_160 ?_
            refine lv_iload_n hx hb dX4_halved_163 rfl (lv_at hl 2 rfl) ?_
            refine lv_iconst (v := nI 2) hx hb dX4_halved_164 (by decide) ?_
            refine zn_iadd hx hb dX4_halved_165 ?_
            refine lv_iload hx hb dX4_halved_166 (lv_at hl 0 rfl) ?_
            refine lv_iconst (v := nI 2) hx hb dX4_halved_168 (by decide) ?_
            refine zn_idiv hx hb (by omega) (by omega) (by omega) dX4_halved_169 ?_
            refine zn_iast hx hb hK.1 hP hD hS 11 0 rfl rfl (by omega) (by decide) dX4_halved_170 (fun H locs hP hD hS => ?_)
            have hP : va_P E.1 vwCl (mW E m0 k0 q0 t0 v0 c0 o0 s0 j0 r0 f0 g0 h0 cd n K M TT VV CC OO b S J RR w1 w2 w3 w4 (updN (updN A1 ((sp - 1) + 1) ((A1 (sp - 1)) + ((A2 (sp - 1)) / 2))) ((sp - 1) + 2) (A1 (sp - 1))) (updN (updN (updN A2 (sp - 1) 0) ((sp - 1) + 1) ((A2 (sp - 1)) - ((A2 (sp - 1)) / 2))) ((sp - 1) + 2) ((A2 (sp - 1)) / 2)) A3) H := by rw [upd_nI] at hP; exact hP
            have hD : va_D A (mW E m0 k0 q0 t0 v0 c0 o0 s0 j0 r0 f0 g0 h0 cd n K M TT VV CC OO b S J RR w1 w2 w3 w4 (updN (updN A1 ((sp - 1) + 1) ((A1 (sp - 1)) + ((A2 (sp - 1)) / 2))) ((sp - 1) + 2) (A1 (sp - 1))) (updN (updN (updN A2 (sp - 1) 0) ((sp - 1) + 1) ((A2 (sp - 1)) - ((A2 (sp - 1)) / 2))) ((sp - 1) + 2) ((A2 (sp - 1)) / 2)) A3) := by rw [upd_nI] at hD; exact hD
            refine lv_iinc (v := nI (sp - 1 + 3)) (lv' := [(2, .int (nI (sp - 1 + 3))), (5, .int (nI (A2 (sp - 1)))), (4, .int (nI (A1 (sp - 1)))), (0, .ref m0), (1, .int (nI j)), (3, .int (nI F))]) hx hb dX4_halved_171 hl (k := 2) rfl (z_inc _ 3) (by decide) rfl (fun ls hl => ?_)
            refine lv_goto (tgt := 23) hx hb dX4_halved_174 (by decide) ?_
            exact ihlp (sp - 1 + 3) F (updN (updN A1 ((sp - 1) + 1) ((A1 (sp - 1)) + ((A2 (sp - 1)) / 2))) ((sp - 1) + 2) (A1 (sp - 1))) (updN (updN (updN A2 (sp - 1) 0) ((sp - 1) + 1) ((A2 (sp - 1)) - ((A2 (sp - 1)) / 2))) ((sp - 1) + 2) ((A2 (sp - 1)) / 2)) A3 ls _ _ (by omega) (hv2) (hfs2) (hsg2) (hfe2) (lv_sub hl [3, 4, 0, 5] rfl) hP hD hS
          · have hv2 := hv_one c_2 hv
            rw [c_3] at hv2
            have hfs2 : F + 1 + sumN A2 (sp - 1) ≤ 64 := by omega
            have hsg2 : ∀ k, k < sp - 1 → A2 k ≠ 0 → A1 k + A2 k ≤ M j := fun k h9 => hsg k (by omega)
            have hfe2 : ∀ k, k < F + 1 → updN A3 F (sgl S b (vo VV OO) (A1 (sp - 1))) k < 8 := by
              intro k h9; unfold updN; split
              · exact hS0 _
              · exact hfe k (by omega)
            refine lv_aload_n hx hb dX4_halved_94 rfl (lv_at hl 3 rfl) ?_
            refine va_get (D := E.1) (ci := 5) (C := RX4) (T := TX4) (N := 19) hx hb hts hiX4 hown hK.1 hP 0 rfl rfl 18 (by decide) hf45 (fun _ h9 => h9) rfl dX4_halved_95 ?_
            refine lv_iload_n hx hb dX4_halved_98 rfl (lv_at hl 5 rfl) ?_
            refine lv_aload_n hx hb dX4_halved_99 rfl (lv_at hl 3 rfl) ?_
            refine lv_iload hx hb dX4_halved_100 (lv_at hl 1 rfl) ?_
            refine zc_i (W.runV ⟨hx, hb, hml, hown, hts⟩ (kX4_single l E m0 k0 q0 t0 v0 c0 o0 s0 j0 r0 f0 g0 h0 cd n K M TT VV CC OO b S J RR w1 w2 w3 w4 A1 A2 A3 hn hb0 hS0 hJ0 (A1 (sp - 1)) (by omega) (hgs _ (by omega))) (cwV 1 hts gX4_halved_X4_single rfl rfl rfl (by decide +kernel) ⟨Nat.le_trans (Nat.le_of_ble_eq_true rfl) hRf, Nat.le_trans (Nat.le_of_ble_eq_true rfl) hRl⟩) (z_preV (As := [.int (nI (A1 (sp - 1)))]) hP hK 0 rfl rfl) rfl rfl hl.1 rfl (lv_room (Nat.le_of_ble_eq_true rfl)) dX4_halved_102 ⟨Nat.zero_le _, Nat.zero_le _⟩) ?_
            refine zn_iast hx hb hK.1 hP hD hS 12 0 rfl rfl (by omega) (by decide) dX4_halved_105 (fun H locs hP hD hS => ?_)
            have hP : va_P E.1 vwCl (mW E m0 k0 q0 t0 v0 c0 o0 s0 j0 r0 f0 g0 h0 cd n K M TT VV CC OO b S J RR w1 w2 w3 w4 A1 A2 (updN A3 F (sgl S b (vo VV OO) (A1 (sp - 1))))) H := by rw [upd_nI] at hP; exact hP
            have hD : va_D A (mW E m0 k0 q0 t0 v0 c0 o0 s0 j0 r0 f0 g0 h0 cd n K M TT VV CC OO b S J RR w1 w2 w3 w4 A1 A2 (updN A3 F (sgl S b (vo VV OO) (A1 (sp - 1))))) := by rw [upd_nI] at hD; exact hD
            refine lv_iinc (v := nI (F + 1)) (lv' := [(3, .int (nI (F + 1))), (5, .int (nI (A2 (sp - 1)))), (4, .int (nI (A1 (sp - 1)))), (2, .int (nI (sp - 1))), (0, .ref m0), (1, .int (nI j))]) hx hb dX4_halved_106 hl (k := 5) rfl (z_inc _ 1) (by decide) rfl (fun ls hl => ?_)
            refine lv_goto (tgt := 174) hx hb dX4_halved_109 (by decide) ?_
            refine lv_goto (tgt := 23) hx hb dX4_halved_174 (by decide) ?_
            exact ihlp (sp - 1) (F + 1) A1 A2 (updN A3 F (sgl S b (vo VV OO) (A1 (sp - 1)))) ls _ _ (by omega) (hv2) (hfs2) (hsg2) (hfe2) (lv_sub hl [4, 5, 3, 0] rfl) hP hD hS
        · obtain ⟨hF2, hv2⟩ := hv_mark c_2 hv
          rw [if_pos c_2] at hww
          have hfs2 : F - 1 + sumN A2 (sp - 1) ≤ 64 := by omega
          have hsg2 : ∀ k, k < sp - 1 → A2 k ≠ 0 → A1 k + A2 k ≤ M j := fun k h9 => hsg k (by omega)
          have hx1 := hfe (F - 1 - 1) (by omega)
          have hx2 := hfe (F - 1) (by omega)
          have hfe2 : ∀ k, k < F - 1 → updN A3 (F - 1 - 1) (J (8 * A3 (F - 1 - 1) + A3 (F - 1))) k < 8 := by
            intro k h9; unfold updN; split
            · exact hJ0 _
            · exact hfe k (by omega)
          refine lv_iinc (v := nI (F - 1)) (lv' := [(3, .int (nI (F - 1))), (5, .int (nI (A2 (sp - 1)))), (4, .int (nI (A1 (sp - 1)))), (2, .int (nI (sp - 1))), (0, .ref m0), (1, .int (nI j))]) hx hb dX4_halved_51 hl (k := 5) rfl (z_dec 1 (by omega)) (by decide) rfl (fun ls hl => ?_)
          refine lv_aload_n hx hb dX4_halved_54 rfl (lv_at hl 4 rfl) ?_
          refine va_get (D := E.1) (ci := 5) (C := RX4) (T := TX4) (N := 19) hx hb hts hiX4 hown hK.1 hP 0 rfl rfl 18 (by decide) hf45 (fun _ h9 => h9) rfl dX4_halved_55 ?_
          refine lv_iload_n hx hb dX4_halved_58 rfl (lv_at hl 0 rfl) ?_
          refine lv_iconst (v := nI 1) hx hb dX4_halved_59 (by decide) ?_
          refine zn_isub hx hb (by omega) dX4_halved_60 ?_
          refine lv_aload_n hx hb dX4_halved_61 rfl (lv_at hl 4 rfl) ?_
          refine va_get (D := E.1) (ci := 5) (C := RX4) (T := TX4) (N := 19) hx hb hts hiX4 hown hK.1 hP 0 rfl rfl 10 (by decide) hf32 (fun _ h9 => h9) rfl dX4_halved_62 ?_
          refine lv_bipush (v := nI 8) hx hb dX4_halved_65 (by decide) ?_
          refine lv_aload_n hx hb dX4_halved_67 rfl (lv_at hl 4 rfl) ?_
          refine va_get (D := E.1) (ci := 5) (C := RX4) (T := TX4) (N := 19) hx hb hts hiX4 hown hK.1 hP 0 rfl rfl 18 (by decide) hf45 (fun _ h9 => h9) rfl dX4_halved_68 ?_
          refine lv_iload_n hx hb dX4_halved_71 rfl (lv_at hl 0 rfl) ?_
          refine lv_iconst (v := nI 1) hx hb dX4_halved_72 (by decide) ?_
          refine zn_isub hx hb (by omega) dX4_halved_73 ?_
          refine zn_iald hx hb hK.1 hP 12 0 rfl rfl (by omega) (by decide) dX4_halved_74 ?_
          refine zn_imul hx hb dX4_halved_75 ?_
          refine lv_aload_n hx hb dX4_halved_76 rfl (lv_at hl 4 rfl) ?_
          refine va_get (D := E.1) (ci := 5) (C := RX4) (T := TX4) (N := 19) hx hb hts hiX4 hown hK.1 hP 0 rfl rfl 18 (by decide) hf45 (fun _ h9 => h9) rfl dX4_halved_77 ?_
          refine lv_iload_n hx hb dX4_halved_80 rfl (lv_at hl 0 rfl) ?_
          refine zn_iald hx hb hK.1 hP 12 0 rfl rfl (by omega) (by decide) dX4_halved_81 ?_
          refine zn_iadd hx hb dX4_halved_82 ?_
          refine zn_iald hx hb hK.1 hP 8 0 rfl rfl (by omega) (by decide) dX4_halved_83 ?_
          refine zn_iast hx hb hK.1 hP hD hS 12 0 rfl rfl (by omega) (by decide) dX4_halved_84 (fun H locs hP hD hS => ?_)
          have hP : va_P E.1 vwCl (mW E m0 k0 q0 t0 v0 c0 o0 s0 j0 r0 f0 g0 h0 cd n K M TT VV CC OO b S J RR w1 w2 w3 w4 A1 A2 (updN A3 ((F - 1) - 1) (J ((8 * (A3 ((F - 1) - 1))) + (A3 (F - 1)))))) H := by rw [upd_nI] at hP; exact hP
          have hD : va_D A (mW E m0 k0 q0 t0 v0 c0 o0 s0 j0 r0 f0 g0 h0 cd n K M TT VV CC OO b S J RR w1 w2 w3 w4 A1 A2 (updN A3 ((F - 1) - 1) (J ((8 * (A3 ((F - 1) - 1))) + (A3 (F - 1)))))) := by rw [upd_nI] at hD; exact hD
          refine lv_goto (tgt := 174) hx hb dX4_halved_85 (by decide) ?_
          refine lv_goto (tgt := 23) hx hb dX4_halved_174 (by decide) ?_
          exact ihlp (sp - 1) (F - 1) A1 A2 (updN A3 ((F - 1) - 1) (J ((8 * (A3 ((F - 1) - 1))) + (A3 (F - 1))))) ls _ _ (by omega) (hv2) (hfs2) (hsg2) (hfe2) (lv_sub hl [4, 5, 3, 0] rfl) hP hD hS
  have hv0 : hvR (jhF S J b (vo VV OO) 8) J (updN SF 0 0) (updN SM 0 (M j)) 1 (stk FD 0) = some [jhF S J b (vo VV OO) 8 0 (M j)] := by rw [hvR_real (show ¬ updN SM 0 (M j) 0 = 0 by rw [updN_self]; omega), updN_self, updN_self]; rfl
  have hfz : 0 + sumN (updN SM 0 (M j)) 1 ≤ 64 := by rw [sumN_s, updN_self]; show 0 + (0 + M j) ≤ 64; omega
  have hs0 : ∀ k, k < 1 → updN SM 0 (M j) k ≠ 0 → updN SF 0 0 k + updN SM 0 (M j) k ≤ M j := by
    intro k h9 _
    obtain rfl : k = 0 := by omega
    rw [updN_self, updN_self]; omega
  exact lp _ 1 0 (updN SF 0 0) (updN SM 0 (M j)) FD ls _ _ (Nat.lt_succ_self _) (hv0) (hfz) (hs0) (fun k h9 => absurd h9 (Nat.not_lt_zero _)) (lv_sub hl [2, 3, 1, 0] rfl) hP hD hS
set_option maxHeartbeats 4000000 in
set_option maxRecDepth 100000 in
theorem kX4_joined (l : Launch) (E : zE) (sz : Nat) (m0 k0 q0 t0 v0 c0 o0 s0 j0 r0 f0 g0 h0 : Nat) (cd : Int32) (n : Nat) (K M : Nat → Nat) (TT : Nat → Int32) (VV CC : Nat → Int64) (OO : Nat → Nat) (b : Nat) (S J : Nat → Nat) (RR : Nat → Bool) (w1 w2 w3 w4 : Int32) (SF SM FD : Nat → Nat) (hn : n ≤ 12) (hM : ∀ j, j < n → M j ≤ 64) (hK5 : ∀ j, j < n → K j < 5) (hb0 : b < 8) (hS0 : ∀ j, S j < 8) (hJ0 : ∀ j, J j < 8) (hO4 : ∀ j, j < n → K j = 4 → ∀ i, i < M j → isOwn (VV (64 * j + i))) (f w : Int32) : Met l yX4_joined wsX4_joined (rmL 2) (va_Pc [.ref m0, .int f, .int w] (zS E (mW E m0 k0 q0 t0 v0 c0 o0 s0 j0 r0 f0 g0 h0 cd n K M TT VV CC OO b S J RR w1 w2 w3 w4 SF SM FD) sz)) (va_Qi (fun (r9 : Int32) (_ : (Nat → Nat) × (Nat → Nat) × (Nat → Nat)) => r9 = aJoined n K M (fun j => ordV TT VV OO j (M j)) b S J f w) (fun u t9 => zW E (mW E m0 k0 q0 t0 v0 c0 o0 s0 j0 r0 f0 g0 h0 (nI 0) n K M TT VV CC (smJ n K M TT VV OO f w) b S J RR w1 w2 w3 w4 u.1 u.2.1 u.2.2) t9) (va_A (mW E m0 k0 q0 t0 v0 c0 o0 s0 j0 r0 f0 g0 h0 cd n K M TT VV CC OO b S J RR w1 w2 w3 w4 SF SM FD) sz)) 0 0 (va_A (mW E m0 k0 q0 t0 v0 c0 o0 s0 j0 r0 f0 g0 h0 cd n K M TT VV CC OO b S J RR w1 w2 w3 w4 SF SM FD) sz) := by
  refine z_ofWix (cc := cX4_joined) (maxL := 6) (own := RX4) (by decide) rfl rfl (Nat.le_of_ble_eq_true rfl) ?_
  intro p e s m args below meth c R Q A B hP hD hA ret ls hl
  obtain ⟨hx, hb, hml, hown, hts, hK, hRf, hRl⟩ := B
  have hiX4 : ∀ w ∈ wsX40, w ∈ wsX4_joined := by decide +kernel
  have hf7 := hts (.fieldLink RX4 7 "ExactFoldsModel" "kind" "[I") (by decide +kernel)
  have hf13 := hts (.fieldLink RX4 13 "ExactFoldsModel" "many" "[I") (by decide +kernel)
  have hf32 := hts (.fieldLink RX4 32 "ExactFoldsModel" "joins" "[I") (by decide +kernel)
  have hf52 := hts (.fieldLink RX4 52 "ExactFoldsModel" "code" "I") (by decide +kernel)
  have hf155 := hts (.fieldLink RX4 155 "ExactFoldsModel" "begin" "I") (by decide +kernel)
  have hS : va_S A s.heap s.heap [] := va_S.rf
  have hl : lv_has ls 6 [(0, .ref m0), (1, .int f), (2, .int w)] := hl
  refine lv_aload_n hx hb dX4_joined_0 rfl (lv_at hl 0 rfl) ?_
  refine lv_iconst (v := nI 0) hx hb dX4_joined_1 (by decide) ?_
  refine va_put (D := E.1) (ci := 5) (v := .int (nI 0)) (ty := .int) (C := RX4) (T := TX4) (N := 19) hx hb hts hiX4 tyX4 tyX4_ok nmX4 hown hK.1 hP hD hS 0 rfl rfl 0 (by decide) hf52 (fun _ h9 => h9) rfl (by decide +kernel) rfl rfl (Nat.le_of_ble_eq_true rfl) dX4_joined_2 (fun H locs hP hD hS => ?_)
  have hP : va_P E.1 vwCl (mW E m0 k0 q0 t0 v0 c0 o0 s0 j0 r0 f0 g0 h0 (nI 0) n K M TT VV CC OO b S J RR w1 w2 w3 w4 SF SM FD) H := hP
  have hD : va_D A (mW E m0 k0 q0 t0 v0 c0 o0 s0 j0 r0 f0 g0 h0 (nI 0) n K M TT VV CC OO b S J RR w1 w2 w3 w4 SF SM FD) := hD
  refine lv_aload_n hx hb dX4_joined_5 rfl (lv_at hl 0 rfl) ?_
  refine lv_iload_n hx hb dX4_joined_6 rfl (lv_at hl 1 rfl) ?_
  refine zc_i (W.runV ⟨hx, hb, hml, hown, hts⟩ (kX4_isFold l E m0 k0 q0 t0 v0 c0 o0 s0 j0 r0 f0 g0 h0 (nI 0) n K M TT VV CC OO b S J RR w1 w2 w3 w4 SF SM FD hn f) (cwV 1 hts gX4_joined_X4_isFold rfl rfl rfl (by decide +kernel) ⟨Nat.le_trans (Nat.le_of_ble_eq_true rfl) hRf, Nat.le_trans (Nat.le_of_ble_eq_true rfl) hRl⟩) (z_preV (As := [.int f]) hP hK 0 rfl rfl) rfl rfl hl.1 rfl (lv_room (Nat.le_of_ble_eq_true rfl)) dX4_joined_7 ⟨Nat.zero_le _, Nat.zero_le _⟩) ?_
  refine zb_if_ne (tgt := 15) hx hb dX4_joined_10 (by decide) (fun c_1 => ?_) (fun c_1 => ?_)
  · obtain ⟨j, hjj, rfl, hfij⟩ := fd_some (by omega) c_1
    have hMj := hM j hjj
    have hKj := hK5 j hjj
    refine lv_aload_n hx hb dX4_joined_15 rfl (lv_at hl 0 rfl) ?_
    refine va_get (D := E.1) (ci := 5) (C := RX4) (T := TX4) (N := 19) hx hb hts hiX4 hown hK.1 hP 0 rfl rfl 2 (by decide) hf7 (fun _ h9 => h9) rfl dX4_joined_16 ?_
    refine lv_iload_n hx hb dX4_joined_19 rfl (lv_at hl 1 rfl) ?_
    refine zn_iald hx hb hK.1 hP 1 0 rfl rfl (by omega) (by decide) dX4_joined_20 ?_
    refine lv_iconst (v := nI 4) hx hb dX4_joined_21 (by decide) ?_
    refine zn_icmp_eq (tgt := 28) hx hb dX4_joined_22 (by decide) (by omega) (by omega) (fun c_2 => ?_) (fun c_2 => ?_)
    · have hk4 : K j = 4 := c_2
      refine lv_iload_n hx hb dX4_joined_28 rfl (lv_at hl 2 rfl) ?_
      refine lv_i2l hx hb dX4_joined_29 rfl ?_
      refine lv_lconst (v := 0) hx hb dX4_joined_30 rfl ?_
      refine lv_ldc2 (v := 2) hx hb hown (hts (.constantLong RX4 117 (2)) (by decide +kernel)) dX4_joined_31 ?_
      refine zc_i (W.runS ⟨hx, hb, hml, hown, hts⟩ (kX4_in l E w.toInt64 0 2) (cwS 3 hts gX4_joined_X4_in rfl rfl rfl (by decide +kernel) ⟨Nat.le_trans (Nat.le_of_ble_eq_true rfl) hRf, Nat.le_trans (Nat.le_of_ble_eq_true rfl) hRl⟩) (z_preR (av := [.long w.toInt64, .long 0, .long 2]) (hP.sub (ws' := []) [] rfl) hK) rfl rfl hl.1 rfl (lv_room (Nat.le_of_ble_eq_true rfl)) dX4_joined_34 ⟨Nat.zero_le _, Nat.zero_le _⟩) ?_
      refine zb_if_ne (tgt := 43) hx hb dX4_joined_37 (by decide) (fun c_3 => ?_) (fun c_3 => ?_)
      · have hw2 := inw2_t c_3
        refine lv_aload_n hx hb dX4_joined_43 rfl (lv_at hl 0 rfl) ?_
        refine va_get (D := E.1) (ci := 5) (C := RX4) (T := TX4) (N := 19) hx hb hts hiX4 hown hK.1 hP 0 rfl rfl 3 (by decide) hf13 (fun _ h9 => h9) rfl dX4_joined_44 ?_
        refine lv_iload_n hx hb dX4_joined_47 rfl (lv_at hl 1 rfl) ?_
        refine zn_iald hx hb hK.1 hP 2 0 rfl rfl (by omega) (by decide) dX4_joined_48 ?_
        refine lv_istore_n (lv' := [(3, .int (nI (M j))), (0, .ref m0), (1, .int (nI j)), (2, .int w)]) hx hb dX4_joined_49 rfl hl (by decide) rfl (fun ls hl => ?_)
        refine lv_iload_n hx hb dX4_joined_50 rfl (lv_at hl 0 rfl) ?_
        refine zn_if_ne (tgt := 59) hx hb dX4_joined_51 (by decide) (by omega) (fun c_4 => ?_) (fun c_4 => ?_)
        · have hm0 : ¬ M j = 0 := c_4
          have hgs : isGs VV (layO TT VV OO j (M j)) (M j) := by
            intro k9 h9
            have hin := layO_in TT VV OO j (M j) k9 h9
            refine ⟨by omega, ?_⟩
            have h10 := hO4 j hjj hk4 (layO TT VV OO j (M j) k9 - 64 * j) (by omega)
            rw [show 64 * j + (layO TT VV OO j (M j) k9 - 64 * j) = layO TT VV OO j (M j) k9 by omega] at h10; exact h10
          refine lv_aload_n hx hb dX4_joined_59 rfl (lv_at hl 1 rfl) ?_
          refine lv_iload_n hx hb dX4_joined_60 rfl (lv_at hl 2 rfl) ?_
          refine zall_v (wc' := (mW E m0 k0 q0 t0 v0 c0 o0 s0 j0 r0 f0 g0 h0 (nI 0) n K M TT VV CC (layO TT VV OO j (M j)) b S J RR w1 w2 w3 w4 SF SM FD)) (va_runV ⟨hx, hb, hml, hown, hts⟩ (kX4_lay l E _ m0 k0 q0 t0 v0 c0 o0 s0 j0 r0 f0 g0 h0 (nI 0) n K M TT VV CC OO b S J RR w1 w2 w3 w4 SF SM FD hn hM j hjj) (cwV 1 hts gX4_joined_X4_lay rfl rfl rfl (by decide +kernel) ⟨Nat.le_trans (Nat.le_of_ble_eq_true rfl) hRf, Nat.le_trans (Nat.le_of_ble_eq_true rfl) hRl⟩) (z_preWV (As := [.int (nI j)]) hP hD hK 0 rfl rfl) rfl rfl hl.1 rfl (lv_room (Nat.le_of_ble_eq_true rfl)) dX4_joined_61 ⟨Nat.zero_le _, Nat.zero_le _⟩) hD hS hA rfl (fun H locs hP hD hS => ?_)
          refine lv_iload_n hx hb dX4_joined_64 rfl (lv_at hl 3 rfl) ?_
          refine lv_if_ne (tgt := 74) hx hb dX4_joined_65 (by decide) (fun c_5 => ?_) (fun c_5 => ?_)
          · have hw0 : ¬ w = 0 := c_5
            refine lv_aload_n hx hb dX4_joined_74 rfl (lv_at hl 1 rfl) ?_
            refine lv_iload_n hx hb dX4_joined_75 rfl (lv_at hl 3 rfl) ?_
            refine lv_iconst (v := nI 1) hx hb dX4_joined_76 (by decide) ?_
            refine lv_icmp_ne (tgt := 84) hx hb dX4_joined_77 (by decide) (fun c_6 => ?_) (fun c_6 => ?_)
            · refine lv_iload_n hx hb dX4_joined_84 rfl (lv_at hl 0 rfl) ?_
              refine lv_iconst (v := nI 1) hx hb dX4_joined_85 (by decide) ?_
              refine zn_isub hx hb (by omega) dX4_joined_86 ?_
              refine zc_i (W.runV ⟨hx, hb, hml, hown, hts⟩ (kX4_single l E m0 k0 q0 t0 v0 c0 o0 s0 j0 r0 f0 g0 h0 (nI 0) n K M TT VV CC (layO TT VV OO j (M j)) b S J RR w1 w2 w3 w4 SF SM FD hn hb0 hS0 hJ0 ((M j) - 1) (by omega) (hgs _ (by omega))) (cwV 1 hts gX4_joined_X4_single rfl rfl rfl (by decide +kernel) ⟨Nat.le_trans (Nat.le_of_ble_eq_true rfl) hRf, Nat.le_trans (Nat.le_of_ble_eq_true rfl) hRl⟩) (z_preV (As := [.int (nI ((M j) - 1))]) hP hK 0 rfl rfl) rfl rfl hl.1 rfl (lv_room (Nat.le_of_ble_eq_true rfl)) dX4_joined_87 ⟨Nat.zero_le _, Nat.zero_le _⟩) ?_
              refine lv_istore (lv' := [(4, .int (nI (sgl S b (ordV TT VV OO j (M j)) ((M j) - 1)))), (3, .int (nI (M j))), (0, .ref m0), (1, .int (nI j)), (2, .int w)]) hx hb dX4_joined_90 hl (by decide) rfl (fun ls hl => ?_)
              refine lv_iconst (v := nI 1) hx hb dX4_joined_92 (by decide) ?_
              refine lv_istore (lv' := [(5, .int (nI 1)), (4, .int (nI (sgl S b (ordV TT VV OO j (M j)) ((M j) - 1)))), (3, .int (nI (M j))), (0, .ref m0), (1, .int (nI j)), (2, .int w)]) hx hb dX4_joined_93 hl (by decide) rfl (fun ls hl => ?_)
              have lp : ∀ (fu : Nat) (k : Nat) (x : Nat) (ls : Array Slot) (H : Heap) (locs : List Loc), M j - k < fu → (k ≤ M j) → (1 ≤ k) → (x = (if w = nI 1 then jlF S J b (ordV TT VV OO j (M j)) (k - 1) else jrF S J b (ordV TT VV OO j (M j)) (M j) (k - 1))) → lv_has ls 6 [(0, .ref m0), (1, .int (nI j)), (2, .int w), (3, .int (nI (M j))), (4, .int (nI x)), (5, .int (nI k))] → va_P E.1 vwCl (mW E m0 k0 q0 t0 v0 c0 o0 s0 j0 r0 f0 g0 h0 (nI 0) n K M TT VV CC (layO TT VV OO j (M j)) b S J RR w1 w2 w3 w4 SF SM FD) H → va_D A (mW E m0 k0 q0 t0 v0 c0 o0 s0 j0 r0 f0 g0 h0 (nI 0) n K M TT VV CC (layO TT VV OO j (M j)) b S J RR w1 w2 w3 w4 SF SM FD) → va_S A s.heap H locs → W p l e R s m args below meth c H locs 0 0 Q (F0 m 95 ls []) := by
                intro fu
                induction fu with
                | zero => intros; exact absurd (by assumption) (Nat.not_lt_zero _)
                | succ fu ihlp =>
                  intro k x ls H locs hfu hk hk1 hx2 hl hP hD hS
                  refine lv_iload hx hb dX4_joined_95 (lv_at hl 5 rfl) ?_
                  refine lv_iload_n hx hb dX4_joined_97 rfl (lv_at hl 3 rfl) ?_
                  refine zn_icmp_ge (tgt := 155) hx hb dX4_joined_98 (by decide) (by omega) (by omega) (fun c_7 => ?_) (fun c_7 => ?_)
                  · obtain rfl : k = M j := by omega
                    refine lv_iload hx hb dX4_joined_155 (lv_at hl 4 rfl) ?_
                    exact z_reti (by unfold aJoined; rw [hfij]; show _ = (if K j = 4 then (if w < 0 ∨ nI 2 < w then (-2) else nI (joinF S J b (ordV TT VV OO j (M j)) (M j) w)) else (-3)); rw [if_pos hk4, if_neg hw2]; unfold joinF; rw [if_neg hm0, if_neg hw0, hx2]) (ret _ _ _ _ (SF, SM, FD) (by rw [show smJ n K M TT VV OO (nI j) w = layO TT VV OO j (M j) from by unfold smJ; rw [hfij]; show (if K j = 4 ∧ ¬ (w < 0 ∨ nI 2 < w) ∧ ¬ M j = 0 then layO TT VV OO j (M j) else OO) = _; rw [if_pos ⟨hk4, hw2, hm0⟩]]; exact hP) hS dX4_joined_157)
                  · have hx8 : x < 8 := by
                      rw [hx2]
                      by_cases hw9 : w = nI 1
                      · rw [if_pos hw9]; exact jlF_lt b _ hS0 hJ0 _
                      · rw [if_neg hw9]; exact jrF_lt b _ _ hS0 hJ0 _
                    refine lv_iload_n hx hb dX4_joined_101 rfl (lv_at hl 2 rfl) ?_
                    refine lv_iconst (v := nI 1) hx hb dX4_joined_102 (by decide) ?_
                    refine lv_icmp_ne (tgt := 126) hx hb dX4_joined_103 (by decide) (fun c_8 => ?_) (fun c_8 => ?_)
                    · have hs9 : sgl S b (vo VV (layO TT VV OO j (M j))) (M j - 1 - k) < 8 := hS0 _
                      have hs8 : sgl S b (ordV TT VV OO j (M j)) (M j - 1 - k) < 8 := hS0 _
                      have hq2 : J (8 * sgl S b (ordV TT VV OO j (M j)) (M j - 1 - k) + x) = (if w = nI 1 then jlF S J b (ordV TT VV OO j (M j)) (k + 1 - 1) else jrF S J b (ordV TT VV OO j (M j)) (M j) (k + 1 - 1)) := by
                        rw [if_neg c_8, hx2, if_neg c_8]
                        obtain ⟨k2, rfl⟩ : ∃ k2, k = k2 + 1 := ⟨k - 1, by omega⟩
                        show J (8 * sgl S b (ordV TT VV OO j (M j)) (M j - 1 - (k2 + 1)) + jrF S J b (ordV TT VV OO j (M j)) (M j) k2) = J (sgl S b (ordV TT VV OO j (M j)) (M j - 1 - (k2 + 1)) * 8 + jrF S J b (ordV TT VV OO j (M j)) (M j) k2)
                        rw [Nat.mul_comm]
                      refine lv_aload_n hx hb dX4_joined_126 rfl (lv_at hl 0 rfl) ?_
                      refine va_get (D := E.1) (ci := 5) (C := RX4) (T := TX4) (N := 19) hx hb hts hiX4 hown hK.1 hP 0 rfl rfl 10 (by decide) hf32 (fun _ h9 => h9) rfl dX4_joined_127 ?_
                      refine lv_bipush (v := nI 8) hx hb dX4_joined_130 (by decide) ?_
                      refine lv_aload_n hx hb dX4_joined_132 rfl (lv_at hl 0 rfl) ?_
                      refine lv_iload_n hx hb dX4_joined_133 rfl (lv_at hl 3 rfl) ?_
                      refine lv_iconst (v := nI 1) hx hb dX4_joined_134 (by decide) ?_
                      refine zn_isub hx hb (by omega) dX4_joined_135 ?_
                      refine lv_iload hx hb dX4_joined_136 (lv_at hl 5 rfl) ?_
                      refine zn_isub hx hb (by omega) dX4_joined_138 ?_
                      refine zc_i (W.runV ⟨hx, hb, hml, hown, hts⟩ (kX4_single l E m0 k0 q0 t0 v0 c0 o0 s0 j0 r0 f0 g0 h0 (nI 0) n K M TT VV CC (layO TT VV OO j (M j)) b S J RR w1 w2 w3 w4 SF SM FD hn hb0 hS0 hJ0 (((M j) - 1) - k) (by omega) (hgs _ (by omega))) (cwV 1 hts gX4_joined_X4_single rfl rfl rfl (by decide +kernel) ⟨Nat.le_trans (Nat.le_of_ble_eq_true rfl) hRf, Nat.le_trans (Nat.le_of_ble_eq_true rfl) hRl⟩) (z_preV (As := [.int (nI (((M j) - 1) - k))]) hP hK 0 rfl rfl) rfl rfl hl.1 rfl (lv_room (Nat.le_of_ble_eq_true rfl)) dX4_joined_139 ⟨Nat.zero_le _, Nat.zero_le _⟩) ?_
                      refine zn_imul hx hb dX4_joined_142 ?_
                      refine lv_iload hx hb dX4_joined_143 (lv_at hl 4 rfl) ?_
                      refine zn_iadd hx hb dX4_joined_145 ?_
                      refine zn_iald hx hb hK.1 hP 8 0 rfl rfl (by omega) (by decide) dX4_joined_146 ?_
                      refine lv_istore (lv' := [(4, .int (nI (J ((8 * (sgl S b (ordV TT VV OO j (M j)) (((M j) - 1) - k))) + x)))), (0, .ref m0), (1, .int (nI j)), (2, .int w), (3, .int (nI (M j))), (5, .int (nI k))]) hx hb dX4_joined_147 hl (by decide) rfl (fun ls hl => ?_)
                      refine lv_iinc (v := nI (k + 1)) (lv' := [(5, .int (nI (k + 1))), (4, .int (nI (J ((8 * (sgl S b (ordV TT VV OO j (M j)) (((M j) - 1) - k))) + x)))), (0, .ref m0), (1, .int (nI j)), (2, .int w), (3, .int (nI (M j)))]) hx hb dX4_joined_149 hl (k := 5) rfl (z_inc _ 1) (by decide) rfl (fun ls hl => ?_)
                      refine lv_goto (tgt := 95) hx hb dX4_joined_152 (by decide) ?_
                      exact ihlp (k + 1) (J ((8 * (sgl S b (ordV TT VV OO j (M j)) (((M j) - 1) - k))) + x)) ls _ _ (by omega) (by omega) (by omega) (hq2) (lv_sub hl [2, 3, 4, 5, 1, 0] rfl) hP hD hS
                    · have hs9 : sgl S b (vo VV (layO TT VV OO j (M j))) k < 8 := hS0 _
                      have hs8 : sgl S b (ordV TT VV OO j (M j)) k < 8 := hS0 _
                      have hq2 : J (8 * x + sgl S b (ordV TT VV OO j (M j)) k) = (if w = nI 1 then jlF S J b (ordV TT VV OO j (M j)) (k + 1 - 1) else jrF S J b (ordV TT VV OO j (M j)) (M j) (k + 1 - 1)) := by
                        rw [if_pos c_8, hx2, if_pos c_8]
                        obtain ⟨k2, rfl⟩ : ∃ k2, k = k2 + 1 := ⟨k - 1, by omega⟩
                        show J (8 * jlF S J b (ordV TT VV OO j (M j)) k2 + sgl S b (ordV TT VV OO j (M j)) (k2 + 1)) = J (jlF S J b (ordV TT VV OO j (M j)) k2 * 8 + sgl S b (ordV TT VV OO j (M j)) (k2 + 1))
                        rw [Nat.mul_comm]
                      refine lv_aload_n hx hb dX4_joined_106 rfl (lv_at hl 0 rfl) ?_
                      refine va_get (D := E.1) (ci := 5) (C := RX4) (T := TX4) (N := 19) hx hb hts hiX4 hown hK.1 hP 0 rfl rfl 10 (by decide) hf32 (fun _ h9 => h9) rfl dX4_joined_107 ?_
                      refine lv_bipush (v := nI 8) hx hb dX4_joined_110 (by decide) ?_
                      refine lv_iload hx hb dX4_joined_112 (lv_at hl 4 rfl) ?_
                      refine zn_imul hx hb dX4_joined_114 ?_
                      refine lv_aload_n hx hb dX4_joined_115 rfl (lv_at hl 0 rfl) ?_
                      refine lv_iload hx hb dX4_joined_116 (lv_at hl 5 rfl) ?_
                      refine zc_i (W.runV ⟨hx, hb, hml, hown, hts⟩ (kX4_single l E m0 k0 q0 t0 v0 c0 o0 s0 j0 r0 f0 g0 h0 (nI 0) n K M TT VV CC (layO TT VV OO j (M j)) b S J RR w1 w2 w3 w4 SF SM FD hn hb0 hS0 hJ0 k (by omega) (hgs _ (by omega))) (cwV 1 hts gX4_joined_X4_single rfl rfl rfl (by decide +kernel) ⟨Nat.le_trans (Nat.le_of_ble_eq_true rfl) hRf, Nat.le_trans (Nat.le_of_ble_eq_true rfl) hRl⟩) (z_preV (As := [.int (nI k)]) hP hK 0 rfl rfl) rfl rfl hl.1 rfl (lv_room (Nat.le_of_ble_eq_true rfl)) dX4_joined_118 ⟨Nat.zero_le _, Nat.zero_le _⟩) ?_
                      refine zn_iadd hx hb dX4_joined_121 ?_
                      refine zn_iald hx hb hK.1 hP 8 0 rfl rfl (by omega) (by decide) dX4_joined_122 ?_
                      refine lv_goto (tgt := 147) hx hb dX4_joined_123 (by decide) ?_
                      refine lv_istore (lv' := [(4, .int (nI (J ((8 * x) + (sgl S b (ordV TT VV OO j (M j)) k))))), (0, .ref m0), (1, .int (nI j)), (2, .int w), (3, .int (nI (M j))), (5, .int (nI k))]) hx hb dX4_joined_147 hl (by decide) rfl (fun ls hl => ?_)
                      refine lv_iinc (v := nI (k + 1)) (lv' := [(5, .int (nI (k + 1))), (4, .int (nI (J ((8 * x) + (sgl S b (ordV TT VV OO j (M j)) k))))), (0, .ref m0), (1, .int (nI j)), (2, .int w), (3, .int (nI (M j)))]) hx hb dX4_joined_149 hl (k := 5) rfl (z_inc _ 1) (by decide) rfl (fun ls hl => ?_)
                      refine lv_goto (tgt := 95) hx hb dX4_joined_152 (by decide) ?_
                      exact ihlp (k + 1) (J ((8 * x) + (sgl S b (ordV TT VV OO j (M j)) k))) ls _ _ (by omega) (by omega) (by omega) (hq2) (lv_sub hl [2, 3, 4, 5, 1, 0] rfl) hP hD hS
              exact lp _ 1 (sgl S b (ordV TT VV OO j (M j)) ((M j) - 1)) ls _ _ (Nat.lt_succ_self _) (by omega) (Nat.le_refl _) (by rw [if_neg c_6]; rfl) (lv_sub hl [3, 4, 5, 2, 1, 0] rfl) hP hD hS
            · refine lv_iconst (v := nI 0) hx hb dX4_joined_80 (by decide) ?_
              refine lv_goto (tgt := 87) hx hb dX4_joined_81 (by decide) ?_
              refine zc_i (W.runV ⟨hx, hb, hml, hown, hts⟩ (kX4_single l E m0 k0 q0 t0 v0 c0 o0 s0 j0 r0 f0 g0 h0 (nI 0) n K M TT VV CC (layO TT VV OO j (M j)) b S J RR w1 w2 w3 w4 SF SM FD hn hb0 hS0 hJ0 0 (by omega) (hgs _ (by omega))) (cwV 1 hts gX4_joined_X4_single rfl rfl rfl (by decide +kernel) ⟨Nat.le_trans (Nat.le_of_ble_eq_true rfl) hRf, Nat.le_trans (Nat.le_of_ble_eq_true rfl) hRl⟩) (z_preV (As := [.int (nI 0)]) hP hK 0 rfl rfl) rfl rfl hl.1 rfl (lv_room (Nat.le_of_ble_eq_true rfl)) dX4_joined_87 ⟨Nat.zero_le _, Nat.zero_le _⟩) ?_
              refine lv_istore (lv' := [(4, .int (nI (sgl S b (ordV TT VV OO j (M j)) 0))), (3, .int (nI (M j))), (0, .ref m0), (1, .int (nI j)), (2, .int w)]) hx hb dX4_joined_90 hl (by decide) rfl (fun ls hl => ?_)
              refine lv_iconst (v := nI 1) hx hb dX4_joined_92 (by decide) ?_
              refine lv_istore (lv' := [(5, .int (nI 1)), (4, .int (nI (sgl S b (ordV TT VV OO j (M j)) 0))), (3, .int (nI (M j))), (0, .ref m0), (1, .int (nI j)), (2, .int w)]) hx hb dX4_joined_93 hl (by decide) rfl (fun ls hl => ?_)
              have lp : ∀ (fu : Nat) (k : Nat) (x : Nat) (ls : Array Slot) (H : Heap) (locs : List Loc), M j - k < fu → (k ≤ M j) → (1 ≤ k) → (x = (if w = nI 1 then jlF S J b (ordV TT VV OO j (M j)) (k - 1) else jrF S J b (ordV TT VV OO j (M j)) (M j) (k - 1))) → lv_has ls 6 [(0, .ref m0), (1, .int (nI j)), (2, .int w), (3, .int (nI (M j))), (4, .int (nI x)), (5, .int (nI k))] → va_P E.1 vwCl (mW E m0 k0 q0 t0 v0 c0 o0 s0 j0 r0 f0 g0 h0 (nI 0) n K M TT VV CC (layO TT VV OO j (M j)) b S J RR w1 w2 w3 w4 SF SM FD) H → va_D A (mW E m0 k0 q0 t0 v0 c0 o0 s0 j0 r0 f0 g0 h0 (nI 0) n K M TT VV CC (layO TT VV OO j (M j)) b S J RR w1 w2 w3 w4 SF SM FD) → va_S A s.heap H locs → W p l e R s m args below meth c H locs 0 0 Q (F0 m 95 ls []) := by
                intro fu
                induction fu with
                | zero => intros; exact absurd (by assumption) (Nat.not_lt_zero _)
                | succ fu ihlp =>
                  intro k x ls H locs hfu hk hk1 hx2 hl hP hD hS
                  refine lv_iload hx hb dX4_joined_95 (lv_at hl 5 rfl) ?_
                  refine lv_iload_n hx hb dX4_joined_97 rfl (lv_at hl 3 rfl) ?_
                  refine zn_icmp_ge (tgt := 155) hx hb dX4_joined_98 (by decide) (by omega) (by omega) (fun c_9 => ?_) (fun c_9 => ?_)
                  · obtain rfl : k = M j := by omega
                    refine lv_iload hx hb dX4_joined_155 (lv_at hl 4 rfl) ?_
                    exact z_reti (by unfold aJoined; rw [hfij]; show _ = (if K j = 4 then (if w < 0 ∨ nI 2 < w then (-2) else nI (joinF S J b (ordV TT VV OO j (M j)) (M j) w)) else (-3)); rw [if_pos hk4, if_neg hw2]; unfold joinF; rw [if_neg hm0, if_neg hw0, hx2]) (ret _ _ _ _ (SF, SM, FD) (by rw [show smJ n K M TT VV OO (nI j) w = layO TT VV OO j (M j) from by unfold smJ; rw [hfij]; show (if K j = 4 ∧ ¬ (w < 0 ∨ nI 2 < w) ∧ ¬ M j = 0 then layO TT VV OO j (M j) else OO) = _; rw [if_pos ⟨hk4, hw2, hm0⟩]]; exact hP) hS dX4_joined_157)
                  · have hx8 : x < 8 := by
                      rw [hx2]
                      by_cases hw9 : w = nI 1
                      · rw [if_pos hw9]; exact jlF_lt b _ hS0 hJ0 _
                      · rw [if_neg hw9]; exact jrF_lt b _ _ hS0 hJ0 _
                    refine lv_iload_n hx hb dX4_joined_101 rfl (lv_at hl 2 rfl) ?_
                    refine lv_iconst (v := nI 1) hx hb dX4_joined_102 (by decide) ?_
                    refine lv_icmp_ne (tgt := 126) hx hb dX4_joined_103 (by decide) (fun c_10 => ?_) (fun c_10 => ?_)
                    · have hs9 : sgl S b (vo VV (layO TT VV OO j (M j))) (M j - 1 - k) < 8 := hS0 _
                      have hs8 : sgl S b (ordV TT VV OO j (M j)) (M j - 1 - k) < 8 := hS0 _
                      have hq2 : J (8 * sgl S b (ordV TT VV OO j (M j)) (M j - 1 - k) + x) = (if w = nI 1 then jlF S J b (ordV TT VV OO j (M j)) (k + 1 - 1) else jrF S J b (ordV TT VV OO j (M j)) (M j) (k + 1 - 1)) := by
                        rw [if_neg c_10, hx2, if_neg c_10]
                        obtain ⟨k2, rfl⟩ : ∃ k2, k = k2 + 1 := ⟨k - 1, by omega⟩
                        show J (8 * sgl S b (ordV TT VV OO j (M j)) (M j - 1 - (k2 + 1)) + jrF S J b (ordV TT VV OO j (M j)) (M j) k2) = J (sgl S b (ordV TT VV OO j (M j)) (M j - 1 - (k2 + 1)) * 8 + jrF S J b (ordV TT VV OO j (M j)) (M j) k2)
                        rw [Nat.mul_comm]
                      refine lv_aload_n hx hb dX4_joined_126 rfl (lv_at hl 0 rfl) ?_
                      refine va_get (D := E.1) (ci := 5) (C := RX4) (T := TX4) (N := 19) hx hb hts hiX4 hown hK.1 hP 0 rfl rfl 10 (by decide) hf32 (fun _ h9 => h9) rfl dX4_joined_127 ?_
                      refine lv_bipush (v := nI 8) hx hb dX4_joined_130 (by decide) ?_
                      refine lv_aload_n hx hb dX4_joined_132 rfl (lv_at hl 0 rfl) ?_
                      refine lv_iload_n hx hb dX4_joined_133 rfl (lv_at hl 3 rfl) ?_
                      refine lv_iconst (v := nI 1) hx hb dX4_joined_134 (by decide) ?_
                      refine zn_isub hx hb (by omega) dX4_joined_135 ?_
                      refine lv_iload hx hb dX4_joined_136 (lv_at hl 5 rfl) ?_
                      refine zn_isub hx hb (by omega) dX4_joined_138 ?_
                      refine zc_i (W.runV ⟨hx, hb, hml, hown, hts⟩ (kX4_single l E m0 k0 q0 t0 v0 c0 o0 s0 j0 r0 f0 g0 h0 (nI 0) n K M TT VV CC (layO TT VV OO j (M j)) b S J RR w1 w2 w3 w4 SF SM FD hn hb0 hS0 hJ0 (((M j) - 1) - k) (by omega) (hgs _ (by omega))) (cwV 1 hts gX4_joined_X4_single rfl rfl rfl (by decide +kernel) ⟨Nat.le_trans (Nat.le_of_ble_eq_true rfl) hRf, Nat.le_trans (Nat.le_of_ble_eq_true rfl) hRl⟩) (z_preV (As := [.int (nI (((M j) - 1) - k))]) hP hK 0 rfl rfl) rfl rfl hl.1 rfl (lv_room (Nat.le_of_ble_eq_true rfl)) dX4_joined_139 ⟨Nat.zero_le _, Nat.zero_le _⟩) ?_
                      refine zn_imul hx hb dX4_joined_142 ?_
                      refine lv_iload hx hb dX4_joined_143 (lv_at hl 4 rfl) ?_
                      refine zn_iadd hx hb dX4_joined_145 ?_
                      refine zn_iald hx hb hK.1 hP 8 0 rfl rfl (by omega) (by decide) dX4_joined_146 ?_
                      refine lv_istore (lv' := [(4, .int (nI (J ((8 * (sgl S b (ordV TT VV OO j (M j)) (((M j) - 1) - k))) + x)))), (0, .ref m0), (1, .int (nI j)), (2, .int w), (3, .int (nI (M j))), (5, .int (nI k))]) hx hb dX4_joined_147 hl (by decide) rfl (fun ls hl => ?_)
                      refine lv_iinc (v := nI (k + 1)) (lv' := [(5, .int (nI (k + 1))), (4, .int (nI (J ((8 * (sgl S b (ordV TT VV OO j (M j)) (((M j) - 1) - k))) + x)))), (0, .ref m0), (1, .int (nI j)), (2, .int w), (3, .int (nI (M j)))]) hx hb dX4_joined_149 hl (k := 5) rfl (z_inc _ 1) (by decide) rfl (fun ls hl => ?_)
                      refine lv_goto (tgt := 95) hx hb dX4_joined_152 (by decide) ?_
                      exact ihlp (k + 1) (J ((8 * (sgl S b (ordV TT VV OO j (M j)) (((M j) - 1) - k))) + x)) ls _ _ (by omega) (by omega) (by omega) (hq2) (lv_sub hl [2, 3, 4, 5, 1, 0] rfl) hP hD hS
                    · have hs9 : sgl S b (vo VV (layO TT VV OO j (M j))) k < 8 := hS0 _
                      have hs8 : sgl S b (ordV TT VV OO j (M j)) k < 8 := hS0 _
                      have hq2 : J (8 * x + sgl S b (ordV TT VV OO j (M j)) k) = (if w = nI 1 then jlF S J b (ordV TT VV OO j (M j)) (k + 1 - 1) else jrF S J b (ordV TT VV OO j (M j)) (M j) (k + 1 - 1)) := by
                        rw [if_pos c_10, hx2, if_pos c_10]
                        obtain ⟨k2, rfl⟩ : ∃ k2, k = k2 + 1 := ⟨k - 1, by omega⟩
                        show J (8 * jlF S J b (ordV TT VV OO j (M j)) k2 + sgl S b (ordV TT VV OO j (M j)) (k2 + 1)) = J (jlF S J b (ordV TT VV OO j (M j)) k2 * 8 + sgl S b (ordV TT VV OO j (M j)) (k2 + 1))
                        rw [Nat.mul_comm]
                      refine lv_aload_n hx hb dX4_joined_106 rfl (lv_at hl 0 rfl) ?_
                      refine va_get (D := E.1) (ci := 5) (C := RX4) (T := TX4) (N := 19) hx hb hts hiX4 hown hK.1 hP 0 rfl rfl 10 (by decide) hf32 (fun _ h9 => h9) rfl dX4_joined_107 ?_
                      refine lv_bipush (v := nI 8) hx hb dX4_joined_110 (by decide) ?_
                      refine lv_iload hx hb dX4_joined_112 (lv_at hl 4 rfl) ?_
                      refine zn_imul hx hb dX4_joined_114 ?_
                      refine lv_aload_n hx hb dX4_joined_115 rfl (lv_at hl 0 rfl) ?_
                      refine lv_iload hx hb dX4_joined_116 (lv_at hl 5 rfl) ?_
                      refine zc_i (W.runV ⟨hx, hb, hml, hown, hts⟩ (kX4_single l E m0 k0 q0 t0 v0 c0 o0 s0 j0 r0 f0 g0 h0 (nI 0) n K M TT VV CC (layO TT VV OO j (M j)) b S J RR w1 w2 w3 w4 SF SM FD hn hb0 hS0 hJ0 k (by omega) (hgs _ (by omega))) (cwV 1 hts gX4_joined_X4_single rfl rfl rfl (by decide +kernel) ⟨Nat.le_trans (Nat.le_of_ble_eq_true rfl) hRf, Nat.le_trans (Nat.le_of_ble_eq_true rfl) hRl⟩) (z_preV (As := [.int (nI k)]) hP hK 0 rfl rfl) rfl rfl hl.1 rfl (lv_room (Nat.le_of_ble_eq_true rfl)) dX4_joined_118 ⟨Nat.zero_le _, Nat.zero_le _⟩) ?_
                      refine zn_iadd hx hb dX4_joined_121 ?_
                      refine zn_iald hx hb hK.1 hP 8 0 rfl rfl (by omega) (by decide) dX4_joined_122 ?_
                      refine lv_goto (tgt := 147) hx hb dX4_joined_123 (by decide) ?_
                      refine lv_istore (lv' := [(4, .int (nI (J ((8 * x) + (sgl S b (ordV TT VV OO j (M j)) k))))), (0, .ref m0), (1, .int (nI j)), (2, .int w), (3, .int (nI (M j))), (5, .int (nI k))]) hx hb dX4_joined_147 hl (by decide) rfl (fun ls hl => ?_)
                      refine lv_iinc (v := nI (k + 1)) (lv' := [(5, .int (nI (k + 1))), (4, .int (nI (J ((8 * x) + (sgl S b (ordV TT VV OO j (M j)) k))))), (0, .ref m0), (1, .int (nI j)), (2, .int w), (3, .int (nI (M j)))]) hx hb dX4_joined_149 hl (k := 5) rfl (z_inc _ 1) (by decide) rfl (fun ls hl => ?_)
                      refine lv_goto (tgt := 95) hx hb dX4_joined_152 (by decide) ?_
                      exact ihlp (k + 1) (J ((8 * x) + (sgl S b (ordV TT VV OO j (M j)) k))) ls _ _ (by omega) (by omega) (by omega) (hq2) (lv_sub hl [2, 3, 4, 5, 1, 0] rfl) hP hD hS
              exact lp _ 1 (sgl S b (ordV TT VV OO j (M j)) 0) ls _ _ (Nat.lt_succ_self _) (by omega) (Nat.le_refl _) (by rw [if_pos c_6]; rfl) (lv_sub hl [3, 4, 5, 2, 1, 0] rfl) hP hD hS
          · refine lv_aload_n hx hb dX4_joined_68 rfl (lv_at hl 1 rfl) ?_
            refine lv_iload_n hx hb dX4_joined_69 rfl (lv_at hl 2 rfl) ?_
            refine zallx_i (va_runV ⟨hx, hb, hml, hown, hts⟩ (kX4_halved l E _ m0 k0 q0 t0 v0 c0 o0 s0 j0 r0 f0 g0 h0 (nI 0) n K M TT VV CC (layO TT VV OO j (M j)) b S J RR w1 w2 w3 w4 SF SM FD hn hM hb0 hS0 hJ0 j hjj hgs (by omega)) (cwV 1 hts gX4_joined_X4_halved rfl rfl rfl (by decide +kernel) ⟨Nat.le_trans (Nat.le_of_ble_eq_true rfl) hRf, Nat.le_trans (Nat.le_of_ble_eq_true rfl) hRl⟩) (z_preWV (As := [.int (nI j)]) hP hD hK 0 rfl rfl) rfl rfl hl.1 rfl (lv_room (Nat.le_of_ble_eq_true rfl)) dX4_joined_70 ⟨Nat.zero_le _, Nat.zero_le _⟩) hD hS hA (fun _ => rfl) (fun H locs u9 hP hD hS => ?_)
            exact z_reti (by unfold aJoined; rw [hfij]; show _ = (if K j = 4 then (if w < 0 ∨ nI 2 < w then (-2) else nI (joinF S J b (ordV TT VV OO j (M j)) (M j) w)) else (-3)); rw [if_pos hk4, if_neg hw2]; unfold joinF; rw [if_neg c_4, if_pos c_5]; rfl) (ret _ _ _ _ u9 (by rw [show smJ n K M TT VV OO (nI j) w = layO TT VV OO j (M j) from by unfold smJ; rw [hfij]; show (if K j = 4 ∧ ¬ (w < 0 ∨ nI 2 < w) ∧ ¬ M j = 0 then layO TT VV OO j (M j) else OO) = _; rw [if_pos ⟨hk4, hw2, hm0⟩]]; exact hP) hS dX4_joined_73)
        · refine lv_aload_n hx hb dX4_joined_54 rfl (lv_at hl 1 rfl) ?_
          refine va_get (D := E.1) (ci := 5) (C := RX4) (T := TX4) (N := 19) hx hb hts hiX4 hown hK.1 hP 0 rfl rfl 8 (by decide) hf155 (fun _ h9 => h9) rfl dX4_joined_55 ?_
          exact z_reti (by unfold aJoined; rw [hfij]; show _ = (if K j = 4 then (if w < 0 ∨ nI 2 < w then (-2) else nI (joinF S J b (ordV TT VV OO j (M j)) (M j) w)) else (-3)); rw [if_pos hk4, if_neg hw2]; unfold joinF; rw [if_pos c_4]) (ret _ _ _ _ (SF, SM, FD) (by rw [show smJ n K M TT VV OO (nI j) w = OO from by unfold smJ; rw [hfij]; show (if K j = 4 ∧ ¬ (w < 0 ∨ nI 2 < w) ∧ ¬ M j = 0 then layO TT VV OO j (M j) else OO) = _; rw [if_neg (fun q => q.2.2 c_4)]]; exact hP) hS dX4_joined_58)
      · refine lv_bipush (v := (-2)) hx hb dX4_joined_40 (by decide) ?_
        exact z_reti (by unfold aJoined; rw [hfij]; show _ = (if K j = 4 then (if w < 0 ∨ nI 2 < w then (-2) else nI (joinF S J b (ordV TT VV OO j (M j)) (M j) w)) else (-3)); rw [if_pos c_2, if_pos (inw2_f c_3)]) (ret _ _ _ _ (SF, SM, FD) (by rw [show smJ n K M TT VV OO (nI j) w = OO from by unfold smJ; rw [hfij]; show (if K j = 4 ∧ ¬ (w < 0 ∨ nI 2 < w) ∧ ¬ M j = 0 then layO TT VV OO j (M j) else OO) = _; rw [if_neg (fun q => q.2.1 (inw2_f c_3))]]; exact hP) hS dX4_joined_42)
    · refine lv_bipush (v := (-3)) hx hb dX4_joined_25 (by decide) ?_
      exact z_reti (by unfold aJoined; rw [hfij]; show _ = (if K j = 4 then (if w < 0 ∨ nI 2 < w then (-2) else nI (joinF S J b (ordV TT VV OO j (M j)) (M j) w)) else (-3)); rw [if_neg c_2]) (ret _ _ _ _ (SF, SM, FD) (by rw [show smJ n K M TT VV OO (nI j) w = OO from by unfold smJ; rw [hfij]; show (if K j = 4 ∧ ¬ (w < 0 ∨ nI 2 < w) ∧ ¬ M j = 0 then layO TT VV OO j (M j) else OO) = _; rw [if_neg (fun q => c_2 q.1)]]; exact hP) hS dX4_joined_27)
  · have hfij := fd_none c_1
    refine lv_iconst (v := (-1)) hx hb dX4_joined_13 (by decide) ?_
    exact z_reti (by unfold aJoined; rw [hfij]; rfl) (ret _ _ _ _ (SF, SM, FD) (by rw [show smJ n K M TT VV OO f w = OO from by unfold smJ; rw [hfij]; rfl]; exact hP) hS dX4_joined_14)
