/-! The world of an ExactFolds: seven cells, and three for each fold -/
def fW (E : zE) (h t v : Nat) (k n : Nat) (T : Nat → Int32) (V : Nat → Int64) : va_W := [(h, .inr (1, [.int (nI k), .ref t, .ref v, .int (nI n)])), (t, .inl (E.2.1, 64, .inl T)), (v, .inl (E.2.2.1, 64, .inr (.inl V)))]
def fP (E : zE) (fh ft fv kd sz : Nat → Nat) (T : Nat → Nat → Int32) (V : Nat → Nat → Int64) (n : Nat) : va_W := (List.range n).flatMap (fun j => fW E (fh j) (ft j) (fv j) (kd j) (sz j) (T j) (V j))
/-- the row of references to the folds -/
def fRef (fh : Nat → Nat) (n : Nat) : Nat → Option Nat := fun j => if j < n then some (fh j) else none
def xB (E : zE) (x0 fa tb st jn rs lm : Nat) (fh : Nat → Nat) (n b : Nat) (S J : Nat → Nat) (w1 w2 w3 w4 : Int32) (L : Nat → Int64) : va_W := [(x0, .inr (4, [.ref fa, .int (nI n), .ref tb, .ref rs])), (fa, .inl (E.2.2.2.2, 12, .inr (.inr (.inr (.inr (fRef fh n)))))), (tb, .inr (3, [.int (nI b), .ref st, .ref jn, .int w1, .int w2, .int w3, .int w4])), (st, .inl (E.2.1, 32, .inl (fun j => nI (S j)))), (jn, .inl (E.2.1, 64, .inl (fun j => nI (J j)))), (rs, .inr (2, [.ref lm])), (lm, .inl (E.2.2.1, 67, .inr (.inl L)))]
theorem fP_succ (E : zE) (fh ft fv kd sz : Nat → Nat) (T : Nat → Nat → Int32) (V : Nat → Nat → Int64) (n : Nat) : fP E fh ft fv kd sz T V (n + 1) = fP E fh ft fv kd sz T V n ++ fW E (fh n) (ft n) (fv n) (kd n) (sz n) (T n) (V n) := by
  unfold fP; rw [List.range_succ, List.flatMap_append]; simp
theorem fP_len (E : zE) (fh ft fv kd sz : Nat → Nat) (T : Nat → Nat → Int32) (V : Nat → Nat → Int64) (n : Nat) : (fP E fh ft fv kd sz T V n).length = 3 * n := by
  induction n with
  | zero => rfl
  | succ n ih => rw [fP_succ, List.length_append, ih]; show 3 * n + 3 = _; omega
theorem fP_get {E : zE} {fh ft fv kd sz : Nat → Nat} {T : Nat → Nat → Int32} {V : Nat → Nat → Int64} {n j i : Nat} (hj : j < n) (hi : i < 3) : (fP E fh ft fv kd sz T V n)[3 * j + i]? = (fW E (fh j) (ft j) (fv j) (kd j) (sz j) (T j) (V j))[i]? := by
  induction n with
  | zero => omega
  | succ n ih =>
    rw [fP_succ]
    by_cases e : j = n
    · subst e
      rw [List.getElem?_append_right (by rw [fP_len]; omega), fP_len, show 3 * j + i - 3 * j = i by omega]
    · rw [List.getElem?_append_left (by rw [fP_len]; omega)]
      exact ih (by omega)
theorem fP_at {E : zE} {fh ft fv kd sz : Nat → Nat} {T : Nat → Nat → Int32} {V : Nat → Nat → Int64} {n k : Nat} {q : Nat × va_E} (h : (fP E fh ft fv kd sz T V n)[k]? = some q) : ∃ j i, j < n ∧ i < 3 ∧ k = 3 * j + i ∧ (fW E (fh j) (ft j) (fv j) (kd j) (sz j) (T j) (V j))[i]? = some q := by
  have hl : k < 3 * n := by
    have h1 := (List.getElem?_eq_some_iff.mp h).1
    rw [fP_len] at h1; exact h1
  refine ⟨k / 3, k % 3, by omega, by omega, by omega, ?_⟩
  rw [← fP_get (n := n) (by omega) (by omega), show 3 * (k / 3) + k % 3 = k by omega]
  exact h
section XWP
variable {E : zE} {x0 fa tb st jn rs lm : Nat} {fh ft fv kd sz : Nat → Nat} {T : Nat → Nat → Int32} {V : Nat → Nat → Int64} {n b : Nat} {S J : Nat → Nat} {w1 w2 w3 w4 : Int32} {L : Nat → Int64} {H H1 : Heap} {A : Nat → Prop} {bs : va_W}
theorem fP_P (h : ∀ j, j < n → va_P E.1 vwCl (fW E (fh j) (ft j) (fv j) (kd j) (sz j) (T j) (V j)) H) : va_P E.1 vwCl (fP E fh ft fv kd sz T V n) H := by
  intro k q hk
  obtain ⟨j, i, hj, hi, -, hq⟩ := fP_at hk
  exact h j hj i q hq
theorem app_l {w1 w2 : va_W} (h : va_P E.1 vwCl (w1 ++ w2) H) : va_P E.1 vwCl w1 H := fun k q hk => h k q (by rw [List.getElem?_append_left (List.getElem?_eq_some_iff.mp hk).1]; exact hk)
theorem app_r {w1 w2 : va_W} (h : va_P E.1 vwCl (w1 ++ w2) H) : va_P E.1 vwCl w2 H := fun k q hk => h (w1.length + k) q (by rw [List.getElem?_append_right (by omega), show w1.length + k - w1.length = k by omega]; exact hk)
theorem P_fP (h : va_P E.1 vwCl (fP E fh ft fv kd sz T V n) H) {j : Nat} (hj : j < n) : va_P E.1 vwCl (fW E (fh j) (ft j) (fv j) (kd j) (sz j) (T j) (V j)) H := by
  intro i q hq
  have hi : i < 3 := (List.getElem?_eq_some_iff.mp hq).1
  exact h (3 * j + i) q (by rw [fP_get hj hi]; exact hq)
/-- what is not the callee's stays -/
theorem z_frameG {D : va_G} {cl : List vw_C} {ws wc : va_W} (hP : va_P D cl ws H) (hD : va_D A ws) (C : Nat → Prop) (hC : ∀ (k : Nat) (q : Nat × va_E), wc[k]? = some q → ∃ (k1 : Nat) (q1 : Nat × va_E), C k1 ∧ ws[k1]? = some q1 ∧ q1.1 = q.1) (hk : ∀ q : Nat, q < H.size → ¬ va_A wc H.size q → H1[q]? = H[q]?) : ∀ (k : Nat) (q : Nat × va_E), ws[k]? = some q → ¬ C k → va_at D cl q H1 := by
  intro k q hq hn
  have ha := hP k q hq
  have hlt := ha.lt
  refine ha.kept (hk q.1 hlt ?_)
  rintro (⟨k2, e, h2⟩ | h2)
  · obtain ⟨k1, q1, c1, c2, c3⟩ := hC k2 _ h2
    exact hn ((hD.1 k k1 q q1 hq c2 (by rw [c3])).symm ▸ c1)
  · omega
theorem z_app1 {D : va_G} {cl : List vw_C} {v1 v2 v1' : va_W} (hP : va_P D cl (v1 ++ v2) H) (hD : va_D A (v1 ++ v2)) (hk : ∀ q : Nat, q < H.size → ¬ va_A v1 H.size q → H1[q]? = H[q]?) (hF : ∀ q, va_A v1 H.size q → A q) (hP1 : va_P D cl v1' H1) (hD1 : va_D (va_A v1 H.size) v1') : va_P D cl (v1' ++ v2) H1 ∧ va_D A (v1' ++ v2) := by
  have hfr := z_frameG (wc := v1) hP hD (fun k => k < v1.length) (fun k q hk => ⟨k, q, (List.getElem?_eq_some_iff.mp hk).1, by rw [List.getElem?_append_left (List.getElem?_eq_some_iff.mp hk).1]; exact hk, rfl⟩) hk
  have hr : ∀ (k : Nat) (q : Nat × va_E), v2[k]? = some q → (v1 ++ v2)[v1.length + k]? = some q := fun k q h => by rw [List.getElem?_append_right (by omega), show v1.length + k - v1.length = k by omega]; exact h
  have hP2 : va_P D cl v2 H1 := fun k q h => hfr _ q (hr k q h) (by omega)
  refine ⟨hP1.app hP2, va_D.app ⟨hD1.1, fun k q h => hF _ (hD1.2 k q h)⟩ ⟨fun i j p q hi hj e => ?_, fun k q h => hD.2 _ q (hr k q h)⟩ ?_⟩
  · have := hD.1 _ _ p q (hr i p hi) (hr j q hj) e; omega
  · intro i j p q hi hj e
    have hA1 := hD1.2 i p hi
    have hlt : q.1 < H.size := (hP _ q (hr j q hj)).lt
    rcases hA1 with ⟨k2, e2, h2⟩ | h2
    · have hk2 : k2 < v1.length := (List.getElem?_eq_some_iff.mp h2).1
      have h3 : (v1 ++ v2)[k2]? = some (p.1, e2) := by rw [List.getElem?_append_left hk2]; exact h2
      have := hD.1 _ _ _ q h3 (hr j q hj) e; omega
    · omega
theorem z_app2 {D : va_G} {cl : List vw_C} {v1 v2 v2' : va_W} (hP : va_P D cl (v1 ++ v2) H) (hD : va_D A (v1 ++ v2)) (hk : ∀ q : Nat, q < H.size → ¬ va_A v2 H.size q → H1[q]? = H[q]?) (hF : ∀ q, va_A v2 H.size q → A q) (hP1 : va_P D cl v2' H1) (hD1 : va_D (va_A v2 H.size) v2') : va_P D cl (v1 ++ v2') H1 ∧ va_D A (v1 ++ v2') := by
  have hr : ∀ (k : Nat) (q : Nat × va_E), v2[k]? = some q → (v1 ++ v2)[v1.length + k]? = some q := fun k q h => by rw [List.getElem?_append_right (by omega), show v1.length + k - v1.length = k by omega]; exact h
  have hl : ∀ (k : Nat) (q : Nat × va_E), v1[k]? = some q → (v1 ++ v2)[k]? = some q := fun k q h => by rw [List.getElem?_append_left (List.getElem?_eq_some_iff.mp h).1]; exact h
  have hfr := z_frameG (wc := v2) hP hD (fun k => v1.length ≤ k) (fun k q hk => ⟨v1.length + k, q, by omega, hr k q hk, rfl⟩) hk
  have hP2 : va_P D cl v1 H1 := fun k q h => hfr _ q (hl k q h) (by have := (List.getElem?_eq_some_iff.mp h).1; omega)
  refine ⟨hP2.app hP1, va_D.app ⟨fun i j p q hi hj e => hD.1 _ _ p q (hl i p hi) (hl j q hj) e, fun k q h => hD.2 _ q (hl k q h)⟩ ⟨hD1.1, fun k q h => hF _ (hD1.2 k q h)⟩ ?_⟩
  intro i j p q hi hj e
  have hA1 := hD1.2 j q hj
  have hi2 := (List.getElem?_eq_some_iff.mp hi).1
  have hlt : p.1 < H.size := (hP _ p (hl i p hi)).lt
  rcases hA1 with ⟨k2, e2, h2⟩ | h2
  · have := hD.1 _ _ p _ (hl i p hi) (hr k2 _ h2) e; omega
  · omega
theorem D_fst {v1 v2 : va_W} (h : va_D A v1) (e : v2.map Prod.fst = v1.map Prod.fst) : va_D A v2 := z_Da h e
theorem fP_fst {kd' sz' : Nat → Nat} {T' : Nat → Nat → Int32} {V' : Nat → Nat → Int64} : (fP E fh ft fv kd' sz' T' V' n).map Prod.fst = (fP E fh ft fv kd sz T V n).map Prod.fst := by
  unfold fP; rw [List.map_flatMap, List.map_flatMap]; rfl
theorem D_l {v1 v2 : va_W} (h : va_D A (v1 ++ v2)) : va_D A v1 := ⟨fun i j p q hi hj e => h.1 i j p q (by rw [List.getElem?_append_left (List.getElem?_eq_some_iff.mp hi).1]; exact hi) (by rw [List.getElem?_append_left (List.getElem?_eq_some_iff.mp hj).1]; exact hj) e, fun k q hk => h.2 k q (by rw [List.getElem?_append_left (List.getElem?_eq_some_iff.mp hk).1]; exact hk)⟩
theorem D_r {v1 v2 : va_W} (h : va_D A (v1 ++ v2)) : va_D A v2 := by
  have hr : ∀ (k : Nat) (q : Nat × va_E), v2[k]? = some q → (v1 ++ v2)[v1.length + k]? = some q := fun k q h => by rw [List.getElem?_append_right (by omega), show v1.length + k - v1.length = k by omega]; exact h
  exact ⟨fun i j p q hi hj e => by have := h.1 _ _ p q (hr i p hi) (hr j q hj) e; omega, fun k q hk => h.2 _ q (hr k q hk)⟩
theorem D_fP (h : va_D A (fP E fh ft fv kd sz T V n)) {j : Nat} (hj : j < n) : va_D A (fW E (fh j) (ft j) (fv j) (kd j) (sz j) (T j) (V j)) := by
  have hr : ∀ (k : Nat) (q : Nat × va_E), (fW E (fh j) (ft j) (fv j) (kd j) (sz j) (T j) (V j))[k]? = some q → (fP E fh ft fv kd sz T V n)[3 * j + k]? = some q := fun k q h => by rw [fP_get hj (List.getElem?_eq_some_iff.mp h).1]; exact h
  exact ⟨fun i k p q hi hk e => by have := h.1 _ _ p q (hr i p hi) (hr k q hk) e; omega, fun k q hk => h.2 _ q (hr k q hk)⟩
end XWP
theorem updN_self {α : Type} (S : Nat → α) (k : Nat) (x : α) : updN S k x k = x := if_pos rfl
theorem updN_ne {α : Type} (S : Nat → α) {k j : Nat} (x : α) (h : j ≠ k) : updN S k x j = S j := if_neg h
section XCALL
variable {p : Program} {l : Launch} {e : Env} {R : Room} {s : State} {m : MethodId} {args : Array Value} {below : List Frame} {meth : Method} {c : Code} {H : Heap} {locs : List Loc} {cells slots : Nat} {Q : State → Prop} {pc : Nat} {ls : Array Slot} {rest st0 : List Value}
variable {E : zE} {fh ft fv kd sz : Nat → Nat} {T : Nat → Nat → Int32} {V : Nat → Nat → Int64} {n : Nat} {A : Nat → Prop} {bs : va_W} {a : Array Value}
theorem x_set {H1 : Heap} {j n1 : Nat} {T1 : Nat → Int32} {V1 : Nat → Int64} (hb : va_P E.1 vwCl bs H1) (hi : ∀ i, i < n → i ≠ j → va_P E.1 vwCl (fW E (fh i) (ft i) (fv i) (kd i) (sz i) (T i) (V i)) H1) (hj : va_P E.1 vwCl (fW E (fh j) (ft j) (fv j) (kd j) n1 T1 V1) H1) : va_P E.1 vwCl (bs ++ fP E fh ft fv kd (updN sz j n1) (updN T j T1) (updN V j V1) n) H1 := by
  refine hb.app (fP_P (fun i h => ?_))
  by_cases e : i = j
  · subst e; rw [updN_self, updN_self, updN_self]; exact hj
  · rw [updN_ne _ _ e, updN_ne _ _ e, updN_ne _ _ e]; exact hi i h e
theorem x_idx {j k : Nat} {q : Nat × va_E} (hj : j < n) (h : (fW E (fh j) (ft j) (fv j) (kd j) (sz j) (T j) (V j))[k]? = some q) : (bs ++ fP E fh ft fv kd sz T V n)[bs.length + (3 * j + k)]? = some q ∧ k < 3 := by
  have hk : k < 3 := (List.getElem?_eq_some_iff.mp h).1
  refine ⟨?_, hk⟩
  rw [List.getElem?_append_right (by omega), show bs.length + (3 * j + k) - bs.length = 3 * j + k by omega, fP_get hj hk]; exact h
theorem x_l {k : Nat} {q : Nat × va_E} {v2 : va_W} (h : bs[k]? = some q) : (bs ++ v2)[k]? = some q ∧ k < bs.length := ⟨by rw [List.getElem?_append_left (List.getElem?_eq_some_iff.mp h).1]; exact h, (List.getElem?_eq_some_iff.mp h).1⟩
theorem x_free {wc ws : va_W} (hD : va_D A ws) (hS : va_S A s.heap H locs) (hA : ∀ q : Nat, s.heap.size ≤ q → A q) (hC : ∀ (k : Nat) (q : Nat × va_E), wc[k]? = some q → ∃ k1 : Nat, ws[k1]? = some q) : ∀ q, va_A wc H.size q → A q := by
  rintro q (⟨k, e, h⟩ | h)
  · obtain ⟨k1, h1⟩ := hC k _ h; exact hD.2 k1 _ h1
  · exact hA q (Nat.le_trans hS.1 h)
/-- a call on one fold -/
theorem zx_fold_v {j n1 : Nat} {T1 : Nat → Int32} {V1 : Nat → Int64} (hr : va_Run p l e R s m args below meth c H locs cells slots 0 0 (F0 m pc ls st0) rest (va_Qv (fun (_ : Unit) => True) (fun _ t => zW E (fW E (fh j) (ft j) (fv j) (kd j) n1 T1 V1) t) (va_A (fW E (fh j) (ft j) (fv j) (kd j) (sz j) (T j) (V j)) H.size) a) (va_A (fW E (fh j) (ft j) (fv j) (kd j) (sz j) (T j) (V j)) H.size))
    (hP : va_P E.1 vwCl (bs ++ fP E fh ft fv kd sz T V n) H) (hD : va_D A (bs ++ fP E fh ft fv kd sz T V n)) (hS : va_S A s.heap H locs) (hA : ∀ q : Nat, s.heap.size ≤ q → A q) (hj : j < n)
    (kk : ∀ (H1 : Heap) (locs1 : List Loc), va_P E.1 vwCl (bs ++ fP E fh ft fv kd (updN sz j n1) (updN T j T1) (updN V j V1) n) H1 → va_D A (bs ++ fP E fh ft fv kd (updN sz j n1) (updN T j T1) (updN V j V1) n) → va_S A s.heap H1 locs1 → W p l e R s m args below meth c H1 locs1 cells slots Q (F0 m (pc + 3) ls rest)) : W p l e R s m args below meth c H locs cells slots Q (F0 m pc ls st0) := by
  have hFc : ∀ q, va_A (fW E (fh j) (ft j) (fv j) (kd j) (sz j) (T j) (V j)) H.size q → A q := x_free hD hS hA (fun k q h => ⟨_, (x_idx (bs := bs) hj h).1⟩)
  refine va_callv hr hS (fun q _ h => hFc q h) hFc (fun u t H1 locs1 ht hvm hw hB hz1 hk1 hS1 => ?_)
  have hP1 : va_P E.1 vwCl (fW E (fh j) (ft j) (fv j) (kd j) n1 T1 V1) H1 := by rw [← ht]; exact hB.1
  have hfr := z_frameG hP hD (fun k => bs.length + 3 * j ≤ k ∧ k < bs.length + 3 * j + 3) (fun k q h => ⟨_, q, by have := (x_idx (bs := bs) hj h).2; constructor <;> omega, (x_idx (bs := bs) hj h).1, rfl⟩) hk1
  refine kk H1 locs1 (x_set (fun k q h => hfr k q (x_l h).1 (by have := (x_l (v2 := []) h).2; omega)) (fun i hi hne k q h => hfr _ q (x_idx (bs := bs) hi h).1 (by have := (x_idx (bs := bs) hi h).2; omega)) hP1) (z_Da hD ?_) hS1
  rw [List.map_append, List.map_append, fP_fst]
theorem zq_i {wc wc' X wr pl : va_W} {v : Int32} (hr : va_Run p l e R s m args below meth c H locs cells slots 0 0 (F0 m pc ls st0) rest (va_Qi (fun (r : Int32) (_ : Unit) => r = v) (fun _ t => zW E wc' t) (va_A wc H.size) a) (va_A wc H.size)) (hP : va_P E.1 vwCl (X ++ pl) H) (hD : va_D A (X ++ pl)) (hS : va_S A s.heap H locs) (hA : ∀ q : Nat, s.heap.size ≤ q → A q) (isC isR : List Nat) (hC : isC.map (fun i => X[i]?) = wc.map some) (hR : isR.map (fun i => X[i]?) = wr.map some) (hnC : va_nd isC = true) (hn : va_nd isR = true) (hdis : ∀ i ∈ isR, i ∉ isC) (he : wc'.map Prod.fst = wc.map Prod.fst) (kk : ∀ (H1 : Heap) (locs1 : List Loc), va_P E.1 vwCl ((wr ++ wc') ++ pl) H1 → va_D A ((wr ++ wc') ++ pl) → va_S A s.heap H1 locs1 → W p l e R s m args below meth c H1 locs1 cells slots Q (F0 m (pc + 3) ls (.int v :: rest))) : W p l e R s m args below meth c H locs cells slots Q (F0 m pc ls st0) := by
  have hFc : ∀ q, va_A wc H.size q → A q := x_free hD hS hA (fun k q h => by
    have h1 : (wc.map some)[k]? = some (some q) := by rw [List.getElem?_map, h]; rfl
    rw [← hC, List.getElem?_map] at h1
    cases hi : isC[k]? with
    | none => rw [hi] at h1; cases h1
    | some i => rw [hi] at h1; exact ⟨i, (x_l (Option.some.inj h1)).1⟩)
  refine va_calli hr hS (fun q _ h => hFc q h) hFc (fun r u t H1 locs1 ht hvm hw hB hz1 hk1 hS1 => ?_)
  have hP1 : va_P E.1 vwCl wc' H1 := by rw [← ht]; exact hB.1
  have hDc := ((D_l hD).sub isC hnC hC).self (sz := H.size)
  obtain ⟨hP2, hD2⟩ := va_joinQ hP hD isC isR hC hR hn hdis hk1 hFc hP1 (z_Da hDc he)
  subst hw
  exact kk H1 locs1 hP2 hD2 hS1
theorem zq_l {wc wc' X wr pl : va_W} {v : Int64} (hr : va_Run p l e R s m args below meth c H locs cells slots 0 0 (F0 m pc ls st0) rest (va_Ql (fun (r : Int64) (_ : Unit) => r = v) (fun _ t => zW E wc' t) (va_A wc H.size) a) (va_A wc H.size)) (hP : va_P E.1 vwCl (X ++ pl) H) (hD : va_D A (X ++ pl)) (hS : va_S A s.heap H locs) (hA : ∀ q : Nat, s.heap.size ≤ q → A q) (isC isR : List Nat) (hC : isC.map (fun i => X[i]?) = wc.map some) (hR : isR.map (fun i => X[i]?) = wr.map some) (hnC : va_nd isC = true) (hn : va_nd isR = true) (hdis : ∀ i ∈ isR, i ∉ isC) (he : wc'.map Prod.fst = wc.map Prod.fst) (kk : ∀ (H1 : Heap) (locs1 : List Loc), va_P E.1 vwCl ((wr ++ wc') ++ pl) H1 → va_D A ((wr ++ wc') ++ pl) → va_S A s.heap H1 locs1 → W p l e R s m args below meth c H1 locs1 cells slots Q (F0 m (pc + 3) ls (.long v :: rest))) : W p l e R s m args below meth c H locs cells slots Q (F0 m pc ls st0) := by
  have hFc : ∀ q, va_A wc H.size q → A q := x_free hD hS hA (fun k q h => by
    have h1 : (wc.map some)[k]? = some (some q) := by rw [List.getElem?_map, h]; rfl
    rw [← hC, List.getElem?_map] at h1
    cases hi : isC[k]? with
    | none => rw [hi] at h1; cases h1
    | some i => rw [hi] at h1; exact ⟨i, (x_l (Option.some.inj h1)).1⟩)
  refine va_calll hr hS (fun q _ h => hFc q h) hFc (fun r u t H1 locs1 ht hvm hw hB hz1 hk1 hS1 => ?_)
  have hP1 : va_P E.1 vwCl wc' H1 := by rw [← ht]; exact hB.1
  have hDc := ((D_l hD).sub isC hnC hC).self (sz := H.size)
  obtain ⟨hP2, hD2⟩ := va_joinQ hP hD isC isR hC hR hn hdis hk1 hFc hP1 (z_Da hDc he)
  subst hw
  exact kk H1 locs1 hP2 hD2 hS1
theorem zq_v {wc wc' X wr pl : va_W} (hr : va_Run p l e R s m args below meth c H locs cells slots 0 0 (F0 m pc ls st0) rest (va_Qv (fun (_ : Unit) => True) (fun _ t => zW E wc' t) (va_A wc H.size) a) (va_A wc H.size)) (hP : va_P E.1 vwCl (X ++ pl) H) (hD : va_D A (X ++ pl)) (hS : va_S A s.heap H locs) (hA : ∀ q : Nat, s.heap.size ≤ q → A q) (isC isR : List Nat) (hC : isC.map (fun i => X[i]?) = wc.map some) (hR : isR.map (fun i => X[i]?) = wr.map some) (hnC : va_nd isC = true) (hn : va_nd isR = true) (hdis : ∀ i ∈ isR, i ∉ isC) (he : wc'.map Prod.fst = wc.map Prod.fst) (kk : ∀ (H1 : Heap) (locs1 : List Loc), va_P E.1 vwCl ((wr ++ wc') ++ pl) H1 → va_D A ((wr ++ wc') ++ pl) → va_S A s.heap H1 locs1 → W p l e R s m args below meth c H1 locs1 cells slots Q (F0 m (pc + 3) ls (rest))) : W p l e R s m args below meth c H locs cells slots Q (F0 m pc ls st0) := by
  have hFc : ∀ q, va_A wc H.size q → A q := x_free hD hS hA (fun k q h => by
    have h1 : (wc.map some)[k]? = some (some q) := by rw [List.getElem?_map, h]; rfl
    rw [← hC, List.getElem?_map] at h1
    cases hi : isC[k]? with
    | none => rw [hi] at h1; cases h1
    | some i => rw [hi] at h1; exact ⟨i, (x_l (Option.some.inj h1)).1⟩)
  refine va_callv hr hS (fun q _ h => hFc q h) hFc (fun u t H1 locs1 ht hvm hw hB hz1 hk1 hS1 => ?_)
  have hP1 : va_P E.1 vwCl wc' H1 := by rw [← ht]; exact hB.1
  have hDc := ((D_l hD).sub isC hnC hC).self (sz := H.size)
  obtain ⟨hP2, hD2⟩ := va_joinQ hP hD isC isR hC hR hn hdis hk1 hFc hP1 (z_Da hDc he)
  exact kk H1 locs1 hP2 hD2 hS1
end XCALL
