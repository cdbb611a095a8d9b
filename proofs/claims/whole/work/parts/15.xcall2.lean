section XCALL2
variable {p : Program} {l : Launch} {e : Env} {R : Room} {s : State} {m : MethodId} {args : Array Value} {below : List Frame} {meth : Method} {c : Code} {H : Heap} {locs : List Loc} {cells slots : Nat} {Q : State → Prop} {pc : Nat} {ls : Array Slot} {rest st0 : List Value}
variable {E : zE} {fh ft fv kd sz : Nat → Nat} {T : Nat → Nat → Int32} {V : Nat → Nat → Int64} {n : Nat} {A : Nat → Prop} {bs : va_W} {a : Array Value}
theorem zall_i {wc wc' : va_W} {v : Int32} (hr : va_Run p l e R s m args below meth c H locs cells slots 0 0 (F0 m pc ls st0) rest (va_Qi (fun (r : Int32) (_ : Unit) => r = v) (fun _ t => zW E wc' t) (va_A wc H.size) a) (va_A wc H.size)) (hD : va_D A wc) (hS : va_S A s.heap H locs) (hA : ∀ q : Nat, s.heap.size ≤ q → A q) (he : wc'.map Prod.fst = wc.map Prod.fst)
    (kk : ∀ (H1 : Heap) (locs1 : List Loc), va_P E.1 vwCl wc' H1 → va_D A wc' → va_S A s.heap H1 locs1 → W p l e R s m args below meth c H1 locs1 cells slots Q (F0 m (pc + 3) ls (.int v :: rest))) : W p l e R s m args below meth c H locs cells slots Q (F0 m pc ls st0) := by
  have hFc : ∀ q, va_A wc H.size q → A q := x_free hD hS hA (fun k q h => ⟨k, h⟩)
  refine va_calli hr hS (fun q _ h => hFc q h) hFc (fun r u t H1 locs1 ht hvm hw hB hz1 hk1 hS1 => ?_)
  subst hw
  exact kk H1 locs1 (by rw [← ht]; exact hB.1) (z_Da hD he) hS1
theorem zall_l {wc wc' : va_W} {v : Int64} (hr : va_Run p l e R s m args below meth c H locs cells slots 0 0 (F0 m pc ls st0) rest (va_Ql (fun (r : Int64) (_ : Unit) => r = v) (fun _ t => zW E wc' t) (va_A wc H.size) a) (va_A wc H.size)) (hD : va_D A wc) (hS : va_S A s.heap H locs) (hA : ∀ q : Nat, s.heap.size ≤ q → A q) (he : wc'.map Prod.fst = wc.map Prod.fst)
    (kk : ∀ (H1 : Heap) (locs1 : List Loc), va_P E.1 vwCl wc' H1 → va_D A wc' → va_S A s.heap H1 locs1 → W p l e R s m args below meth c H1 locs1 cells slots Q (F0 m (pc + 3) ls (.long v :: rest))) : W p l e R s m args below meth c H locs cells slots Q (F0 m pc ls st0) := by
  have hFc : ∀ q, va_A wc H.size q → A q := x_free hD hS hA (fun k q h => ⟨k, h⟩)
  refine va_calll hr hS (fun q _ h => hFc q h) hFc (fun r u t H1 locs1 ht hvm hw hB hz1 hk1 hS1 => ?_)
  subst hw
  exact kk H1 locs1 (by rw [← ht]; exact hB.1) (z_Da hD he) hS1
theorem zall_v {wc wc' : va_W} (hr : va_Run p l e R s m args below meth c H locs cells slots 0 0 (F0 m pc ls st0) rest (va_Qv (fun (_ : Unit) => True) (fun _ t => zW E wc' t) (va_A wc H.size) a) (va_A wc H.size)) (hD : va_D A wc) (hS : va_S A s.heap H locs) (hA : ∀ q : Nat, s.heap.size ≤ q → A q) (he : wc'.map Prod.fst = wc.map Prod.fst)
    (kk : ∀ (H1 : Heap) (locs1 : List Loc), va_P E.1 vwCl wc' H1 → va_D A wc' → va_S A s.heap H1 locs1 → W p l e R s m args below meth c H1 locs1 cells slots Q (F0 m (pc + 3) ls (rest))) : W p l e R s m args below meth c H locs cells slots Q (F0 m pc ls st0) := by
  have hFc : ∀ q, va_A wc H.size q → A q := x_free hD hS hA (fun k q h => ⟨k, h⟩)
  refine va_callv hr hS (fun q _ h => hFc q h) hFc (fun u t H1 locs1 ht hvm hw hB hz1 hk1 hS1 => ?_)
  
  exact kk H1 locs1 (by rw [← ht]; exact hB.1) (z_Da hD he) hS1
/-- a call on two folds -/
theorem zx_merge {i j n1 n2 : Nat} {T1 : Nat → Int32} {V1 : Nat → Int64} (hr : va_Run p l e R s m args below meth c H locs cells slots 0 0 (F0 m pc ls st0) rest (va_Qv (fun (_ : Unit) => True) (fun _ t => zW E (fW E (fh i) (ft i) (fv i) (kd i) n1 T1 V1 ++ fW E (fh j) (ft j) (fv j) (kd j) n2 (T j) (V j)) t) (va_A (fW E (fh i) (ft i) (fv i) (kd i) (sz i) (T i) (V i) ++ fW E (fh j) (ft j) (fv j) (kd j) (sz j) (T j) (V j)) H.size) a) (va_A (fW E (fh i) (ft i) (fv i) (kd i) (sz i) (T i) (V i) ++ fW E (fh j) (ft j) (fv j) (kd j) (sz j) (T j) (V j)) H.size))
    (hP : va_P E.1 vwCl (bs ++ fP E fh ft fv kd sz T V n) H) (hD : va_D A (bs ++ fP E fh ft fv kd sz T V n)) (hS : va_S A s.heap H locs) (hA : ∀ q : Nat, s.heap.size ≤ q → A q) (hi : i < n) (hj : j < n) (hij : i ≠ j)
    (kk : ∀ (H1 : Heap) (locs1 : List Loc), va_P E.1 vwCl (bs ++ fP E fh ft fv kd (updN (updN sz i n1) j n2) (updN T i T1) (updN V i V1) n) H1 → va_D A (bs ++ fP E fh ft fv kd (updN (updN sz i n1) j n2) (updN T i T1) (updN V i V1) n) → va_S A s.heap H1 locs1 → W p l e R s m args below meth c H1 locs1 cells slots Q (F0 m (pc + 3) ls rest)) : W p l e R s m args below meth c H locs cells slots Q (F0 m pc ls st0) := by
  have hin : ∀ (k : Nat) (q : Nat × va_E), (fW E (fh i) (ft i) (fv i) (kd i) (sz i) (T i) (V i) ++ fW E (fh j) (ft j) (fv j) (kd j) (sz j) (T j) (V j))[k]? = some q → ∃ k1 : Nat, ((bs.length + 3 * i ≤ k1 ∧ k1 < bs.length + 3 * i + 3) ∨ (bs.length + 3 * j ≤ k1 ∧ k1 < bs.length + 3 * j + 3)) ∧ (bs ++ fP E fh ft fv kd sz T V n)[k1]? = some q := by
    intro k q h
    by_cases hk : k < 3
    · rw [List.getElem?_append_left hk] at h
      have h1 := x_idx (bs := bs) hi h
      exact ⟨_, Or.inl ⟨by omega, by omega⟩, h1.1⟩
    · rw [List.getElem?_append_right (show 3 ≤ k by omega)] at h
      have h1 := x_idx (bs := bs) hj h
      have := h1.2
      exact ⟨_, Or.inr ⟨by omega, by omega⟩, h1.1⟩
  have hFc : ∀ q, va_A (fW E (fh i) (ft i) (fv i) (kd i) (sz i) (T i) (V i) ++ fW E (fh j) (ft j) (fv j) (kd j) (sz j) (T j) (V j)) H.size q → A q := x_free hD hS hA (fun k q h => (hin k q h).imp (fun _ h => h.2))
  refine va_callv hr hS (fun q _ h => hFc q h) hFc (fun u t H1 locs1 ht hvm hw hB hz1 hk1 hS1 => ?_)
  have hP1 : va_P E.1 vwCl (fW E (fh i) (ft i) (fv i) (kd i) n1 T1 V1 ++ fW E (fh j) (ft j) (fv j) (kd j) n2 (T j) (V j)) H1 := by rw [← ht]; exact hB.1
  have hfr := z_frameG hP hD (fun k1 => (bs.length + 3 * i ≤ k1 ∧ k1 < bs.length + 3 * i + 3) ∨ (bs.length + 3 * j ≤ k1 ∧ k1 < bs.length + 3 * j + 3)) (fun k q h => (hin k q h).imp (fun _ h => ⟨q, h.1, h.2, rfl⟩)) hk1
  refine kk H1 locs1 (va_P.app (fun k q h => hfr k q (x_l h).1 (by have := (x_l (v2 := []) h).2; omega)) (fP_P (fun o ho => ?_))) (z_Da hD ?_) hS1
  · by_cases e1 : o = j
    · subst e1
      rw [updN_self, updN_ne _ _ (Ne.symm hij), updN_ne _ _ (Ne.symm hij)]
      exact app_r hP1
    · by_cases e2 : o = i
      · subst e2
        rw [updN_ne _ _ e1, updN_self, updN_self, updN_self]
        exact app_l hP1
      · rw [updN_ne _ _ e1, updN_ne _ _ e2, updN_ne _ _ e2, updN_ne _ _ e2]
        exact fun k q h => hfr _ q (x_idx (bs := bs) ho h).1 (by have := (x_idx (bs := bs) ho h).2; omega)
  · rw [List.map_append, List.map_append, fP_fst]
/-- the sum of doubles: the limbs are written, the fold is read -/
theorem zx_real {x0 fa tb st jn rs lm b j : Nat} {S J : Nat → Nat} {w1 w2 w3 w4 : Int32} {L L1 : Nat → Int64} {v : Int64} (hr : va_Run p l e R s m args below meth c H locs cells slots 0 0 (F0 m pc ls st0) rest (va_Ql (fun (r : Int64) (_ : Unit) => r = v) (fun _ t => zW E ([(rs, .inr (2, [.ref lm])), (lm, .inl (E.2.2.1, 67, .inr (.inl L1)))] ++ fW E (fh j) (ft j) (fv j) (kd j) (sz j) (T j) (V j)) t) (va_A ([(rs, .inr (2, [.ref lm])), (lm, .inl (E.2.2.1, 67, .inr (.inl L)))] ++ fW E (fh j) (ft j) (fv j) (kd j) (sz j) (T j) (V j)) H.size) a) (va_A ([(rs, .inr (2, [.ref lm])), (lm, .inl (E.2.2.1, 67, .inr (.inl L)))] ++ fW E (fh j) (ft j) (fv j) (kd j) (sz j) (T j) (V j)) H.size))
    (hP : va_P E.1 vwCl (xB E x0 fa tb st jn rs lm fh n b S J w1 w2 w3 w4 L ++ fP E fh ft fv kd sz T V n) H) (hD : va_D A (xB E x0 fa tb st jn rs lm fh n b S J w1 w2 w3 w4 L ++ fP E fh ft fv kd sz T V n)) (hS : va_S A s.heap H locs) (hA : ∀ q : Nat, s.heap.size ≤ q → A q) (hj : j < n)
    (kk : ∀ (H1 : Heap) (locs1 : List Loc), va_P E.1 vwCl (xB E x0 fa tb st jn rs lm fh n b S J w1 w2 w3 w4 L1 ++ fP E fh ft fv kd sz T V n) H1 → va_D A (xB E x0 fa tb st jn rs lm fh n b S J w1 w2 w3 w4 L1 ++ fP E fh ft fv kd sz T V n) → va_S A s.heap H1 locs1 → W p l e R s m args below meth c H1 locs1 cells slots Q (F0 m (pc + 3) ls (.long v :: rest))) : W p l e R s m args below meth c H locs cells slots Q (F0 m pc ls st0) := by
  have hin : ∀ (k : Nat) (q : Nat × va_E), ([(rs, .inr (2, [.ref lm])), (lm, .inl (E.2.2.1, 67, .inr (.inl L)))] ++ fW E (fh j) (ft j) (fv j) (kd j) (sz j) (T j) (V j))[k]? = some q → ∃ k1 : Nat, (k1 = 5 ∨ k1 = 6 ∨ (7 + 3 * j ≤ k1 ∧ k1 < 7 + 3 * j + 3)) ∧ (xB E x0 fa tb st jn rs lm fh n b S J w1 w2 w3 w4 L ++ fP E fh ft fv kd sz T V n)[k1]? = some q := by
    intro k q h
    match k, h with
    | 0, h => exact ⟨5, Or.inl rfl, h⟩
    | 1, h => exact ⟨6, Or.inr (Or.inl rfl), h⟩
    | k + 2, h =>
      have h1 := x_idx (bs := xB E x0 fa tb st jn rs lm fh n b S J w1 w2 w3 w4 L) hj (k := k) (q := q) h
      have := h1.2
      exact ⟨_, Or.inr (Or.inr ⟨by show 7 + 3 * j ≤ 7 + (3 * j + k); omega, by show 7 + (3 * j + k) < _; omega⟩), h1.1⟩
  have hFc := x_free hD hS hA (fun k q h => (hin k q h).imp (fun _ h => h.2))
  refine va_calll hr hS (fun q _ h => hFc q h) hFc (fun r u t H1 locs1 ht hvm hw hB hz1 hk1 hS1 => ?_)
  subst hw
  have hP1 : va_P E.1 vwCl ([(rs, .inr (2, [.ref lm])), (lm, .inl (E.2.2.1, 67, .inr (.inl L1)))] ++ fW E (fh j) (ft j) (fv j) (kd j) (sz j) (T j) (V j)) H1 := by rw [← ht]; exact hB.1
  have hfr := z_frameG hP hD (fun k1 => k1 = 5 ∨ k1 = 6 ∨ (7 + 3 * j ≤ k1 ∧ k1 < 7 + 3 * j + 3)) (fun k q h => (hin k q h).imp (fun _ h => ⟨q, h.1, h.2, rfl⟩)) hk1
  refine kk H1 locs1 (va_P.app (fun k q h => ?_) (fP_P (fun o ho => ?_))) (z_Da hD (by rw [List.map_append, List.map_append]; rfl)) hS1
  · match k, h with
    | 0, h => exact hfr 0 q h (by omega)
    | 1, h => exact hfr 1 q h (by omega)
    | 2, h => exact hfr 2 q h (by omega)
    | 3, h => exact hfr 3 q h (by omega)
    | 4, h => exact hfr 4 q h (by omega)
    | 5, h => exact hP1 0 q h
    | 6, h => exact hP1 1 q h
    | k + 7, h => exact absurd (List.getElem?_eq_some_iff.mp h).1 (by show ¬ k + 7 < 7; omega)
  · by_cases e : o = j
    · subst e; exact app_r hP1
    · exact fun k q h => hfr _ q (x_idx (bs := xB E x0 fa tb st jn rs lm fh n b S J w1 w2 w3 w4 L) ho h).1 (by have := (x_idx (bs := xB E x0 fa tb st jn rs lm fh n b S J w1 w2 w3 w4 L) ho h).2; show ¬ (7 + (3 * o + k) = 5 ∨ 7 + (3 * o + k) = 6 ∨ (7 + 3 * j ≤ 7 + (3 * o + k) ∧ 7 + (3 * o + k) < 7 + 3 * j + 3)); omega)
end XCALL2
