/-! rows taken out; sums, counts, ends -/
theorem rws_del {α β : Type} {T : Nat → α} {V : Nat → β} {p m : Nat} (hp : p < m) : (rws T V m).Perm ((T p, V p) :: rws (delT T p m) (delT V p m) (m - 1)) := by
  induction m with
  | zero => omega
  | succ m ih =>
    show ((T m, V m) :: rws T V m).Perm ((T p, V p) :: rws (delT T p (m + 1)) (delT V p (m + 1)) m)
    by_cases c : p = m
    · subst c
      rw [rws_cg (T := T) (V := V) (T' := delT T p (p + 1)) (V' := delT V p (p + 1)) (fun i hi => ⟨by unfold delT; rw [if_neg (by omega)], by unfold delT; rw [if_neg (by omega)]⟩)]
    · obtain ⟨m2, rfl⟩ : ∃ m2, m = m2 + 1 := ⟨m - 1, by omega⟩
      have h := ih (by omega)
      show _
      have e1 : rws (delT T p (m2 + 1 + 1)) (delT V p (m2 + 1 + 1)) (m2 + 1) = (T (m2 + 1), V (m2 + 1)) :: rws (delT T p (m2 + 1)) (delT V p (m2 + 1)) m2 := by
        show (delT T p (m2 + 1 + 1) m2, delT V p (m2 + 1 + 1) m2) :: rws (delT T p (m2 + 1 + 1)) (delT V p (m2 + 1 + 1)) m2 = _
        rw [show delT T p (m2 + 1 + 1) m2 = T (m2 + 1) from by unfold delT; rw [if_pos (by omega)], show delT V p (m2 + 1 + 1) m2 = V (m2 + 1) from by unfold delT; rw [if_pos (by omega)]]
        rw [rws_cg (T := delT T p (m2 + 1)) (V := delT V p (m2 + 1)) (fun i hi => ⟨by unfold delT; by_cases q : p ≤ i; rw [if_pos (by omega), if_pos (by omega)]; rw [if_neg (by omega), if_neg (by omega)], by unfold delT; by_cases q : p ≤ i; rw [if_pos (by omega), if_pos (by omega)]; rw [if_neg (by omega), if_neg (by omega)]⟩)]
      rw [e1]
      exact (h.cons _).trans (List.Perm.swap _ _ _)
theorem srt_del {T : Nat → Int32} {V : Nat → Int64} {p m : Nat} (hs : srt T V m) : srt (delT T p m) (delT V p m) (m - 1) := by
  intro i k h1 h2
  unfold delT
  by_cases a : p ≤ i
  · rw [if_pos (show p ≤ i ∧ i + 1 < m by omega), if_pos (show p ≤ i ∧ i + 1 < m by omega), if_pos (show p ≤ k ∧ k + 1 < m by omega), if_pos (show p ≤ k ∧ k + 1 < m by omega)]
    exact hs _ _ (by omega) (by omega)
  · rw [if_neg (show ¬ (p ≤ i ∧ i + 1 < m) by omega), if_neg (show ¬ (p ≤ i ∧ i + 1 < m) by omega)]
    by_cases b : p ≤ k
    · rw [if_pos (show p ≤ k ∧ k + 1 < m by omega), if_pos (show p ≤ k ∧ k + 1 < m by omega)]
      exact hs _ _ (by omega) (by omega)
    · rw [if_neg (show ¬ (p ≤ k ∧ k + 1 < m) by omega), if_neg (show ¬ (p ≤ k ∧ k + 1 < m) by omega)]
      exact hs _ _ h1 (by omega)
/-- one row put in another's place -/
theorem rws_at {α β : Type} {T : Nat → α} {V : Nat → β} {i m : Nat} (hi : i < m) : ∃ r, (rws T V m).Perm ((T i, V i) :: r) ∧ ∀ x y, (rws (updN T i x) (updN V i y) m).Perm ((x, y) :: r) := by
  induction m with
  | zero => omega
  | succ m ih =>
    by_cases c : i = m
    · subst c
      refine ⟨rws T V i, List.Perm.refl _, fun x y => ?_⟩
      show ((updN T i x i, updN V i y i) :: rws (updN T i x) (updN V i y) i).Perm _
      rw [updN_self, updN_self, rws_cg (T := T) (V := V) (fun k hk => ⟨updN_ne _ _ (by omega), updN_ne _ _ (by omega)⟩)]
    · obtain ⟨r, h1, h2⟩ := ih (by omega)
      refine ⟨(T m, V m) :: r, (h1.cons _).trans (List.Perm.swap _ _ _), fun x y => ?_⟩
      show ((updN T i x m, updN V i y m) :: rws (updN T i x) (updN V i y) m).Perm _
      rw [updN_ne _ _ (show m ≠ i by omega), updN_ne _ _ (show m ≠ i by omega)]
      exact ((h2 x y).cons _).trans (List.Perm.swap _ _ _)
/-- the last row put into the place of the row taken out -/
theorem rws_take {α β : Type} {T : Nat → α} {V : Nat → β} {i m : Nat} (hi : i < m) : (rws T V m).Perm ((T i, V i) :: rws (updN T i (T (m - 1))) (updN V i (V (m - 1))) (m - 1)) := by
  obtain ⟨m2, rfl⟩ : ∃ m2, m = m2 + 1 := ⟨m - 1, by omega⟩
  show ((T m2, V m2) :: rws T V m2).Perm ((T i, V i) :: rws (updN T i (T m2)) (updN V i (V m2)) m2)
  by_cases c : i = m2
  · subst c
    rw [rws_cg (T := T) (V := V) (T' := updN T i (T i)) (V' := updN V i (V i)) (fun k hk => ⟨updN_ne _ _ (by omega), updN_ne _ _ (by omega)⟩)]
  · obtain ⟨r, h1, h2⟩ := rws_at (T := T) (V := V) (i := i) (m := m2) (by omega)
    exact ((h1.cons _).trans (List.Perm.swap _ _ _)).trans ((h2 _ _).symm.cons _)
/-- the first row like it -/
theorem lkF_spec (T : Nat → Int32) (V : Nat → Int64) (t : Int32) (v : Int64) (f i : Nat) : (lkF T V t v f i = none ∧ ∀ k, i ≤ k → k < i + f → ¬ (T k = t ∧ V k = v)) ∨ ∃ k, i ≤ k ∧ k < i + f ∧ T k = t ∧ V k = v ∧ lkF T V t v f i = some k := by
  induction f generalizing i with
  | zero => exact Or.inl ⟨rfl, fun k h1 h2 => by omega⟩
  | succ f ih =>
    unfold lkF
    split
    · rename_i c; exact Or.inr ⟨i, Nat.le_refl _, by omega, c.1, c.2, rfl⟩
    · rename_i c
      rcases ih (i + 1) with ⟨h1, h2⟩ | ⟨k, h1, h2, h3, h4, h5⟩
      · refine Or.inl ⟨h1, fun k a b => ?_⟩
        by_cases e : k = i
        · subst e; exact c
        · exact h2 k (by omega) (by omega)
      · exact Or.inr ⟨k, by omega, by omega, h3, h4, h5⟩
theorem lk_cases (T : Nat → Int32) (V : Nat → Int64) (t : Int32) (v : Int64) (m : Nat) : (lk T V t v m = none ∧ ¬ (t, v) ∈ rws T V m) ∨ ∃ k, k < m ∧ T k = t ∧ V k = v ∧ lk T V t v m = some k := by
  rcases lkF_spec T V t v m 0 with ⟨h1, h2⟩ | ⟨k, h1, h2, h3, h4, h5⟩
  · refine Or.inl ⟨h1, fun h => ?_⟩
    obtain ⟨i, hi, e⟩ := rws_mem.mp h
    exact h2 i (Nat.zero_le _) (by omega) ⟨(congrArg Prod.fst e).symm, (congrArg Prod.snd e).symm⟩
  · exact Or.inr ⟨k, by omega, h3, h4, h5⟩
/-- sums -/
def fsum (g : Int64 → Int64) : List (Int32 × Int64) → Int64
  | [] => 0
  | a :: l => fsum g l + g a.2
theorem fsum_perm {g : Int64 → Int64} {l1 l2 : List (Int32 × Int64)} (h : l1.Perm l2) : fsum g l1 = fsum g l2 := by
  induction h with
  | nil => rfl
  | cons x _ ih => show fsum g _ + g x.2 = fsum g _ + g x.2; rw [ih]
  | swap x y l => show fsum g l + g x.2 + g y.2 = fsum g l + g y.2 + g x.2; rw [Int64.add_assoc, Int64.add_assoc, Int64.add_comm (g x.2)]
  | trans _ _ a b => exact a.trans b
theorem fsum_V (T : Nat → Int32) (V : Nat → Int64) (m : Nat) : fsum (fun x => x) (rws T V m) = sumV V m := by
  induction m with
  | zero => rfl
  | succ m ih => show fsum (fun x => x) (rws T V m) + V m = sumV V m + V m; rw [ih]
theorem fsum_Q (T : Nat → Int32) (V : Nat → Int64) (m : Nat) : fsum (fun x => x * x) (rws T V m) = sumQ V m := by
  induction m with
  | zero => rfl
  | succ m ih => show fsum (fun x => x * x) (rws T V m) + V m * V m = sumQ V m + V m * V m; rw [ih]
theorem fsum_lo (T : Nat → Int32) (V : Nat → Int64) (m : Nat) : fsum (fun x => x &&& 4294967295) (rws T V m) = lowV V m := by
  induction m with
  | zero => rfl
  | succ m ih => show fsum (fun x => x &&& 4294967295) (rws T V m) + (V m &&& 4294967295) = lowV V m + (V m &&& 4294967295); rw [ih]
theorem fsum_hi (T : Nat → Int32) (V : Nat → Int64) (m : Nat) : fsum (fun x => jshr x (nI 32)) (rws T V m) = highV V m := by
  induction m with
  | zero => rfl
  | succ m ih => show fsum (fun x => jshr x (nI 32)) (rws T V m) + jshr (V m) (nI 32) = highV V m + jshr (V m) (nI 32); rw [ih]
theorem pm_V {T T' : Nat → Int32} {V V' : Nat → Int64} {m : Nat} (hp : (rws T V m).Perm (rws T' V' m)) : sumV V m = sumV V' m := by rw [← fsum_V T, ← fsum_V T', fsum_perm hp]
theorem pm_Q {T T' : Nat → Int32} {V V' : Nat → Int64} {m : Nat} (hp : (rws T V m).Perm (rws T' V' m)) : sumQ V m = sumQ V' m := by rw [← fsum_Q T, ← fsum_Q T', fsum_perm hp]
theorem pm_U {T T' : Nat → Int32} {V V' : Nat → Int64} {m : Nat} (hp : (rws T V m).Perm (rws T' V' m)) : spU V m = spU V' m := by unfold spU; rw [pm_V hp, pm_Q hp]
theorem pm_limb {T T' : Nat → Int32} {V V' : Nat → Int64} {m : Nat} (hp : (rws T V m).Perm (rws T' V' m)) (k : Int32) : limbF V m k = limbF V' m k := by
  have a : lowV V m = lowV V' m := by rw [← fsum_lo T, ← fsum_lo T', fsum_perm hp]
  have b : highV V m = highV V' m := by rw [← fsum_hi T, ← fsum_hi T', fsum_perm hp]
  unfold limbF; rw [a, b]
/-- how many are below -/
def fcnt (w : Int64) : List (Int32 × Int64) → Nat
  | [] => 0
  | a :: l => if a.2 < w then fcnt w l + 1 else fcnt w l
theorem fcnt_perm {w : Int64} {l1 l2 : List (Int32 × Int64)} (h : l1.Perm l2) : fcnt w l1 = fcnt w l2 := by
  induction h with
  | nil => rfl
  | cons x _ ih => unfold fcnt; rw [ih]
  | swap x y l =>
    show (if y.2 < w then (if x.2 < w then fcnt w l + 1 else fcnt w l) + 1 else (if x.2 < w then fcnt w l + 1 else fcnt w l)) = (if x.2 < w then (if y.2 < w then fcnt w l + 1 else fcnt w l) + 1 else (if y.2 < w then fcnt w l + 1 else fcnt w l))
    by_cases a : x.2 < w <;> by_cases b : y.2 < w <;> simp [a, b]
  | trans _ _ a b => exact a.trans b
theorem fcnt_B (T : Nat → Int32) (V : Nat → Int64) (w : Int64) (m : Nat) : fcnt w (rws T V m) = cntB V w m := by
  induction m with
  | zero => rfl
  | succ m ih => show (if V m < w then fcnt w (rws T V m) + 1 else fcnt w (rws T V m)) = (if V m < w then cntB V w m + 1 else cntB V w m); rw [ih]
theorem pm_B {T T' : Nat → Int32} {V V' : Nat → Int64} {m : Nat} (hp : (rws T V m).Perm (rws T' V' m)) (w : Int64) : cntB V w m = cntB V' w m := by rw [← fcnt_B T, ← fcnt_B T', fcnt_perm hp]
/-- how many unlike values there are -/
def vls : List (Int32 × Int64) → List Int64
  | [] => []
  | a :: l => a.2 :: vls l
theorem vls_perm {l1 l2 : List (Int32 × Int64)} (h : l1.Perm l2) : (vls l1).Perm (vls l2) := by
  induction h with
  | nil => exact List.Perm.refl _
  | cons x _ ih => exact ih.cons _
  | swap x y l => exact List.Perm.swap _ _ _
  | trans _ _ a b => exact a.trans b
def dcl : List Int64 → Nat
  | [] => 0
  | a :: l => if a ∈ l then dcl l else dcl l + 1
theorem dcl_perm {l1 l2 : List Int64} (h : l1.Perm l2) : dcl l1 = dcl l2 := by
  induction h with
  | nil => rfl
  | @cons x l1 l2 hp ih =>
    show (if x ∈ l1 then dcl l1 else dcl l1 + 1) = (if x ∈ l2 then dcl l2 else dcl l2 + 1)
    rw [ih]
    by_cases c : x ∈ l1
    · rw [if_pos c, if_pos (hp.mem_iff.mp c)]
    · rw [if_neg c, if_neg (fun q => c (hp.mem_iff.mpr q))]
  | swap x y l =>
    show (if y ∈ x :: l then (if x ∈ l then dcl l else dcl l + 1) else (if x ∈ l then dcl l else dcl l + 1) + 1) = (if x ∈ y :: l then (if y ∈ l then dcl l else dcl l + 1) else (if y ∈ l then dcl l else dcl l + 1) + 1)
    by_cases e : x = y
    · subst e; rfl
    · by_cases a : x ∈ l <;> by_cases b : y ∈ l <;> simp [a, b, e, Ne.symm e, List.mem_cons]
  | trans _ _ a b => exact a.trans b
theorem vls_mem {T : Nat → Int32} {V : Nat → Int64} {m : Nat} {x : Int64} : x ∈ vls (rws T V m) ↔ ∃ i, i < m ∧ V i = x := by
  induction m with
  | zero => exact ⟨fun h => (List.not_mem_nil h).elim, fun ⟨i, h, _⟩ => absurd h (Nat.not_lt_zero _)⟩
  | succ m ih =>
    show x ∈ V m :: vls (rws T V m) ↔ _
    rw [List.mem_cons, ih]
    constructor
    · rintro (h | ⟨i, h, e⟩)
      · exact ⟨m, by omega, h.symm⟩
      · exact ⟨i, by omega, e⟩
    · rintro ⟨i, h, e⟩
      by_cases c : i = m
      · subst c; exact Or.inl e.symm
      · exact Or.inr ⟨i, by omega, e⟩
theorem dcl_U (T : Nat → Int32) (V : Nat → Int64) (m : Nat) : dcl (vls (rws T V m)) = cntU V m := by
  induction m with
  | zero => rfl
  | succ m ih =>
    show (if V m ∈ vls (rws T V m) then dcl (vls (rws T V m)) else dcl (vls (rws T V m)) + 1) = (if isFst V m = true then cntU V m + 1 else cntU V m)
    rw [ih]
    have h : isFst V m = true ↔ ¬ V m ∈ vls (rws T V m) := by
      rw [← frM_fst, frM_iff, vls_mem]
      exact ⟨fun h ⟨i, a, b⟩ => h i a b, fun h i a b => h ⟨i, a, b⟩⟩
    by_cases c : V m ∈ vls (rws T V m)
    · rw [if_pos c, if_neg (fun q => h.mp q c)]
    · rw [if_neg c, if_pos (h.mpr c)]
theorem pm_Un {T T' : Nat → Int32} {V V' : Nat → Int64} {m : Nat} (hp : (rws T V m).Perm (rws T' V' m)) : cntU V m = cntU V' m := by rw [← dcl_U T, ← dcl_U T', dcl_perm (vls_perm hp)]
/-- the least and the greatest -/
theorem minV_spec (V : Nat → Int64) (m : Nat) : (∀ i, i < m → ¬ V i < minV V m) ∧ (0 < m → ∃ i, i < m ∧ V i = minV V m) := by
  induction m with
  | zero => exact ⟨fun i h => by omega, fun h => by omega⟩
  | succ m ih =>
    unfold minV
    split
    · rename_i c
      refine ⟨fun i h => ?_, fun _ => ⟨m, by omega, rfl⟩⟩
      by_cases e : i = m
      · subst e; rw [l_lt]; omega
      · have := ih.1 i (by omega); rw [l_lt] at *; omega
    · rename_i c
      refine ⟨fun i h => ?_, fun _ => ?_⟩
      · by_cases e : i = m
        · subst e; exact c
        · exact ih.1 i (by omega)
      · by_cases z : 0 < m
        · obtain ⟨i, h1, h2⟩ := ih.2 z; exact ⟨i, by omega, h2⟩
        · obtain rfl : m = 0 := by omega
          refine ⟨0, by omega, ?_⟩
          have c : ¬ V 0 < 9223372036854775807 := c
          show V 0 = 9223372036854775807
          rw [l_eq]; rw [l_lt] at c
          have e1 : (9223372036854775807 : Int64).toInt = 9223372036854775807 := rfl
          have h9 := Int64.toInt_le (V 0)
          rw [show Int64.maxValue.toInt = 9223372036854775807 from rfl] at h9
          rw [e1] at c ⊢
          omega
theorem maxV_spec (V : Nat → Int64) (m : Nat) : (∀ i, i < m → ¬ maxV V m < V i) ∧ (0 < m → ∃ i, i < m ∧ V i = maxV V m) := by
  induction m with
  | zero => exact ⟨fun i h => by omega, fun h => by omega⟩
  | succ m ih =>
    unfold maxV
    split
    · rename_i c
      have z : 0 < m := by
        rcases Nat.eq_zero_or_pos m with z | z
        · subst z
          have c : V 0 < (-9223372036854775808) := c
          rw [l_lt] at c
          have e1 : (-9223372036854775808 : Int64).toInt = -9223372036854775808 := rfl
          have := Int64.le_toInt (V 0)
          rw [e1] at c
          omega
        · exact z
      refine ⟨fun i h => ?_, fun _ => ?_⟩
      · by_cases e : i = m
        · subst e; rw [l_lt] at *; omega
        · exact ih.1 i (by omega)
      · obtain ⟨i, h1, h2⟩ := ih.2 z; exact ⟨i, by omega, h2⟩
    · rename_i c
      refine ⟨fun i h => ?_, fun _ => ⟨m, by omega, rfl⟩⟩
      by_cases e : i = m
      · subst e; rw [l_lt]; omega
      · have := ih.1 i (by omega); rw [l_lt] at *; omega
theorem bsM_spec0 (V : Nat → Int64) (m : Nat) (hm : 0 < m) : (∀ i, i < m → ¬ V i < bsM 0 V m) ∧ ∃ i, i < m ∧ V i = bsM 0 V m := by
  have g : ∀ k, (∀ i, i < k → ¬ V i < bsM 0 V k) ∧ ¬ V 0 < bsM 0 V k ∧ ∃ i, (i < k ∨ i = 0) ∧ V i = bsM 0 V k := by
    intro k
    induction k with
    | zero => exact ⟨fun i h => by omega, by show ¬ V 0 < V 0; rw [l_lt]; omega, 0, Or.inr rfl, rfl⟩
    | succ k ih =>
      unfold bsM
      rw [if_pos rfl]
      split
      · rename_i c
        refine ⟨fun i h => ?_, ?_, k, Or.inl (by omega), rfl⟩
        · by_cases e : i = k
          · subst e; rw [l_lt]; omega
          · have := ih.1 i (by omega); rw [l_lt] at *; omega
        · have := ih.2.1; rw [l_lt] at *; omega
      · rename_i c
        obtain ⟨i, h1, h2⟩ := ih.2.2
        refine ⟨fun i h => ?_, ih.2.1, i, ?_, h2⟩
        · by_cases e : i = k
          · subst e; exact c
          · exact ih.1 i (by omega)
        · rcases h1 with q | q
          · exact Or.inl (by omega)
          · exact Or.inr q
  obtain ⟨a, b, i, h1, h2⟩ := g m
  exact ⟨a, i, by omega, h2⟩
theorem bsM_spec1 {e : Int32} (he : ¬ e = 0) (V : Nat → Int64) (m : Nat) (hm : 0 < m) : (∀ i, i < m → ¬ bsM e V m < V i) ∧ ∃ i, i < m ∧ V i = bsM e V m := by
  have g : ∀ k, (∀ i, i < k → ¬ bsM e V k < V i) ∧ ¬ bsM e V k < V 0 ∧ ∃ i, (i < k ∨ i = 0) ∧ V i = bsM e V k := by
    intro k
    induction k with
    | zero => exact ⟨fun i h => by omega, by show ¬ V 0 < V 0; rw [l_lt]; omega, 0, Or.inr rfl, rfl⟩
    | succ k ih =>
      unfold bsM
      rw [if_neg he]
      split
      · rename_i c
        refine ⟨fun i h => ?_, ?_, k, Or.inl (by omega), rfl⟩
        · by_cases e : i = k
          · subst e; rw [l_lt]; omega
          · have := ih.1 i (by omega); rw [l_lt] at *; omega
        · have := ih.2.1; rw [l_lt] at *; omega
      · rename_i c
        obtain ⟨i, h1, h2⟩ := ih.2.2
        refine ⟨fun i h => ?_, ih.2.1, i, ?_, h2⟩
        · by_cases e : i = k
          · subst e; exact c
          · exact ih.1 i (by omega)
        · rcases h1 with q | q
          · exact Or.inl (by omega)
          · exact Or.inr q
  obtain ⟨a, b, i, h1, h2⟩ := g m
  exact ⟨a, i, by omega, h2⟩
theorem pm_min {T T' : Nat → Int32} {V V' : Nat → Int64} {m : Nat} (hp : (rws T V m).Perm (rws T' V' m)) (hm : 0 < m) : minV V m = bsM 0 V' m := by
  obtain ⟨a1, a2⟩ := minV_spec V m
  obtain ⟨b1, b2⟩ := bsM_spec0 V' m hm
  obtain ⟨i, hi, ei⟩ := a2 hm
  obtain ⟨k, hk, ek⟩ := b2
  obtain ⟨i2, hi2, ei2⟩ := vls_mem.mp ((vls_perm hp).mem_iff.mp (vls_mem.mpr ⟨i, hi, ei⟩))
  obtain ⟨k2, hk2, ek2⟩ := vls_mem.mp ((vls_perm hp).mem_iff.mpr (vls_mem.mpr ⟨k, hk, ek⟩))
  have c1 := b1 i2 hi2
  have c2 := a1 k2 hk2
  rw [ei2] at c1; rw [ek2] at c2
  rw [l_lt] at c1 c2; rw [l_eq]; omega
theorem pm_max {T T' : Nat → Int32} {V V' : Nat → Int64} {m : Nat} {e : Int32} (he : ¬ e = 0) (hp : (rws T V m).Perm (rws T' V' m)) (hm : 0 < m) : maxV V m = bsM e V' m := by
  obtain ⟨a1, a2⟩ := maxV_spec V m
  obtain ⟨b1, b2⟩ := bsM_spec1 he V' m hm
  obtain ⟨i, hi, ei⟩ := a2 hm
  obtain ⟨k, hk, ek⟩ := b2
  obtain ⟨i2, hi2, ei2⟩ := vls_mem.mp ((vls_perm hp).mem_iff.mp (vls_mem.mpr ⟨i, hi, ei⟩))
  obtain ⟨k2, hk2, ek2⟩ := vls_mem.mp ((vls_perm hp).mem_iff.mpr (vls_mem.mpr ⟨k, hk, ek⟩))
  have c1 := b1 i2 hi2
  have c2 := a1 k2 hk2
  rw [ei2] at c1; rw [ek2] at c2
  rw [l_lt] at c1 c2; rw [l_eq]; omega
