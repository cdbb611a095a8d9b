/-! folds merged, compared, laid in order -/
theorem rws_cat {α β : Type} {T T' T2 : Nat → α} {V V' V2 : Nat → β} {n k : Nat} (h1 : ∀ i, i < n → T' i = T i ∧ V' i = V i) (h2 : ∀ i, i < k → T' (n + i) = T2 i ∧ V' (n + i) = V2 i) : rws T' V' (n + k) = rws T2 V2 k ++ rws T V n := by
  induction k with
  | zero => exact rws_cg h1
  | succ k ih =>
    show (T' (n + k), V' (n + k)) :: rws T' V' (n + k) = (T2 k, V2 k) :: (rws T2 V2 k ++ rws T V n)
    rw [ih (fun i hi => h2 i (by omega)), (h2 k (by omega)).1, (h2 k (by omega)).2]
theorem insN_spec {T : Nat → Int32} {V : Nat → Int64} {n : Nat} (T2 : Nat → Int32) (V2 : Nat → Int64) (hs : srt T V n) (k : Nat) : srt (insN T V n T2 V2 k).1 (insN T V n T2 V2 k).2 (n + k) ∧ (rws (insN T V n T2 V2 k).1 (insN T V n T2 V2 k).2 (n + k)).Perm (rws T2 V2 k ++ rws T V n) := by
  induction k with
  | zero => exact ⟨hs, List.Perm.refl _⟩
  | succ k ih =>
    refine ⟨srt_plc ih.1, ?_⟩
    exact (rws_ins _ _ (plc_le _ _ _ _ _)).trans (ih.2.cons _)
theorem mgT_at {TT : Nat → Int32} {M : Nat → Nat} {j o : Nat} (hjo : j ≠ o) {k : Nat} (hk : M j + k ≤ 64) (x : Nat) : mgTm TT M j o k x = if 64 * j + M j ≤ x ∧ x < 64 * j + M j + k then TT (64 * o + (x - (64 * j + M j))) else TT x := by
  induction k generalizing x with
  | zero => rw [if_neg (by omega)]; rfl
  | succ k ih =>
    show upd (mgTm TT M j o k) (64 * j + (M j + k)) (mgTm TT M j o k (64 * o + k)) x = _
    rw [ih (by omega) (64 * o + k), if_neg (by omega)]
    unfold upd
    by_cases e : x = 64 * j + (M j + k)
    · rw [if_pos e, if_pos (by omega), e, show 64 * j + (M j + k) - (64 * j + M j) = k by omega]
    · rw [if_neg e, ih (by omega)]
      by_cases c : 64 * j + M j ≤ x ∧ x < 64 * j + M j + k
      · rw [if_pos c, if_pos (by omega)]
      · rw [if_neg c, if_neg (by omega)]
theorem mgV_at {TT : Nat → Int64} {M : Nat → Nat} {j o : Nat} (hjo : j ≠ o) {k : Nat} (hk : M j + k ≤ 64) (x : Nat) : mgVm TT M j o k x = if 64 * j + M j ≤ x ∧ x < 64 * j + M j + k then TT (64 * o + (x - (64 * j + M j))) else TT x := by
  induction k generalizing x with
  | zero => rw [if_neg (by omega)]; rfl
  | succ k ih =>
    show vp_updL (mgVm TT M j o k) (64 * j + (M j + k)) (mgVm TT M j o k (64 * o + k)) x = _
    rw [ih (by omega) (64 * o + k), if_neg (by omega)]
    unfold vp_updL
    by_cases e : x = 64 * j + (M j + k)
    · rw [if_pos e, if_pos (by omega), e, show 64 * j + (M j + k) - (64 * j + M j) = k by omega]
    · rw [if_neg e, ih (by omega)]
      by_cases c : 64 * j + M j ≤ x ∧ x < 64 * j + M j + k
      · rw [if_pos c, if_pos (by omega)]
      · rw [if_neg c, if_neg (by omega)]
/-- how often a row is there -/
def cnl (x : Int32 × Int64) : List (Int32 × Int64) → Nat
  | [] => 0
  | a :: l => cnl x l + (if a.1 = x.1 ∧ a.2 = x.2 then 1 else 0)
theorem cnl_R (T : Nat → Int32) (V : Nat → Int64) (t : Int32) (v : Int64) (m : Nat) : cnl (t, v) (rws T V m) = cntR T V t v m := by
  induction m with
  | zero => rfl
  | succ m ih => show cnl (t, v) (rws T V m) + (if T m = t ∧ V m = v then 1 else 0) = cntR T V t v m + (if T m = t ∧ V m = v then 1 else 0); rw [ih]
theorem cnl_perm {x : Int32 × Int64} {l1 l2 : List (Int32 × Int64)} (h : l1.Perm l2) : cnl x l1 = cnl x l2 := by
  induction h with
  | nil => rfl
  | cons a _ ih => unfold cnl; rw [ih]
  | swap a b l => unfold cnl; unfold cnl; omega
  | trans _ _ a b => exact a.trans b
theorem cnl_pos {x : Int32 × Int64} {l : List (Int32 × Int64)} (h : 0 < cnl x l) : x ∈ l := by
  induction l with
  | nil => exact absurd h (Nat.lt_irrefl _)
  | cons a l ih =>
    unfold cnl at h
    by_cases c : a.1 = x.1 ∧ a.2 = x.2
    · rw [show x = a from (Prod.ext c.1 c.2).symm]; exact List.mem_cons_self
    · rw [if_neg c] at h; exact List.mem_cons_of_mem _ (ih h)
theorem perm_of_cnl {l1 l2 : List (Int32 × Int64)} (hl : l1.length = l2.length) (h : ∀ x, x ∈ l1 → cnl x l1 = cnl x l2) : l1.Perm l2 := by
  induction l1 generalizing l2 with
  | nil =>
    cases l2 with
    | nil => exact List.Perm.refl _
    | cons a l => exact absurd hl (by simp)
  | cons a r ih =>
    have h1 := h a List.mem_cons_self
    have h2 : a ∈ l2 := cnl_pos (by rw [← h1]; unfold cnl; rw [if_pos ⟨rfl, rfl⟩]; omega)
    obtain ⟨s, t, rfl⟩ := List.append_of_mem h2
    have hp : (s ++ a :: t).Perm (a :: (s ++ t)) := List.perm_middle
    refine List.Perm.trans (List.Perm.cons a (ih (l2 := s ++ t) ?_ (fun x hx => ?_))) hp.symm
    · have := hp.length_eq
      simp only [List.length_cons] at this hl
      omega
    · have h3 := h x (List.mem_cons_of_mem _ hx)
      rw [cnl_perm hp] at h3
      unfold cnl at h3
      omega
theorem smM_iff (TT : Nat → Int32) (VV : Nat → Int64) (M : Nat → Nat) (j g k : Nat) : smM TT VV M j g k = true ↔ ∀ i, i < k → cntR (vw TT j) (vw VV j) (vw TT j i) (vw VV j i) (M j) = cntR (vw TT g) (vw VV g) (vw TT j i) (vw VV j i) (M g) := by
  induction k with
  | zero => exact ⟨fun _ i h => by omega, fun _ => rfl⟩
  | succ k ih =>
    unfold smM
    rw [Bool.and_eq_true, ih, decide_eq_true_iff]
    constructor
    · rintro ⟨h1, h2⟩ i hi
      by_cases e : i = k
      · subst e; exact h2
      · exact h1 i (by omega)
    · intro h; exact ⟨fun i hi => h i (by omega), h k (by omega)⟩
theorem sameF_iff (T U : Nat → Int32) (V W : Nat → Int64) (n f i : Nat) : sameF T U V W n f i = true ↔ ∀ k, i ≤ k → k < i + f → k < n ∧ U k = T k ∧ W k = V k := by
  induction f generalizing i with
  | zero => exact ⟨fun _ k h1 h2 => by omega, fun _ => rfl⟩
  | succ f ih =>
    unfold sameF
    have e : rowIs U W n i (T i) (V i) = true ↔ i < n ∧ U i = T i ∧ W i = V i := by unfold rowIs; exact decide_eq_true_iff
    by_cases c : rowIs U W n i (T i) (V i) = true
    · rw [if_pos c, ih]
      constructor
      · intro h k h1 h2
        by_cases q : k = i
        · subst q; exact e.mp c
        · exact h k (by omega) (by omega)
      · intro h k h1 h2; exact h k (by omega) (by omega)
    · rw [if_neg c]
      exact ⟨fun h => absurd h Bool.false_ne_true, fun h => absurd (e.mpr (h i (Nat.le_refl _) (by omega))) c⟩
theorem same_eq {T U : Nat → Int32} {V W : Nat → Int64} {TT : Nat → Int32} {VV : Nat → Int64} {M : Nat → Nat} {j g : Nat} (h1 : srt T V (M j)) (h2 : srt U W (M g)) (p1 : (rws T V (M j)).Perm (rws (vw TT j) (vw VV j) (M j))) (p2 : (rws U W (M g)).Perm (rws (vw TT g) (vw VV g) (M g))) : sameR T U V W (M j) (M g) = (decide (M j = M g) && smM TT VV M j g (M j)) := by
  unfold sameR
  by_cases e : M j = M g
  · rw [if_pos e, decide_eq_true e, Bool.true_and]
    apply Bool.eq_iff_iff.mpr
    rw [sameF_iff, smM_iff]
    constructor
    · intro h
      have e2 : rws U W (M g) = rws T V (M j) := by
        rw [← e]
        exact rws_cg (fun i hi => ⟨(h i (Nat.zero_le _) (by omega)).2.1, (h i (Nat.zero_le _) (by omega)).2.2⟩)
      have p : (rws (vw TT j) (vw VV j) (M j)).Perm (rws (vw TT g) (vw VV g) (M g)) := (p1.symm.trans (by rw [← e2]; exact p2))
      intro i hi
      rw [← cnl_R, ← cnl_R, cnl_perm p]
    · intro h
      have p : (rws (vw TT j) (vw VV j) (M j)).Perm (rws (vw TT g) (vw VV g) (M g)) := by
        refine perm_of_cnl (by rw [rws_len, rws_len, e]) (fun x hx => ?_)
        obtain ⟨i, hi, rfl⟩ := rws_mem.mp hx
        rw [cnl_R, cnl_R]; exact h i hi
      have q : (rws U W (M j)).Perm (rws T V (M j)) := by
        have := (p1.trans (p.trans p2.symm)).symm
        rw [e] at this ⊢
        rw [← e] at this
        rw [← e]; exact this
      have z := srt_uniq h1 (by rw [e]; exact h2) q
      intro k _ hk
      exact ⟨by omega, (z k (by omega)).1, (z k (by omega)).2⟩
  · rw [if_neg e, decide_eq_false e, Bool.false_and]
theorem leR_of {t u : Int32} {v w : Int64} (h : ¬ (t < u ∨ (t = u ∧ v < w))) : leR (u, w) (t, v) := by
  show u < t ∨ (u = t ∧ ¬ v < w)
  rw [i_lt, i_eq, l_lt] at h ⊢
  omega
theorem leR_of2 {t u : Int32} {v w : Int64} (h : t < u ∨ (t = u ∧ v < w)) : leR (t, v) (u, w) := by
  show t < u ∨ (t = u ∧ ¬ w < v)
  rw [i_lt, i_eq, l_lt] at h ⊢
  omega
/-- rows laid in order -/
theorem laP_spec (ah : Nat → Bool) (k : Nat) : laP ah k ≤ k ∧ (∀ i, laP ah k ≤ i → i < k → ah i = true) ∧ (0 < laP ah k → ah (laP ah k - 1) = false) := by
  induction k with
  | zero => exact ⟨Nat.le_refl _, fun i _ h => by omega, fun h => absurd h (Nat.lt_irrefl _)⟩
  | succ k ih =>
    unfold laP
    by_cases c : ah k = true
    · rw [if_pos c]
      refine ⟨by omega, fun i h1 h2 => ?_, ih.2.2⟩
      by_cases e : i = k
      · subst e; exact c
      · exact ih.2.1 i h1 (by omega)
    · rw [if_neg c]
      refine ⟨Nat.le_refl _, fun i h1 h2 => by omega, fun _ => ?_⟩
      show ah k = false
      cases h : ah k
      · rfl
      · exact absurd h c
theorem insT_map {α β : Type} (f : α → β) (L : Nat → α) (p i : Nat) (x : α) : (fun k => f (insT L p i x k)) = insT (fun k => f (L k)) p i (f x) := by
  funext k; unfold insT
  split
  · rfl
  · split
    · rfl
    · split <;> rfl
theorem lay_spec (TT : Nat → Int32) (VV : Nat → Int64) (OO : Nat → Nat) (j m : Nat) : srt (fun k => TT (layO TT VV OO j m k)) (fun k => VV (layO TT VV OO j m k)) m ∧ (rws (fun k => TT (layO TT VV OO j m k)) (fun k => VV (layO TT VV OO j m k)) m).Perm (rws (vw TT j) (vw VV j) m) := by
  induction m with
  | zero => exact ⟨fun i k _ h => by omega, List.Perm.refl _⟩
  | succ m ih =>
    obtain ⟨l1, l2, l3⟩ := laP_spec (fun k => ahd TT VV (64 * j + m) (layO TT VV OO j m k)) m
    show srt (fun k => TT (insT (layO TT VV OO j m) _ m (64 * j + m) k)) (fun k => VV (insT (layO TT VV OO j m) _ m (64 * j + m) k)) (m + 1) ∧ (rws (fun k => TT (insT (layO TT VV OO j m) _ m (64 * j + m) k)) (fun k => VV (insT (layO TT VV OO j m) _ m (64 * j + m) k)) (m + 1)).Perm _
    rw [insT_map TT, insT_map VV]
    refine ⟨srt_ins ih.1 l1 (fun i hi => ?_) (fun i h1 h2 => ?_), (rws_ins _ _ l1).trans (ih.2.cons _)⟩
    · have h0 := l3 (by omega)
      have h1 : leR (TT (layO TT VV OO j m (laP (fun k => ahd TT VV (64 * j + m) (layO TT VV OO j m k)) m - 1)), VV (layO TT VV OO j m (laP (fun k => ahd TT VV (64 * j + m) (layO TT VV OO j m k)) m - 1))) (TT (64 * j + m), VV (64 * j + m)) := by
        exact leR_of (of_decide_eq_false h0)
      by_cases e : i = laP (fun k => ahd TT VV (64 * j + m) (layO TT VV OO j m k)) m - 1
      · rw [e]; exact h1
      · exact leR_trans (ih.1 i _ (by omega) (by omega)) h1
    · exact leR_of2 (of_decide_eq_true (l2 i h1 h2))
theorem ord_eq {T : Nat → Int32} {V : Nat → Int64} {TT : Nat → Int32} {VV : Nat → Int64} {j m : Nat} (OO : Nat → Nat) (hs : srt T V m) (hp : (rws T V m).Perm (rws (vw TT j) (vw VV j) m)) : ∀ i, i < m → ordV TT VV OO j m i = V i := by
  obtain ⟨a, b⟩ := lay_spec TT VV OO j m
  exact fun i hi => (srt_uniq hs a (b.trans hp.symm) i hi).2
theorem stF_cg {S : Nat → Nat} {b : Nat} {V V' : Nat → Int64} {m : Nat} (h : ∀ i, i < m → V' i = V i) : stF S b V' m = stF S b V m := by
  induction m with
  | zero => rfl
  | succ m ih => show S (stF S b V' m * 4 + vN (V' m)) = S (stF S b V m * 4 + vN (V m)); rw [ih (fun i hi => h i (by omega)), h m (by omega)]
theorem sgl_cg {S : Nat → Nat} {b : Nat} {V V' : Nat → Int64} {p : Nat} (h : V' p = V p) : sgl S b V' p = sgl S b V p := by unfold sgl; rw [h]
theorem jlF_cg {S J : Nat → Nat} {b : Nat} {V V' : Nat → Int64} {k : Nat} (h : ∀ i, i ≤ k → V' i = V i) : jlF S J b V' k = jlF S J b V k := by
  induction k with
  | zero => exact sgl_cg (h 0 (Nat.le_refl _))
  | succ k ih => show J (jlF S J b V' k * 8 + sgl S b V' (k + 1)) = J (jlF S J b V k * 8 + sgl S b V (k + 1)); rw [ih (fun i hi => h i (by omega)), sgl_cg (h (k + 1) (Nat.le_refl _))]
theorem jrF_cg {S J : Nat → Nat} {b : Nat} {V V' : Nat → Int64} {n k : Nat} (hn : 0 < n) (h : ∀ i, i < n → V' i = V i) : jrF S J b V' n k = jrF S J b V n k := by
  induction k with
  | zero => exact sgl_cg (h (n - 1) (by omega))
  | succ k ih => show J (sgl S b V' (n - 1 - (k + 1)) * 8 + jrF S J b V' n k) = J (sgl S b V (n - 1 - (k + 1)) * 8 + jrF S J b V n k); rw [ih, sgl_cg (h (n - 1 - (k + 1)) (by omega))]
theorem jhF_cg {S J : Nat → Nat} {b : Nat} {V V' : Nat → Int64} (f : Nat) {p n : Nat} (hn : 0 < n) (h : ∀ i, p ≤ i → i < p + n → V' i = V i) : jhF S J b V' f p n = jhF S J b V f p n := by
  induction f generalizing p n with
  | zero => exact sgl_cg (h p (Nat.le_refl _) (by omega))
  | succ f ih =>
    unfold jhF
    split
    · exact sgl_cg (h p (Nat.le_refl _) (by omega))
    · rename_i c
      rw [ih (by omega) (fun i h1 h2 => h i h1 (by omega)), ih (by omega) (fun i h1 h2 => h i (by omega) (by omega))]
theorem joinF_cg {S J : Nat → Nat} {b : Nat} {V V' : Nat → Int64} {n : Nat} (w : Int32) (h : ∀ i, i < n → V' i = V i) : joinF S J b V' n w = joinF S J b V n w := by
  unfold joinF
  by_cases c : n = 0
  · rw [if_pos c, if_pos c]
  · rw [if_neg c, if_neg c, jhF_cg 8 (by omega) (fun i _ hi => h i (by omega)), jlF_cg (fun i hi => h i (by omega)), jrF_cg (by omega) h]
