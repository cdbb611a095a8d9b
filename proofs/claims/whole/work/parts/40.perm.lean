/-! Rows as lists: what hangs on the rows alone -/
def rws {α β : Type} (T : Nat → α) (V : Nat → β) : Nat → List (α × β)
  | 0 => []
  | m + 1 => (T m, V m) :: rws T V m
theorem rws_len {α β : Type} (T : Nat → α) (V : Nat → β) (m : Nat) : (rws T V m).length = m := by
  induction m with
  | zero => rfl
  | succ m ih => show (rws T V m).length + 1 = m + 1; rw [ih]
theorem rws_mem {α β : Type} {T : Nat → α} {V : Nat → β} {m : Nat} {x : α × β} : x ∈ rws T V m ↔ ∃ i, i < m ∧ x = (T i, V i) := by
  induction m with
  | zero => exact ⟨fun h => (List.not_mem_nil h).elim, fun ⟨i, h, _⟩ => absurd h (Nat.not_lt_zero _)⟩
  | succ m ih =>
    show x ∈ (T m, V m) :: rws T V m ↔ _
    rw [List.mem_cons, ih]
    constructor
    · rintro (h | ⟨i, h, e⟩)
      · exact ⟨m, by omega, h⟩
      · exact ⟨i, by omega, e⟩
    · rintro ⟨i, h, e⟩
      by_cases c : i = m
      · subst c; exact Or.inl e
      · exact Or.inr ⟨i, by omega, e⟩
theorem rws_cg {α β : Type} {T T' : Nat → α} {V V' : Nat → β} {m : Nat} (h : ∀ i, i < m → T' i = T i ∧ V' i = V i) : rws T' V' m = rws T V m := by
  induction m with
  | zero => rfl
  | succ m ih =>
    show (T' m, V' m) :: rws T' V' m = (T m, V m) :: rws T V m
    rw [ih (fun i hi => h i (by omega)), (h m (by omega)).1, (h m (by omega)).2]
theorem rws_inj {α β : Type} {T T' : Nat → α} {V V' : Nat → β} {m : Nat} (h : rws T' V' m = rws T V m) : ∀ i, i < m → T' i = T i ∧ V' i = V i := by
  induction m with
  | zero => intro i hi; omega
  | succ m ih =>
    have h : (T' m, V' m) :: rws T' V' m = (T m, V m) :: rws T V m := h
    obtain ⟨h1, h2⟩ := List.cons.inj h
    intro i hi
    by_cases c : i = m
    · subst c; exact ⟨congrArg Prod.fst h1, congrArg Prod.snd h1⟩
    · exact ih h2 i (by omega)
/-- putting in, taking out -/
theorem rws_ins {α β : Type} {T : Nat → α} {V : Nat → β} {p m : Nat} (t : α) (v : β) (hp : p ≤ m) : (rws (insT T p m t) (insT V p m v) (m + 1)).Perm ((t, v) :: rws T V m) := by
  induction m with
  | zero =>
    obtain rfl : p = 0 := by omega
    exact List.Perm.refl _
  | succ m ih =>
    by_cases c : p = m + 1
    · subst c
      show ((insT T (m + 1) (m + 1) t (m + 1), insT V (m + 1) (m + 1) v (m + 1)) :: rws (insT T (m + 1) (m + 1) t) (insT V (m + 1) (m + 1) v) (m + 1)).Perm _
      rw [rws_cg (T := T) (V := V) (fun i hi => ⟨by unfold insT; rw [if_pos hi], by unfold insT; rw [if_pos hi]⟩)]
      rw [show insT T (m + 1) (m + 1) t (m + 1) = t from by unfold insT; rw [if_neg (by omega), if_pos rfl], show insT V (m + 1) (m + 1) v (m + 1) = v from by unfold insT; rw [if_neg (by omega), if_pos rfl]]
    · show ((insT T p (m + 1) t (m + 1), insT V p (m + 1) v (m + 1)) :: rws (insT T p (m + 1) t) (insT V p (m + 1) v) (m + 1)).Perm ((t, v) :: (T m, V m) :: rws T V m)
      rw [show insT T p (m + 1) t (m + 1) = T m from by unfold insT; rw [if_neg (by omega), if_neg (by omega), if_pos (by omega)]; rfl, show insT V p (m + 1) v (m + 1) = V m from by unfold insT; rw [if_neg (by omega), if_neg (by omega), if_pos (by omega)]; rfl]
      rw [rws_cg (T := insT T p m t) (V := insT V p m v) (fun i hi => ⟨by unfold insT; split; rfl; split; rfl; rw [if_pos (by omega), if_pos (by omega)], by unfold insT; split; rfl; split; rfl; rw [if_pos (by omega), if_pos (by omega)]⟩)]
      exact ((ih (by omega)).cons _).trans (List.Perm.swap _ _ _)
/-- rows in order -/
def leR (a b : Int32 × Int64) : Prop := a.1 < b.1 ∨ (a.1 = b.1 ∧ ¬ b.2 < a.2)
theorem i_lt {a b : Int32} : a < b ↔ a.toInt < b.toInt := Int32.lt_iff_toInt_lt
theorem l_lt {a b : Int64} : a < b ↔ a.toInt < b.toInt := Int64.lt_iff_toInt_lt
theorem i_eq {a b : Int32} : a = b ↔ a.toInt = b.toInt := Int32.toInt_inj.symm
theorem l_eq {a b : Int64} : a = b ↔ a.toInt = b.toInt := Int64.toInt_inj.symm
theorem leR_refl (a : Int32 × Int64) : leR a a := Or.inr ⟨rfl, by rw [l_lt]; omega⟩
theorem leR_trans {a b c : Int32 × Int64} (h1 : leR a b) (h2 : leR b c) : leR a c := by
  unfold leR at *
  rw [i_lt, i_eq, l_lt] at *
  omega
theorem leR_anti {a b : Int32 × Int64} (h1 : leR a b) (h2 : leR b a) : a = b := by
  unfold leR at h1 h2
  rw [i_lt, i_eq, l_lt] at h1 h2
  refine Prod.ext (i_eq.mpr ?_) (l_eq.mpr ?_) <;> omega
def srt (T : Nat → Int32) (V : Nat → Int64) (m : Nat) : Prop := ∀ i k, i < k → k < m → leR (T i, V i) (T k, V k)
theorem srt_cg {T T' : Nat → Int32} {V V' : Nat → Int64} {m : Nat} (h : ∀ i, i < m → T' i = T i ∧ V' i = V i) (hs : srt T V m) : srt T' V' m := fun i k h1 h2 => by
  rw [(h i (by omega)).1, (h i (by omega)).2, (h k h2).1, (h k h2).2]; exact hs i k h1 h2
theorem srt_uniq {T T' : Nat → Int32} {V V' : Nat → Int64} {m : Nat} (h1 : srt T V m) (h2 : srt T' V' m) (hp : (rws T' V' m).Perm (rws T V m)) : ∀ i, i < m → T' i = T i ∧ V' i = V i := by
  refine rws_inj ?_
  induction m with
  | zero => rfl
  | succ m ih =>
    have e : (T' m, V' m) = (T m, V m) := by
      have a1 : (T' m, V' m) ∈ rws T V (m + 1) := hp.mem_iff.mp List.mem_cons_self
      have a2 : (T m, V m) ∈ rws T' V' (m + 1) := hp.mem_iff.mpr List.mem_cons_self
      obtain ⟨i, hi, ei⟩ := rws_mem.mp a1
      obtain ⟨k, hk, ek⟩ := rws_mem.mp a2
      have b1 : leR (T' m, V' m) (T m, V m) := by
        rw [ei]
        by_cases c : i = m
        · subst c; exact leR_refl _
        · exact h1 i m (by omega) (by omega)
      have b2 : leR (T m, V m) (T' m, V' m) := by
        rw [ek]
        by_cases c : k = m
        · subst c; exact leR_refl _
        · exact h2 k m (by omega) (by omega)
      exact leR_anti b1 b2
    show (T' m, V' m) :: rws T' V' m = (T m, V m) :: rws T V m
    have hp : ((T' m, V' m) :: rws T' V' m).Perm ((T m, V m) :: rws T V m) := hp
    rw [e] at hp ⊢
    rw [ih (fun i k a b => h1 i k a (by omega)) (fun i k a b => h2 i k a (by omega)) hp.cons_inv]
theorem srt_ins {T : Nat → Int32} {V : Nat → Int64} {p m : Nat} {t : Int32} {v : Int64} (hs : srt T V m) (hp : p ≤ m) (h1 : ∀ i, i < p → leR (T i, V i) (t, v)) (h2 : ∀ i, p ≤ i → i < m → leR (t, v) (T i, V i)) : srt (insT T p m t) (insT V p m v) (m + 1) := by
  intro i k hik hk
  unfold insT
  by_cases a1 : k < p
  · rw [if_pos a1, if_pos a1, if_pos (show i < p by omega), if_pos (show i < p by omega)]
    exact hs i k hik (by omega)
  · by_cases a2 : k = p
    · subst a2
      rw [if_neg a1, if_neg a1, if_pos rfl, if_pos rfl, if_pos (show i < k by omega), if_pos (show i < k by omega)]
      exact h1 i hik
    · rw [if_neg a1, if_neg a1, if_neg a2, if_neg a2, if_pos (show k ≤ m by omega), if_pos (show k ≤ m by omega)]
      by_cases b1 : i < p
      · rw [if_pos b1, if_pos b1]; exact hs i (k - 1) (by omega) (by omega)
      · by_cases b2 : i = p
        · rw [if_neg b1, if_neg b1, if_pos b2, if_pos b2]; exact h2 (k - 1) (by omega) (by omega)
        · rw [if_neg b1, if_neg b1, if_neg b2, if_neg b2, if_pos (show i ≤ m by omega), if_pos (show i ≤ m by omega)]
          exact hs (i - 1) (k - 1) (by omega) (by omega)
/-- where such a row stands, or would -/
theorem plcF_spec (T : Nat → Int32) (V : Nat → Int64) (t : Int32) (w : Int64) (f i : Nat) : (∀ k, i ≤ k → k < plcF T V t w f i → ¬ (t < T k ∨ (T k = t ∧ ¬ V k < w))) ∧ (plcF T V t w f i < i + f → (t < T (plcF T V t w f i) ∨ (T (plcF T V t w f i) = t ∧ ¬ V (plcF T V t w f i) < w))) := by
  induction f generalizing i with
  | zero => exact ⟨fun k h1 h2 => absurd h2 (by show ¬ k < i; omega), fun h => absurd h (by show ¬ i < i + 0; omega)⟩
  | succ f ih =>
    unfold plcF
    split
    · rename_i c
      exact ⟨fun k h1 h2 => by omega, fun _ => c⟩
    · rename_i c
      obtain ⟨g1, g2⟩ := ih (i + 1)
      refine ⟨fun k h1 h2 => ?_, fun h => g2 (by omega)⟩
      by_cases e : k = i
      · subst e; exact c
      · exact g1 k (by omega) h2
theorem plc_lt {T : Nat → Int32} {V : Nat → Int64} {t : Int32} {w : Int64} {n : Nat} : ∀ i, i < plc T V t w n → leR (T i, V i) (t, w) ∧ (T i, V i) ≠ (t, w) := by
  intro i hi
  have h := (plcF_spec T V t w n 0).1 i (Nat.zero_le _) hi
  constructor
  · unfold leR
    rw [i_lt, i_eq, l_lt] at *
    show (T i).toInt < t.toInt ∨ (T i).toInt = t.toInt ∧ ¬ w.toInt < (V i).toInt
    omega
  · intro e
    refine h (Or.inr ⟨congrArg Prod.fst e, ?_⟩)
    have e2 : V i = w := congrArg Prod.snd e
    rw [e2, l_lt]; omega
theorem plc_ge {T : Nat → Int32} {V : Nat → Int64} {t : Int32} {w : Int64} {n : Nat} (hs : srt T V n) : ∀ i, plc T V t w n ≤ i → i < n → leR (t, w) (T i, V i) := by
  intro i h1 h2
  have h := (plcF_spec T V t w n 0).2 (by show plc T V t w n < 0 + n; omega)
  have h0 : leR (t, w) (T (plc T V t w n), V (plc T V t w n)) := by
    unfold leR
    rcases h with q | q
    · exact Or.inl q
    · exact Or.inr ⟨q.1.symm, q.2⟩
  by_cases e : plc T V t w n = i
  · rw [e] at h0; exact h0
  · exact leR_trans h0 (hs _ i (by omega) h2)
theorem srt_plc {T : Nat → Int32} {V : Nat → Int64} {t : Int32} {w : Int64} {n : Nat} (hs : srt T V n) : srt (insT T (plc T V t w n) n t) (insT V (plc T V t w n) n w) (n + 1) := srt_ins hs (plc_le T V t w n) (fun i h => (plc_lt i h).1) (plc_ge hs)
/-- it is there, or it isn't -/
theorem rowIs_iff {T : Nat → Int32} {V : Nat → Int64} {t : Int32} {w : Int64} {n : Nat} (hs : srt T V n) : rowIs T V n (plc T V t w n) t w = true ↔ (t, w) ∈ rws T V n := by
  unfold rowIs
  rw [decide_eq_true_iff, rws_mem]
  constructor
  · rintro ⟨h1, h2, h3⟩
    exact ⟨_, h1, by rw [h2, h3]⟩
  · rintro ⟨i, h1, h2⟩
    have a : plc T V t w n ≤ i := by
      rcases Nat.lt_or_ge i (plc T V t w n) with q | q
      · exact absurd h2.symm (plc_lt i q).2
      · exact q
    have b := plc_ge hs (plc T V t w n) (Nat.le_refl _) (by omega)
    have c : leR (T (plc T V t w n), V (plc T V t w n)) (t, w) := by
      rw [h2]
      by_cases e : plc T V t w n = i
      · rw [e]; exact leR_refl _
      · exact hs _ i (by omega) h1
    have d := leR_anti b c
    exact ⟨by omega, (congrArg Prod.fst d).symm, (congrArg Prod.snd d).symm⟩
