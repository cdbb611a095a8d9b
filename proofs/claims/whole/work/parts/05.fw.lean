/-! Our frame: what every contract takes as given of the machine (zK), worlds (zW), rows over natural numbers, calls that read, calls that write. -/
abbrev zE : Type := va_G × ClassId × ClassId × ClassId × ClassId
/-- classes, array classes, and the one link between nest mates that methods behind the constructors use -/
def zT (E : zE) : List (ClassId × FieldType) := [(E.2.1, .int), (E.2.2.1, .long), (E.2.2.2.1, .boolean), (E.2.2.2.2, .object "ExactFolds$Fold")]
def zK (E : zE) (U : State) : Prop := va_K E.1 vwCl [(E.2.1, .int), (E.2.2.1, .long), (E.2.2.2.1, .boolean), (E.2.2.2.2, .object "ExactFolds$Fold")] U ∧ va_Nw (.methodLinkNest RX2 88 yX3_isState RX3) U
def zW (E : zE) (ws : va_W) (U : State) : Prop := va_P E.1 vwCl ws U.heap ∧ zK E U
theorem zK.warm {E : zE} {s U : State} (h : zK E s) (hW : s.WarmedH U.vm) : zK E U := ⟨va_K.moved hW.alike h.1, h.2.warmM hW⟩
theorem zK.call {E : zE} {U : State} (g : JFrame) (mk : MethodId) (a : Array Value) (h : zK E U) : zK E (U.calling g mk a) := ⟨va_K.moved (u := U) (U := U.calling g mk a) (Vm.Alike.refl U.vm) h.1, h.2.same rfl (u := U) rfl⟩
theorem zK.eqvm {E : zE} {s U : State} (h : zK E s) (hv : s.vm = U.vm) : zK E U := ⟨va_K.moved (by rw [hv]; exact Vm.Alike.refl _) h.1, h.2.same rfl hv⟩
theorem zW.blind (E : zE) (ws : va_W) (av : List Value) : FrameBlind (va_Pc av (zW E ws)) := fun a U g mk q => ⟨q.1, q.2.1, zK.call g mk a q.2.2⟩
/-- the start of a method that writes: the size is named, its cells are apart -/
def zS (E : zE) (wc : va_W) (sz : Nat) (U : State) : Prop := U.heap.size = sz ∧ zW E wc U ∧ va_D (fun _ => True) wc
theorem zS.blind (E : zE) (wc : va_W) (sz : Nat) (av : List Value) : FrameBlind (va_Pc av (zS E wc sz)) := fun a U g mk q => ⟨q.1, q.2.1, ⟨q.2.2.1.1, zK.call g mk a q.2.2.1.2⟩, q.2.2.2⟩
theorem zW.of {E : zE} {ws : va_W} {s U : State} {H : Heap} (hP : va_P E.1 vwCl ws H) (hK : zK E s) (hU : U.heap = H) (hW : s.WarmedH U.vm) : zW E ws U := ⟨by rw [hU]; exact hP, hK.warm hW⟩
theorem z_preR {E : zE} {wc : va_W} {s : State} {H : Heap} {av : List Value} (hP : va_P E.1 vwCl wc H) (hK : zK E s) : PreS s H (va_Pc av (zW E wc)) av := ⟨zW.blind E wc av, fun U hU hW => ⟨rfl, zW.of hP hK hU hW⟩⟩
theorem z_preV {E : zE} {wc : va_W} {s : State} {H : Heap} {As : List Value} {b ci : Nat} {fs : List Value} {q : vw_C} (hP : va_P E.1 vwCl wc H) (hK : zK E s) (q0 : Nat) (he : wc[q0]? = some (b, .inr (ci, fs))) (hc : vwCl[ci]? = some q) : PreV s H q.1 b (va_Pc (.ref b :: As) (zW E wc)) As :=
  ⟨zW.blind E wc _, va_recv hK.1 hP hc he, fun U hU hW => ⟨rfl, zW.of hP hK hU hW⟩⟩
theorem z_preWR {E : zE} {wc : va_W} {s : State} {H : Heap} {A : Nat → Prop} {av : List Value} (hP : va_P E.1 vwCl wc H) (hD : va_D A wc) (hK : zK E s) : PreS s H (va_Pc av (zS E wc H.size)) av := ⟨zS.blind E wc _ av, fun U hU hW => ⟨rfl, by rw [hU], zW.of hP hK hU hW, hD.weaken (fun _ _ _ _ => trivial)⟩⟩
theorem z_preWV {E : zE} {wc : va_W} {s : State} {H : Heap} {A : Nat → Prop} {As : List Value} {b ci : Nat} {fs : List Value} {q : vw_C} (hP : va_P E.1 vwCl wc H) (hD : va_D A wc) (hK : zK E s) (q0 : Nat) (he : wc[q0]? = some (b, .inr (ci, fs))) (hc : vwCl[ci]? = some q) : PreV s H q.1 b (va_Pc (.ref b :: As) (zS E wc H.size)) As :=
  ⟨zS.blind E wc _ _, va_recv hK.1 hP hc he, fun U hU hW => ⟨rfl, by rw [hU], zW.of hP hK hU hW, hD.weaken (fun _ _ _ _ => trivial)⟩⟩
/-- cells that are apart are so whatever they hold -/
theorem z_Da {A : Nat → Prop} {ws ws' : va_W} (h : va_D A ws) (e : ws'.map Prod.fst = ws.map Prod.fst) : va_D A ws' := by
  have key : ∀ (k : Nat) (q : Nat × va_E), ws'[k]? = some q → ∃ q', ws[k]? = some q' ∧ q'.1 = q.1 := by
    intro k q hq
    have h1 : (ws'.map Prod.fst)[k]? = some q.1 := by rw [List.getElem?_map, hq]; rfl
    rw [e, List.getElem?_map] at h1
    cases hw : ws[k]? with
    | none => rw [hw] at h1; cases h1
    | some q' => rw [hw] at h1; exact ⟨q', rfl, Option.some.inj h1⟩
  refine ⟨fun i j p q hi hj hpq => ?_, fun k q hk => ?_⟩
  · obtain ⟨p', a1, a2⟩ := key i p hi
    obtain ⟨q', b1, b2⟩ := key j q hj
    exact h.1 i j p' q' a1 b1 (by rw [a2, b2, hpq])
  · obtain ⟨q', b1, b2⟩ := key k q hk
    rw [← b2]; exact h.2 k q' b1
def bI (b : Bool) : Int32 := if b then 1 else 0
theorem bI_t : bI true = 1 := rfl
theorem bI_f : bI false = 0 := rfl
theorem bI_z {b : Bool} (h : bI b = 0) : b = false := by cases b <;> first | rfl | (exact absurd h (by decide))
theorem bI_nz {b : Bool} (h : ¬ bI b = 0) : b = true := by cases b <;> first | rfl | (exact absurd rfl h)
theorem lgc_lt {x y : Int64} : lg_cmp x y < 0 ↔ x < y := by
  unfold lg_cmp
  simp only [GT.gt]
  by_cases h : y < x
  · rw [if_pos h]; constructor
    · intro q; exact absurd q (by decide)
    · intro q; exact absurd (Int64.lt_trans q h) (Int64.lt_irrefl)
  · rw [if_neg h]
    by_cases e : x = y
    · rw [if_pos e]; constructor
      · intro q; exact absurd q (by decide)
      · intro q; subst e; exact absurd q (Int64.lt_irrefl)
    · rw [if_neg e]; constructor
      · intro _
        rw [Int64.lt_iff_toInt_lt] at h ⊢
        have : x.toInt ≠ y.toInt := fun q => e (Int64.toInt_inj.mp q)
        omega
      · intro _; decide
theorem lgc_gt {x y : Int64} : 0 < lg_cmp x y ↔ y < x := by
  unfold lg_cmp
  simp only [GT.gt]
  by_cases h : y < x
  · rw [if_pos h]; exact ⟨fun _ => h, fun _ => by decide⟩
  · rw [if_neg h]
    by_cases e : x = y
    · rw [if_pos e]; exact ⟨fun q => absurd q (by decide), fun q => absurd q h⟩
    · rw [if_neg e]; exact ⟨fun q => absurd q (by decide), fun q => absurd q h⟩
theorem lgc_eq {x y : Int64} : lg_cmp x y = 0 ↔ x = y := by
  unfold lg_cmp
  simp only [GT.gt]
  by_cases h : y < x
  · rw [if_pos h]; exact ⟨fun q => absurd q (by decide), fun q => by subst q; exact absurd h (Int64.lt_irrefl)⟩
  · rw [if_neg h]
    by_cases e : x = y
    · rw [if_pos e]; exact ⟨fun _ => e, fun _ => rfl⟩
    · rw [if_neg e]; exact ⟨fun q => absurd q (by decide), fun q => absurd q e⟩
theorem i_le0 {x : Int32} : x ≤ 0 ↔ ¬ 0 < x := by
  rw [Int32.le_iff_toInt_le, Int32.lt_iff_toInt_lt]; omega
theorem i_ge0 {x : Int32} : 0 ≤ x ↔ ¬ x < 0 := by
  rw [Int32.le_iff_toInt_le, Int32.lt_iff_toInt_lt]; omega
def jshl (x : Int64) (k : Int32) : Int64 := x <<< (k.toInt64 &&& 63)
def jshr (x : Int64) (k : Int32) : Int64 := x >>> (k.toInt64 &&& 63)
def jushr (x : Int64) (k : Int32) : Int64 := (x.toUInt64 >>> (k.toInt64.toUInt64 &&& Int64.toUInt64 63)).toInt64
theorem z_ofInt (n : Nat) : Int32.ofInt (n : Int) = nI n := by
  first | exact Int32.ofInt_eq_ofNat | (simp [nI]; done) | (apply Int32.toBitVec_inj.mp; simp [nI]; done)
theorem z_inc (a n : Nat) : nI a + Int32.ofInt (n : Int) = nI (a + n) := by rw [z_ofInt, nI_add]
theorem z_dec {a : Nat} (n : Nat) (h : n ≤ a) : nI a + Int32.ofInt (-(n : Int)) = nI (a - n) := by
  rw [Int32.ofInt_neg, z_ofInt, ← Int32.sub_eq_add_neg, pk_sub h]
section ZZ
variable {p : Program} {l : Launch} {e : Env} {R : Room} {s : State} {m : MethodId} {args : Array Value} {below : List Frame} {meth : Method} {c : Code} {H : Heap} {locs : List Loc} {cells slots : Nat} {Q : State → Prop} {cc : ByteArray} {pc : Nat} {ls : Array Slot} {rest st0 : List Value}
theorem zn_icmp_lt (hexec : p.tables.exec = Jvm.exec) (hb : c.code = cc) {a b : Nat} {off : Int} {tgt : Nat} (hdg : decode cc pc = .ok (.if_icmp .lt off, 3)) (ht : (pc : Int) + off = (tgt : Int)) (ha : a < 2 ^ 31) (hb2 : b < 2 ^ 31) (kt : a < b → W p l e R s m args below meth c H locs cells slots Q (F0 m tgt ls rest)) (kf : b ≤ a → W p l e R s m args below meth c H locs cells slots Q (F0 m (pc + 3) ls rest)) : W p l e R s m args below meth c H locs cells slots Q (F0 m pc ls (.int (nI b) :: .int (nI a) :: rest)) := lv_icmp_lt hexec hb hdg ht (fun h => kt ((nI_ltI ha hb2).mp h)) (fun h => kf (Nat.not_lt.mp (fun h2 => h ((nI_ltI ha hb2).mpr h2))))
theorem zn_icmp_ge (hexec : p.tables.exec = Jvm.exec) (hb : c.code = cc) {a b : Nat} {off : Int} {tgt : Nat} (hdg : decode cc pc = .ok (.if_icmp .ge off, 3)) (ht : (pc : Int) + off = (tgt : Int)) (ha : a < 2 ^ 31) (hb2 : b < 2 ^ 31) (kt : b ≤ a → W p l e R s m args below meth c H locs cells slots Q (F0 m tgt ls rest)) (kf : a < b → W p l e R s m args below meth c H locs cells slots Q (F0 m (pc + 3) ls rest)) : W p l e R s m args below meth c H locs cells slots Q (F0 m pc ls (.int (nI b) :: .int (nI a) :: rest)) := lv_icmp_ge hexec hb hdg ht (fun h => kt ((nI_leI hb2 ha).mp h)) (fun h => kf (Nat.not_le.mp (fun h2 => h ((nI_leI hb2 ha).mpr h2))))
theorem zn_icmp_gt (hexec : p.tables.exec = Jvm.exec) (hb : c.code = cc) {a b : Nat} {off : Int} {tgt : Nat} (hdg : decode cc pc = .ok (.if_icmp .gt off, 3)) (ht : (pc : Int) + off = (tgt : Int)) (ha : a < 2 ^ 31) (hb2 : b < 2 ^ 31) (kt : b < a → W p l e R s m args below meth c H locs cells slots Q (F0 m tgt ls rest)) (kf : a ≤ b → W p l e R s m args below meth c H locs cells slots Q (F0 m (pc + 3) ls rest)) : W p l e R s m args below meth c H locs cells slots Q (F0 m pc ls (.int (nI b) :: .int (nI a) :: rest)) := lv_icmp_gt hexec hb hdg ht (fun h => kt ((nI_ltI hb2 ha).mp h)) (fun h => kf (Nat.not_lt.mp (fun h2 => h ((nI_ltI hb2 ha).mpr h2))))
theorem zn_icmp_le (hexec : p.tables.exec = Jvm.exec) (hb : c.code = cc) {a b : Nat} {off : Int} {tgt : Nat} (hdg : decode cc pc = .ok (.if_icmp .le off, 3)) (ht : (pc : Int) + off = (tgt : Int)) (ha : a < 2 ^ 31) (hb2 : b < 2 ^ 31) (kt : a ≤ b → W p l e R s m args below meth c H locs cells slots Q (F0 m tgt ls rest)) (kf : b < a → W p l e R s m args below meth c H locs cells slots Q (F0 m (pc + 3) ls rest)) : W p l e R s m args below meth c H locs cells slots Q (F0 m pc ls (.int (nI b) :: .int (nI a) :: rest)) := lv_icmp_le hexec hb hdg ht (fun h => kt ((nI_leI ha hb2).mp h)) (fun h => kf (Nat.not_le.mp (fun h2 => h ((nI_leI ha hb2).mpr h2))))
theorem zn_icmp_eq (hexec : p.tables.exec = Jvm.exec) (hb : c.code = cc) {a b : Nat} {off : Int} {tgt : Nat} (hdg : decode cc pc = .ok (.if_icmp .eq off, 3)) (ht : (pc : Int) + off = (tgt : Int)) (ha : a < 2 ^ 31) (hb2 : b < 2 ^ 31) (kt : a = b → W p l e R s m args below meth c H locs cells slots Q (F0 m tgt ls rest)) (kf : a ≠ b → W p l e R s m args below meth c H locs cells slots Q (F0 m (pc + 3) ls rest)) : W p l e R s m args below meth c H locs cells slots Q (F0 m pc ls (.int (nI b) :: .int (nI a) :: rest)) := lv_icmp_eq hexec hb hdg ht (fun h => kt ((nI_eq ha hb2).mp h)) (fun h => kf (fun h2 => h ((nI_eq ha hb2).mpr h2)))
theorem zn_icmp_ne (hexec : p.tables.exec = Jvm.exec) (hb : c.code = cc) {a b : Nat} {off : Int} {tgt : Nat} (hdg : decode cc pc = .ok (.if_icmp .ne off, 3)) (ht : (pc : Int) + off = (tgt : Int)) (ha : a < 2 ^ 31) (hb2 : b < 2 ^ 31) (kt : a ≠ b → W p l e R s m args below meth c H locs cells slots Q (F0 m tgt ls rest)) (kf : a = b → W p l e R s m args below meth c H locs cells slots Q (F0 m (pc + 3) ls rest)) : W p l e R s m args below meth c H locs cells slots Q (F0 m pc ls (.int (nI b) :: .int (nI a) :: rest)) := lv_icmp_ne hexec hb hdg ht (fun h => kt (fun h2 => h ((nI_eq ha hb2).mpr h2))) (fun h => kf ((nI_eq ha hb2).mp h))
theorem z_n0 {a : Nat} (ha : a < 2 ^ 31) : nI a = 0 ↔ a = 0 := by rw [← nI_0]; exact nI_eq ha (by decide)
theorem z_p0 {a : Nat} (ha : a < 2 ^ 31) : 0 < nI a ↔ 0 < a := by rw [← nI_0]; exact nI_ltI (by decide) ha
theorem zn_if_eq (hexec : p.tables.exec = Jvm.exec) (hb : c.code = cc) {a : Nat} {off : Int} {tgt : Nat} (hdg : decode cc pc = .ok (.ifCond .eq off, 3)) (ht : (pc : Int) + off = (tgt : Int)) (ha : a < 2 ^ 31) (kt : a = 0 → W p l e R s m args below meth c H locs cells slots Q (F0 m tgt ls rest)) (kf : a ≠ 0 → W p l e R s m args below meth c H locs cells slots Q (F0 m (pc + 3) ls rest)) : W p l e R s m args below meth c H locs cells slots Q (F0 m pc ls (.int (nI a) :: rest)) := lv_if_eq hexec hb hdg ht (fun h => kt ((z_n0 ha).mp h)) (fun h => kf (fun h2 => h ((z_n0 ha).mpr h2)))
theorem zn_if_ne (hexec : p.tables.exec = Jvm.exec) (hb : c.code = cc) {a : Nat} {off : Int} {tgt : Nat} (hdg : decode cc pc = .ok (.ifCond .ne off, 3)) (ht : (pc : Int) + off = (tgt : Int)) (ha : a < 2 ^ 31) (kt : a ≠ 0 → W p l e R s m args below meth c H locs cells slots Q (F0 m tgt ls rest)) (kf : a = 0 → W p l e R s m args below meth c H locs cells slots Q (F0 m (pc + 3) ls rest)) : W p l e R s m args below meth c H locs cells slots Q (F0 m pc ls (.int (nI a) :: rest)) := lv_if_ne hexec hb hdg ht (fun h => kt (fun h2 => h ((z_n0 ha).mpr h2))) (fun h => kf ((z_n0 ha).mp h))
theorem zn_if_gt (hexec : p.tables.exec = Jvm.exec) (hb : c.code = cc) {a : Nat} {off : Int} {tgt : Nat} (hdg : decode cc pc = .ok (.ifCond .gt off, 3)) (ht : (pc : Int) + off = (tgt : Int)) (ha : a < 2 ^ 31) (kt : 0 < a → W p l e R s m args below meth c H locs cells slots Q (F0 m tgt ls rest)) (kf : a = 0 → W p l e R s m args below meth c H locs cells slots Q (F0 m (pc + 3) ls rest)) : W p l e R s m args below meth c H locs cells slots Q (F0 m pc ls (.int (nI a) :: rest)) := lv_if_gt hexec hb hdg ht (fun h => kt ((z_p0 ha).mp h)) (fun h => kf (Nat.eq_zero_of_not_pos (fun h2 => h ((z_p0 ha).mpr h2))))
theorem zn_if_le (hexec : p.tables.exec = Jvm.exec) (hb : c.code = cc) {a : Nat} {off : Int} {tgt : Nat} (hdg : decode cc pc = .ok (.ifCond .le off, 3)) (ht : (pc : Int) + off = (tgt : Int)) (ha : a < 2 ^ 31) (kt : a = 0 → W p l e R s m args below meth c H locs cells slots Q (F0 m tgt ls rest)) (kf : 0 < a → W p l e R s m args below meth c H locs cells slots Q (F0 m (pc + 3) ls rest)) : W p l e R s m args below meth c H locs cells slots Q (F0 m pc ls (.int (nI a) :: rest)) := lv_if_le hexec hb hdg ht (fun h => kt (Nat.eq_zero_of_not_pos (fun h2 => (i_le0.mp h) ((z_p0 ha).mpr h2)))) (fun h => kf (Nat.pos_of_ne_zero (fun h2 => h (i_le0.mpr (fun h3 => by rw [h2] at h3; exact absurd h3 (by decide))))))
theorem zn_if_lt (hexec : p.tables.exec = Jvm.exec) (hb : c.code = cc) {a : Nat} {off : Int} {tgt : Nat} (hdg : decode cc pc = .ok (.ifCond .lt off, 3)) (ht : (pc : Int) + off = (tgt : Int)) (ha : a < 2 ^ 31) (kf : W p l e R s m args below meth c H locs cells slots Q (F0 m (pc + 3) ls rest)) : W p l e R s m args below meth c H locs cells slots Q (F0 m pc ls (.int (nI a) :: rest)) := lv_if_lt hexec hb hdg ht (fun h => absurd h (nI_pos ha)) (fun _ => kf)
theorem zn_if_ge (hexec : p.tables.exec = Jvm.exec) (hb : c.code = cc) {a : Nat} {off : Int} {tgt : Nat} (hdg : decode cc pc = .ok (.ifCond .ge off, 3)) (ht : (pc : Int) + off = (tgt : Int)) (ha : a < 2 ^ 31) (kt : W p l e R s m args below meth c H locs cells slots Q (F0 m tgt ls rest)) : W p l e R s m args below meth c H locs cells slots Q (F0 m pc ls (.int (nI a) :: rest)) := lv_if_ge hexec hb hdg ht (fun _ => kt) (fun h => absurd (nI_pos' ha) h)
theorem zb_if_eq (hexec : p.tables.exec = Jvm.exec) (hb : c.code = cc) {b : Bool} {off : Int} {tgt : Nat} (hdg : decode cc pc = .ok (.ifCond .eq off, 3)) (ht : (pc : Int) + off = (tgt : Int)) (kt : b = false → W p l e R s m args below meth c H locs cells slots Q (F0 m tgt ls rest)) (kf : b = true → W p l e R s m args below meth c H locs cells slots Q (F0 m (pc + 3) ls rest)) : W p l e R s m args below meth c H locs cells slots Q (F0 m pc ls (.int (bI b) :: rest)) := lv_if_eq hexec hb hdg ht (fun h => kt (bI_z h)) (fun h => kf (bI_nz h))
theorem zb_if_ne (hexec : p.tables.exec = Jvm.exec) (hb : c.code = cc) {b : Bool} {off : Int} {tgt : Nat} (hdg : decode cc pc = .ok (.ifCond .ne off, 3)) (ht : (pc : Int) + off = (tgt : Int)) (kt : b = true → W p l e R s m args below meth c H locs cells slots Q (F0 m tgt ls rest)) (kf : b = false → W p l e R s m args below meth c H locs cells slots Q (F0 m (pc + 3) ls rest)) : W p l e R s m args below meth c H locs cells slots Q (F0 m pc ls (.int (bI b) :: rest)) := lv_if_ne hexec hb hdg ht (fun h => kt (bI_nz h)) (fun h => kf (bI_z h))
theorem zl_lt (hexec : p.tables.exec = Jvm.exec) (hb : c.code = cc) {x y : Int64} {off : Int} {tgt : Nat} (hd0 : decode cc pc = .ok (.lcmp, 1)) (hdg : decode cc (pc + 1) = .ok (.ifCond .lt off, 3)) (ht : ((pc + 1 : Nat) : Int) + off = (tgt : Int)) (kt : x < y → W p l e R s m args below meth c H locs cells slots Q (F0 m tgt ls rest)) (kf : ¬ x < y → W p l e R s m args below meth c H locs cells slots Q (F0 m (pc + 1 + 3) ls rest)) : W p l e R s m args below meth c H locs cells slots Q (F0 m pc ls (.long y :: .long x :: rest)) := W.lcmp hexec hb hd0 (lv_if_lt hexec hb hdg ht (fun h => kt (lgc_lt.mp h)) (fun h => kf (fun h2 => h (lgc_lt.mpr h2))))
theorem zl_ge (hexec : p.tables.exec = Jvm.exec) (hb : c.code = cc) {x y : Int64} {off : Int} {tgt : Nat} (hd0 : decode cc pc = .ok (.lcmp, 1)) (hdg : decode cc (pc + 1) = .ok (.ifCond .ge off, 3)) (ht : ((pc + 1 : Nat) : Int) + off = (tgt : Int)) (kt : ¬ x < y → W p l e R s m args below meth c H locs cells slots Q (F0 m tgt ls rest)) (kf : x < y → W p l e R s m args below meth c H locs cells slots Q (F0 m (pc + 1 + 3) ls rest)) : W p l e R s m args below meth c H locs cells slots Q (F0 m pc ls (.long y :: .long x :: rest)) := W.lcmp hexec hb hd0 (lv_if_ge hexec hb hdg ht (fun h => kt (fun h2 => (i_ge0.mp h) (lgc_lt.mpr h2))) (fun h => kf (Decidable.of_not_not (fun h2 => h (i_ge0.mpr (fun h3 => h2 (lgc_lt.mp h3)))))))
theorem zl_gt (hexec : p.tables.exec = Jvm.exec) (hb : c.code = cc) {x y : Int64} {off : Int} {tgt : Nat} (hd0 : decode cc pc = .ok (.lcmp, 1)) (hdg : decode cc (pc + 1) = .ok (.ifCond .gt off, 3)) (ht : ((pc + 1 : Nat) : Int) + off = (tgt : Int)) (kt : y < x → W p l e R s m args below meth c H locs cells slots Q (F0 m tgt ls rest)) (kf : ¬ y < x → W p l e R s m args below meth c H locs cells slots Q (F0 m (pc + 1 + 3) ls rest)) : W p l e R s m args below meth c H locs cells slots Q (F0 m pc ls (.long y :: .long x :: rest)) := W.lcmp hexec hb hd0 (lv_if_gt hexec hb hdg ht (fun h => kt (lgc_gt.mp h)) (fun h => kf (fun h2 => h (lgc_gt.mpr h2))))
theorem zl_le (hexec : p.tables.exec = Jvm.exec) (hb : c.code = cc) {x y : Int64} {off : Int} {tgt : Nat} (hd0 : decode cc pc = .ok (.lcmp, 1)) (hdg : decode cc (pc + 1) = .ok (.ifCond .le off, 3)) (ht : ((pc + 1 : Nat) : Int) + off = (tgt : Int)) (kt : ¬ y < x → W p l e R s m args below meth c H locs cells slots Q (F0 m tgt ls rest)) (kf : y < x → W p l e R s m args below meth c H locs cells slots Q (F0 m (pc + 1 + 3) ls rest)) : W p l e R s m args below meth c H locs cells slots Q (F0 m pc ls (.long y :: .long x :: rest)) := W.lcmp hexec hb hd0 (lv_if_le hexec hb hdg ht (fun h => kt (fun h2 => (i_le0.mp h) (lgc_gt.mpr h2))) (fun h => kf (Decidable.of_not_not (fun h2 => h (i_le0.mpr (fun h3 => h2 (lgc_gt.mp h3)))))))
theorem zl_eq (hexec : p.tables.exec = Jvm.exec) (hb : c.code = cc) {x y : Int64} {off : Int} {tgt : Nat} (hd0 : decode cc pc = .ok (.lcmp, 1)) (hdg : decode cc (pc + 1) = .ok (.ifCond .eq off, 3)) (ht : ((pc + 1 : Nat) : Int) + off = (tgt : Int)) (kt : x = y → W p l e R s m args below meth c H locs cells slots Q (F0 m tgt ls rest)) (kf : ¬ x = y → W p l e R s m args below meth c H locs cells slots Q (F0 m (pc + 1 + 3) ls rest)) : W p l e R s m args below meth c H locs cells slots Q (F0 m pc ls (.long y :: .long x :: rest)) := W.lcmp hexec hb hd0 (lv_if_eq hexec hb hdg ht (fun h => kt (lgc_eq.mp h)) (fun h => kf (fun h2 => h (lgc_eq.mpr h2))))
theorem zl_ne (hexec : p.tables.exec = Jvm.exec) (hb : c.code = cc) {x y : Int64} {off : Int} {tgt : Nat} (hd0 : decode cc pc = .ok (.lcmp, 1)) (hdg : decode cc (pc + 1) = .ok (.ifCond .ne off, 3)) (ht : ((pc + 1 : Nat) : Int) + off = (tgt : Int)) (kt : ¬ x = y → W p l e R s m args below meth c H locs cells slots Q (F0 m tgt ls rest)) (kf : x = y → W p l e R s m args below meth c H locs cells slots Q (F0 m (pc + 1 + 3) ls rest)) : W p l e R s m args below meth c H locs cells slots Q (F0 m pc ls (.long y :: .long x :: rest)) := W.lcmp hexec hb hd0 (lv_if_ne hexec hb hdg ht (fun h => kt (fun h2 => h (lgc_eq.mpr h2))) (fun h => kf (lgc_eq.mp h)))
theorem zn_iadd (hexec : p.tables.exec = Jvm.exec) (hb : c.code = cc) {a b : Nat} (hdg : decode cc pc = .ok (.iadd, 1)) (k : W p l e R s m args below meth c H locs cells slots Q (F0 m (pc + 1) ls (.int (nI (a + b)) :: rest))) : W p l e R s m args below meth c H locs cells slots Q (F0 m pc ls (.int (nI b) :: .int (nI a) :: rest)) := lv_iadd hexec hb hdg (by rw [nI_add]; exact k)
theorem zn_isub (hexec : p.tables.exec = Jvm.exec) (hb : c.code = cc) {a b : Nat} (h : b ≤ a) (hdg : decode cc pc = .ok (.isub, 1)) (k : W p l e R s m args below meth c H locs cells slots Q (F0 m (pc + 1) ls (.int (nI (a - b)) :: rest))) : W p l e R s m args below meth c H locs cells slots Q (F0 m pc ls (.int (nI b) :: .int (nI a) :: rest)) := lv_isub hexec hb hdg (by rw [pk_sub h]; exact k)
theorem zn_imul (hexec : p.tables.exec = Jvm.exec) (hb : c.code = cc) {a b : Nat} (hdg : decode cc pc = .ok (.imul, 1)) (k : W p l e R s m args below meth c H locs cells slots Q (F0 m (pc + 1) ls (.int (nI (a * b)) :: rest))) : W p l e R s m args below meth c H locs cells slots Q (F0 m pc ls (.int (nI b) :: .int (nI a) :: rest)) := lv_imul hexec hb hdg (by rw [pk_mul]; exact k)
theorem zn_idiv (hexec : p.tables.exec = Jvm.exec) (hb : c.code = cc) {a b : Nat} (ha : a < 2 ^ 31) (h0 : 0 < b) (hb2 : b < 2 ^ 31) (hdg : decode cc pc = .ok (.idiv, 1)) (k : W p l e R s m args below meth c H locs cells slots Q (F0 m (pc + 1) ls (.int (nI (a / b)) :: rest))) : W p l e R s m args below meth c H locs cells slots Q (F0 m pc ls (.int (nI b) :: .int (nI a) :: rest)) := lv_idiv hexec hb hdg (nI_ne0 h0 hb2) (by rw [pk_div ha h0 hb2]; exact k)
theorem zn_irem (hexec : p.tables.exec = Jvm.exec) (hb : c.code = cc) {a b : Nat} (ha : a < 2 ^ 31) (h0 : 0 < b) (hb2 : b < 2 ^ 31) (hdg : decode cc pc = .ok (.irem, 1)) (k : W p l e R s m args below meth c H locs cells slots Q (F0 m (pc + 1) ls (.int (nI (a % b)) :: rest))) : W p l e R s m args below meth c H locs cells slots Q (F0 m pc ls (.int (nI b) :: .int (nI a) :: rest)) := lv_irem hexec hb hdg (nI_ne0 h0 hb2) (by rw [pk_rem ha h0 hb2]; exact k)
theorem zn_iald {D : va_G} {cl : List vw_C} {tys : List (ClassId × FieldType)} {ws : va_W} {a : Nat} (hexec : p.tables.exec = Jvm.exec) (hb : c.code = cc) (hK : va_K D cl tys s) (hP : va_P D cl ws H) (q0 t0 : Nat) {cA : ClassId} {n : Nat} {f : Nat → Int32} (ha : ws[q0]? = some (a, .inl (cA, n, .inl f))) (ht : tys[t0]? = some (cA, .int)) {j : Nat} (hj : j < n) (hn : n < 2 ^ 31) (hdg : decode cc pc = .ok (.iaload, 1)) (kk : W p l e R s m args below meth c H locs cells slots Q (F0 m (pc + 1) ls (.int (f j) :: rest))) : W p l e R s m args below meth c H locs cells slots Q (F0 m pc ls (.int (nI j) :: .ref a :: rest)) := va_iald hexec hb hK hP q0 t0 ha ht (vp_in_nI hj hn) hdg (by rw [nI_clamp (Nat.lt_trans hj hn)]; exact kk)
theorem zn_lald {D : va_G} {cl : List vw_C} {tys : List (ClassId × FieldType)} {ws : va_W} {a : Nat} (hexec : p.tables.exec = Jvm.exec) (hb : c.code = cc) (hK : va_K D cl tys s) (hP : va_P D cl ws H) (q0 t0 : Nat) {cA : ClassId} {n : Nat} {f : Nat → Int64} (ha : ws[q0]? = some (a, .inl (cA, n, .inr (.inl f)))) (ht : tys[t0]? = some (cA, .long)) {j : Nat} (hj : j < n) (hn : n < 2 ^ 31) (hdg : decode cc pc = .ok (.laload, 1)) (kk : W p l e R s m args below meth c H locs cells slots Q (F0 m (pc + 1) ls (.long (f j) :: rest))) : W p l e R s m args below meth c H locs cells slots Q (F0 m pc ls (.int (nI j) :: .ref a :: rest)) := va_lald hexec hb hK hP q0 t0 ha ht (vp_in_nI hj hn) hdg (by rw [nI_clamp (Nat.lt_trans hj hn)]; exact kk)
theorem zn_zald {D : va_G} {cl : List vw_C} {tys : List (ClassId × FieldType)} {ws : va_W} {a : Nat} (hexec : p.tables.exec = Jvm.exec) (hb : c.code = cc) (hK : va_K D cl tys s) (hP : va_P D cl ws H) (q0 t0 : Nat) {cA : ClassId} {n : Nat} {f : Nat → Int32} (ha : ws[q0]? = some (a, .inl (cA, n, .inl f))) (ht : tys[t0]? = some (cA, .boolean)) {j : Nat} (hj : j < n) (hn : n < 2 ^ 31) (hdg : decode cc pc = .ok (.baload, 1)) (kk : W p l e R s m args below meth c H locs cells slots Q (F0 m (pc + 1) ls (.int (f j) :: rest))) : W p l e R s m args below meth c H locs cells slots Q (F0 m pc ls (.int (nI j) :: .ref a :: rest)) := va_zald hexec hb hK hP q0 t0 ha ht (vp_in_nI hj hn) hdg (by rw [nI_clamp (Nat.lt_trans hj hn)]; exact kk)
theorem zn_aldq {D : va_G} {cl : List vw_C} {tys : List (ClassId × FieldType)} {ws : va_W} {a : Nat} (hexec : p.tables.exec = Jvm.exec) (hb : c.code = cc) (hK : va_K D cl tys s) (hP : va_P D cl ws H) (q0 t0 : Nat) {cA : ClassId} {C : String} {n : Nat} {f : Nat → Option Nat} (ha : ws[q0]? = some (a, .inl (cA, n, .inr (.inr (.inr (.inr f)))))) (ht : tys[t0]? = some (cA, .object C)) {j : Nat} (hj : j < n) (hn : n < 2 ^ 31) (hdg : decode cc pc = .ok (.aaload, 1)) (kk : W p l e R s m args below meth c H locs cells slots Q (F0 m (pc + 1) ls (va_rf (f j) :: rest))) : W p l e R s m args below meth c H locs cells slots Q (F0 m pc ls (.int (nI j) :: .ref a :: rest)) := va_aldq hexec hb hK hP q0 t0 ha ht (vp_in_nI hj hn) hdg (by rw [nI_clamp (Nat.lt_trans hj hn)]; exact kk)
theorem zn_iast {D : va_G} {cl : List vw_C} {tys : List (ClassId × FieldType)} {ws : va_W} {A : Nat → Prop} {H0 : Heap} {a : Nat} (hexec : p.tables.exec = Jvm.exec) (hb : c.code = cc) (hK : va_K D cl tys s) (hP : va_P D cl ws H) (hD : va_D A ws) (hS : va_S A H0 H locs) (q0 t0 : Nat) {cA : ClassId} {n : Nat} {f : Nat → Int32} (ha : ws[q0]? = some (a, .inl (cA, n, .inl f))) (ht : tys[t0]? = some (cA, .int)) {j : Nat} {x : Int32} (hj : j < n) (hn : n < 2 ^ 31) (hdg : decode cc pc = .ok (.iastore, 1)) (kk : ∀ (H1 : Heap) (locs1 : List Loc), va_P D cl (ws.set q0 (a, .inl (cA, n, .inl (upd f j x)))) H1 → va_D A (ws.set q0 (a, .inl (cA, n, .inl (upd f j x)))) → va_S A H0 H1 locs1 → W p l e R s m args below meth c H1 locs1 cells slots Q (F0 m (pc + 1) ls rest)) : W p l e R s m args below meth c H locs cells slots Q (F0 m pc ls (.int x :: .int (nI j) :: .ref a :: rest)) := va_iast hexec hb hK hP hD hS q0 t0 ha ht (vp_in_nI hj hn) hdg (by rw [nI_clamp (Nat.lt_trans hj hn)]; exact kk)
theorem zn_last {D : va_G} {cl : List vw_C} {tys : List (ClassId × FieldType)} {ws : va_W} {A : Nat → Prop} {H0 : Heap} {a : Nat} (hexec : p.tables.exec = Jvm.exec) (hb : c.code = cc) (hK : va_K D cl tys s) (hP : va_P D cl ws H) (hD : va_D A ws) (hS : va_S A H0 H locs) (q0 t0 : Nat) {cA : ClassId} {n : Nat} {f : Nat → Int64} (ha : ws[q0]? = some (a, .inl (cA, n, .inr (.inl f)))) (ht : tys[t0]? = some (cA, .long)) {j : Nat} {x : Int64} (hj : j < n) (hn : n < 2 ^ 31) (hdg : decode cc pc = .ok (.lastore, 1)) (kk : ∀ (H1 : Heap) (locs1 : List Loc), va_P D cl (ws.set q0 (a, .inl (cA, n, .inr (.inl (vp_updL f j x))))) H1 → va_D A (ws.set q0 (a, .inl (cA, n, .inr (.inl (vp_updL f j x))))) → va_S A H0 H1 locs1 → W p l e R s m args below meth c H1 locs1 cells slots Q (F0 m (pc + 1) ls rest)) : W p l e R s m args below meth c H locs cells slots Q (F0 m pc ls (.long x :: .int (nI j) :: .ref a :: rest)) := va_last hexec hb hK hP hD hS q0 t0 ha ht (vp_in_nI hj hn) hdg (by rw [nI_clamp (Nat.lt_trans hj hn)]; exact kk)
theorem z_narb (x : Bool) : vp_nar .boolean (bI x) = bI x := by cases x <;> decide
theorem zn_zast {D : va_G} {cl : List vw_C} {tys : List (ClassId × FieldType)} {ws : va_W} {A : Nat → Prop} {H0 : Heap} {a : Nat} (hexec : p.tables.exec = Jvm.exec) (hb : c.code = cc) (hK : va_K D cl tys s) (hP : va_P D cl ws H) (hD : va_D A ws) (hS : va_S A H0 H locs) (q0 t0 : Nat) {cA : ClassId} {n : Nat} {f : Nat → Int32} (ha : ws[q0]? = some (a, .inl (cA, n, .inl f))) (ht : tys[t0]? = some (cA, .boolean)) {j : Nat} {x : Bool} (hj : j < n) (hn : n < 2 ^ 31) (hdg : decode cc pc = .ok (.bastore, 1)) (kk : ∀ (H1 : Heap) (locs1 : List Loc), va_P D cl (ws.set q0 (a, .inl (cA, n, .inl (upd f j (bI x))))) H1 → va_D A (ws.set q0 (a, .inl (cA, n, .inl (upd f j (bI x))))) → va_S A H0 H1 locs1 → W p l e R s m args below meth c H1 locs1 cells slots Q (F0 m (pc + 1) ls rest)) : W p l e R s m args below meth c H locs cells slots Q (F0 m pc ls (.int (bI x) :: .int (nI j) :: .ref a :: rest)) := va_zast hexec hb hK hP hD hS q0 t0 ha ht (vp_in_nI hj hn) hdg (by rw [nI_clamp (Nat.lt_trans hj hn), z_narb]; exact kk)
theorem zc_i {v : Int32} {a : Array Value} (hr : CallRun p l e R s m args below meth c H locs cells slots 0 0 (F0 m pc ls st0) rest (vp_Si (fun r => r = v) a) (fun _ => False)) (kk : W p l e R s m args below meth c H locs cells slots Q (F0 m (pc + 3) ls (.int v :: rest))) : W p l e R s m args below meth c H locs cells slots Q (F0 m pc ls st0) := vp_callSi hr (fun r h => by subst h; exact kk)
theorem zc_l {v : Int64} {a : Array Value} (hr : CallRun p l e R s m args below meth c H locs cells slots 0 0 (F0 m pc ls st0) rest (vp_Sl (fun r => r = v) a) (fun _ => False)) (kk : W p l e R s m args below meth c H locs cells slots Q (F0 m (pc + 3) ls (.long v :: rest))) : W p l e R s m args below meth c H locs cells slots Q (F0 m pc ls st0) := vp_callSl hr (fun r h => by subst h; exact kk)
theorem zc_q {v : Option Nat} {a : Array Value} (hr : CallRun p l e R s m args below meth c H locs cells slots 0 0 (F0 m pc ls st0) rest (va_Sq (fun r => r = v) a) (fun _ => False)) (kk : W p l e R s m args below meth c H locs cells slots Q (F0 m (pc + 3) ls (va_rf v :: rest))) : W p l e R s m args below meth c H locs cells slots Q (F0 m pc ls st0) := va_csq hr (fun r h => by subst h; exact kk)
theorem zw_i {E : zE} {wc wc' ws wr : va_W} {A : Nat → Prop} {a : Array Value} {v : Int32} (hr : va_Run p l e R s m args below meth c H locs cells slots 0 0 (F0 m pc ls st0) rest (va_Qi (fun (r : Int32) (_ : Unit) => r = v) (fun _ t => zW E wc' t) (va_A wc H.size) a) (va_A wc H.size)) (hP : va_P E.1 vwCl ws H) (hD : va_D A ws) (hS : va_S A s.heap H locs) (hA : ∀ q : Nat, s.heap.size ≤ q → A q) (isC isR : List Nat) (hC : isC.map (fun i => ws[i]?) = wc.map some) (hR : isR.map (fun i => ws[i]?) = wr.map some) (hnC : va_nd isC = true) (hn : va_nd isR = true) (hdis : ∀ i ∈ isR, i ∉ isC) (he : wc'.map Prod.fst = wc.map Prod.fst) (kk : ∀ (H1 : Heap) (locs1 : List Loc), va_P E.1 vwCl (wr ++ wc') H1 → va_D A (wr ++ wc') → va_S A s.heap H1 locs1 → W p l e R s m args below meth c H1 locs1 cells slots Q (F0 m (pc + 3) ls (.int v :: rest))) : W p l e R s m args below meth c H locs cells slots Q (F0 m pc ls st0) := by
  have hFc := va_free (wc := wc) hD hS hA isC hC
  refine va_calli hr hS (fun q _ h => hFc q h) hFc (fun r u t H1 locs1 ht hvm hw hB hz1 hk1 hS1 => ?_)
  have hP1 : va_P E.1 vwCl wc' H1 := by rw [← ht]; exact hB.1
  have hDc := (hD.sub isC hnC hC).self (sz := H.size)
  obtain ⟨hP2, hD2⟩ := va_join hP hD isC isR hC hR hn hdis hk1 hFc hP1 (z_Da hDc he)
  subst hw
  exact kk H1 locs1 hP2 hD2 hS1
theorem zw_l {E : zE} {wc wc' ws wr : va_W} {A : Nat → Prop} {a : Array Value} {v : Int64} (hr : va_Run p l e R s m args below meth c H locs cells slots 0 0 (F0 m pc ls st0) rest (va_Ql (fun (r : Int64) (_ : Unit) => r = v) (fun _ t => zW E wc' t) (va_A wc H.size) a) (va_A wc H.size)) (hP : va_P E.1 vwCl ws H) (hD : va_D A ws) (hS : va_S A s.heap H locs) (hA : ∀ q : Nat, s.heap.size ≤ q → A q) (isC isR : List Nat) (hC : isC.map (fun i => ws[i]?) = wc.map some) (hR : isR.map (fun i => ws[i]?) = wr.map some) (hnC : va_nd isC = true) (hn : va_nd isR = true) (hdis : ∀ i ∈ isR, i ∉ isC) (he : wc'.map Prod.fst = wc.map Prod.fst) (kk : ∀ (H1 : Heap) (locs1 : List Loc), va_P E.1 vwCl (wr ++ wc') H1 → va_D A (wr ++ wc') → va_S A s.heap H1 locs1 → W p l e R s m args below meth c H1 locs1 cells slots Q (F0 m (pc + 3) ls (.long v :: rest))) : W p l e R s m args below meth c H locs cells slots Q (F0 m pc ls st0) := by
  have hFc := va_free (wc := wc) hD hS hA isC hC
  refine va_calll hr hS (fun q _ h => hFc q h) hFc (fun r u t H1 locs1 ht hvm hw hB hz1 hk1 hS1 => ?_)
  have hP1 : va_P E.1 vwCl wc' H1 := by rw [← ht]; exact hB.1
  have hDc := (hD.sub isC hnC hC).self (sz := H.size)
  obtain ⟨hP2, hD2⟩ := va_join hP hD isC isR hC hR hn hdis hk1 hFc hP1 (z_Da hDc he)
  subst hw
  exact kk H1 locs1 hP2 hD2 hS1
theorem zw_v {E : zE} {wc wc' ws wr : va_W} {A : Nat → Prop} {a : Array Value} (hr : va_Run p l e R s m args below meth c H locs cells slots 0 0 (F0 m pc ls st0) rest (va_Qv (fun (_ : Unit) => True) (fun _ t => zW E wc' t) (va_A wc H.size) a) (va_A wc H.size)) (hP : va_P E.1 vwCl ws H) (hD : va_D A ws) (hS : va_S A s.heap H locs) (hA : ∀ q : Nat, s.heap.size ≤ q → A q) (isC isR : List Nat) (hC : isC.map (fun i => ws[i]?) = wc.map some) (hR : isR.map (fun i => ws[i]?) = wr.map some) (hnC : va_nd isC = true) (hn : va_nd isR = true) (hdis : ∀ i ∈ isR, i ∉ isC) (he : wc'.map Prod.fst = wc.map Prod.fst) (kk : ∀ (H1 : Heap) (locs1 : List Loc), va_P E.1 vwCl (wr ++ wc') H1 → va_D A (wr ++ wc') → va_S A s.heap H1 locs1 → W p l e R s m args below meth c H1 locs1 cells slots Q (F0 m (pc + 3) ls (rest))) : W p l e R s m args below meth c H locs cells slots Q (F0 m pc ls st0) := by
  have hFc := va_free (wc := wc) hD hS hA isC hC
  refine va_callv hr hS (fun q _ h => hFc q h) hFc (fun u t H1 locs1 ht hvm hw hB hz1 hk1 hS1 => ?_)
  have hP1 : va_P E.1 vwCl wc' H1 := by rw [← ht]; exact hB.1
  have hDc := (hD.sub isC hnC hC).self (sz := H.size)
  obtain ⟨hP2, hD2⟩ := va_join hP hD isC isR hC hR hn hdis hk1 hFc hP1 (z_Da hDc he)
  exact kk H1 locs1 hP2 hD2 hS1
theorem z_reti {x y : Int32} (h : x = y) (k : W p l e R s m args below meth c H locs cells slots Q (F0 m pc ls [.int y])) : W p l e R s m args below meth c H locs cells slots Q (F0 m pc ls [.int x]) := h ▸ k
theorem z_retl {x y : Int64} (h : x = y) (k : W p l e R s m args below meth c H locs cells slots Q (F0 m pc ls [.long y])) : W p l e R s m args below meth c H locs cells slots Q (F0 m pc ls [.long x]) := h ▸ k
theorem z_reta {x y : Value} (h : x = y) (k : W p l e R s m args below meth c H locs cells slots Q (F0 m pc ls [y])) : W p l e R s m args below meth c H locs cells slots Q (F0 m pc ls [x]) := h ▸ k
end ZZ
def rmL (d : Nat) : Room := { frames := d, cells := 0, slots := 0, locals := 64 * d }
/-- what a body has at hand -/
def zB (p : Program) (s : State) (m : MethodId) (c : Code) (args : Array Value) (cc : ByteArray) (maxL : Nat) (own : String) (Ts : List Cond) (E : zE) (R rm : Room) : Prop := p.tables.exec = Jvm.exec ∧ c.code = cc ∧ c.maxLocals = maxL ∧ s.vm.findClass own = some m.cls ∧ (∀ w ∈ Ts, w.before args s = true) ∧ zK E s ∧ rm.frames ≤ R.frames ∧ rm.locals ≤ R.locals
theorem z_ofRi {l : Launch} {y : MethodName} {ws ws' : List Cond} {rm : Room} {E : zE} {wc : va_W} {av : List Value} {v : Int32} {cc : ByteArray} {maxL : Nat} {own : String} (hy : plainName y.cls = true) (hw : ws = Cond.code y cc maxL (some .int) :: ws') (hown : y.cls = own) (hlen : (lg_sl av).length ≤ maxL)
    (body : ∀ (p : Program) (e : Env) (s : State) (m : MethodId) (args : Array Value) (below : List Frame) (meth : Method) (c : Code) (R : Room) (Q : State → Prop), zB p s m c args cc maxL own ws E R rm → va_P E.1 vwCl wc s.heap →
      (∀ (pc : Nat) (ls : Array Slot), decode cc pc = .ok (.ireturn, 1) → W p l e R s m args below meth c s.heap [] 0 0 Q (F0 m pc ls [.int (v)])) →
      ∀ ls : Array Slot, lv_has ls maxL (lv_args 0 av) → W p l e R s m args below meth c s.heap [] 0 0 Q (F0 m 0 ls [])) :
    Met l y ws rm (va_Pc av (zW E wc)) (vp_Si (fun r => r = v)) 0 0 (fun _ => False) := by
  refine Met.ofW (cc := cc) (maxL := maxL) (ret := some .int) hy hw ?_
  intro p e s m args below meth c s₁ B hml hv
  obtain ⟨rfl, hP, hK⟩ := hv
  have hl := lv_entry av (n := maxL) hlen
  rw [lg_entry_eq]
  refine body p e s m _ below meth c _ _ ⟨B.exec, B.bytes, hml, ?_, atoms_spec (ws := ws) B.pre, hK, Nat.le_refl _, Nat.le_refl _⟩ hP ?_ _ hl
  · rw [← hown]; exact findClass_of_methodNamed B.named
  · intro pc ls hd
    exact W.iret B.exec B.bytes B.returns (fun t ht hW => ⟨v, rfl, rfl, ht⟩) (fun q h => by cases h) hd (hlocks := B.notSynchronized)
theorem z_ofRz {l : Launch} {y : MethodName} {ws ws' : List Cond} {rm : Room} {E : zE} {wc : va_W} {av : List Value} {v : Bool} {cc : ByteArray} {maxL : Nat} {own : String} (hy : plainName y.cls = true) (hw : ws = Cond.code y cc maxL (some .boolean) :: ws') (hown : y.cls = own) (hlen : (lg_sl av).length ≤ maxL)
    (body : ∀ (p : Program) (e : Env) (s : State) (m : MethodId) (args : Array Value) (below : List Frame) (meth : Method) (c : Code) (R : Room) (Q : State → Prop), zB p s m c args cc maxL own ws E R rm → va_P E.1 vwCl wc s.heap →
      (∀ (pc : Nat) (ls : Array Slot), decode cc pc = .ok (.ireturn, 1) → W p l e R s m args below meth c s.heap [] 0 0 Q (F0 m pc ls [.int (bI v)])) →
      ∀ ls : Array Slot, lv_has ls maxL (lv_args 0 av) → W p l e R s m args below meth c s.heap [] 0 0 Q (F0 m 0 ls [])) :
    Met l y ws rm (va_Pc av (zW E wc)) (vp_Si (fun r => r = bI v)) 0 0 (fun _ => False) := by
  refine Met.ofW (cc := cc) (maxL := maxL) (ret := some .boolean) hy hw ?_
  intro p e s m args below meth c s₁ B hml hv
  obtain ⟨rfl, hP, hK⟩ := hv
  have hl := lv_entry av (n := maxL) hlen
  rw [lg_entry_eq]
  refine body p e s m _ below meth c _ _ ⟨B.exec, B.bytes, hml, ?_, atoms_spec (ws := ws) B.pre, hK, Nat.le_refl _, Nat.le_refl _⟩ hP ?_ _ hl
  · rw [← hown]; exact findClass_of_methodNamed B.named
  · intro pc ls hd
    exact W.zret B.exec B.bytes B.returns (by cases v <;> rfl) (fun t ht hW => ⟨bI v, rfl, rfl, ht⟩) (fun q h => by cases h) hd (hlocks := B.notSynchronized)
theorem z_ofRl {l : Launch} {y : MethodName} {ws ws' : List Cond} {rm : Room} {E : zE} {wc : va_W} {av : List Value} {v : Int64} {cc : ByteArray} {maxL : Nat} {own : String} (hy : plainName y.cls = true) (hw : ws = Cond.code y cc maxL (some .long) :: ws') (hown : y.cls = own) (hlen : (lg_sl av).length ≤ maxL)
    (body : ∀ (p : Program) (e : Env) (s : State) (m : MethodId) (args : Array Value) (below : List Frame) (meth : Method) (c : Code) (R : Room) (Q : State → Prop), zB p s m c args cc maxL own ws E R rm → va_P E.1 vwCl wc s.heap →
      (∀ (pc : Nat) (ls : Array Slot), decode cc pc = .ok (.lreturn, 1) → W p l e R s m args below meth c s.heap [] 0 0 Q (F0 m pc ls [.long (v)])) →
      ∀ ls : Array Slot, lv_has ls maxL (lv_args 0 av) → W p l e R s m args below meth c s.heap [] 0 0 Q (F0 m 0 ls [])) :
    Met l y ws rm (va_Pc av (zW E wc)) (vp_Sl (fun r => r = v)) 0 0 (fun _ => False) := by
  refine Met.ofW (cc := cc) (maxL := maxL) (ret := some .long) hy hw ?_
  intro p e s m args below meth c s₁ B hml hv
  obtain ⟨rfl, hP, hK⟩ := hv
  have hl := lv_entry av (n := maxL) hlen
  rw [lg_entry_eq]
  refine body p e s m _ below meth c _ _ ⟨B.exec, B.bytes, hml, ?_, atoms_spec (ws := ws) B.pre, hK, Nat.le_refl _, Nat.le_refl _⟩ hP ?_ _ hl
  · rw [← hown]; exact findClass_of_methodNamed B.named
  · intro pc ls hd
    exact W.lret B.exec B.bytes B.returns (fun t ht hW => ⟨v, rfl, rfl, ht⟩) (fun q h => by cases h) hd (hlocks := B.notSynchronized)
theorem z_ofRq {l : Launch} {y : MethodName} {ws ws' : List Cond} {rm : Room} {E : zE} {wc : va_W} {av : List Value} {v : Option Nat} {cc : ByteArray} {maxL : Nat} {own cn : String} (hy : plainName y.cls = true) (hw : ws = Cond.code y cc maxL (some (.object cn)) :: ws') (hown : y.cls = own) (hlen : (lg_sl av).length ≤ maxL)
    (body : ∀ (p : Program) (e : Env) (s : State) (m : MethodId) (args : Array Value) (below : List Frame) (meth : Method) (c : Code) (R : Room) (Q : State → Prop), zB p s m c args cc maxL own ws E R rm → va_P E.1 vwCl wc s.heap →
      (∀ (pc : Nat) (ls : Array Slot), decode cc pc = .ok (.areturn, 1) → W p l e R s m args below meth c s.heap [] 0 0 Q (F0 m pc ls [va_rf v])) →
      ∀ ls : Array Slot, lv_has ls maxL (lv_args 0 av) → W p l e R s m args below meth c s.heap [] 0 0 Q (F0 m 0 ls [])) :
    Met l y ws rm (va_Pc av (zW E wc)) (va_Sq (fun r => r = v)) 0 0 (fun _ => False) := by
  refine Met.ofW (cc := cc) (maxL := maxL) (ret := some (.object cn)) hy hw ?_
  intro p e s m args below meth c s₁ B hml hv
  obtain ⟨rfl, hP, hK⟩ := hv
  have hl := lv_entry av (n := maxL) hlen
  rw [lg_entry_eq]
  refine body p e s m _ below meth c _ _ ⟨B.exec, B.bytes, hml, ?_, atoms_spec (ws := ws) B.pre, hK, Nat.le_refl _, Nat.le_refl _⟩ hP ?_ _ hl
  · rw [← hown]; exact findClass_of_methodNamed B.named
  · intro pc ls hd
    exact W.aret B.exec B.bytes B.returns (Or.inl ⟨_, rfl⟩) (va_rf_or v) (fun t ht hW => ⟨v, rfl, rfl, ht⟩) (fun q h => by cases h) hd (hlocks := B.notSynchronized)
theorem z_ofWi {l : Launch} {y : MethodName} {ws ws' : List Cond} {rm : Room} {E : zE} {wc : va_W} {av : List Value} {wc' : va_W} {sz : Nat} {v : Int32} {cc : ByteArray} {maxL : Nat} {own : String} (hy : plainName y.cls = true) (hw : ws = Cond.code y cc maxL (some .int) :: ws') (hown : y.cls = own) (hlen : (lg_sl av).length ≤ maxL)
    (body : ∀ (p : Program) (e : Env) (s : State) (m : MethodId) (args : Array Value) (below : List Frame) (meth : Method) (c : Code) (R : Room) (Q : State → Prop) (A : Nat → Prop), zB p s m c args cc maxL own ws E R rm → va_P E.1 vwCl wc s.heap → va_D A wc → (∀ q : Nat, s.heap.size ≤ q → A q) →
      (∀ (pc : Nat) (ls : Array Slot) (H : Heap) (locs : List Loc), va_P E.1 vwCl wc' H → va_S A s.heap H locs → decode cc pc = .ok (.ireturn, 1) → W p l e R s m args below meth c H locs 0 0 Q (F0 m pc ls [.int (v)])) →
      ∀ ls : Array Slot, lv_has ls maxL (lv_args 0 av) → W p l e R s m args below meth c s.heap [] 0 0 Q (F0 m 0 ls [])) :
    Met l y ws rm (va_Pc av (zS E wc sz)) (va_Qi (fun (r : Int32) (_ : Unit) => r = v) (fun _ t => zW E wc' t) (va_A wc sz)) 0 0 (va_A wc sz) := by
  refine Met.ofW (cc := cc) (maxL := maxL) (ret := some .int) hy hw ?_
  intro p e s m args below meth c s₁ B hml hv
  obtain ⟨rfl, hsz, ⟨hP, hK⟩, hD0⟩ := hv
  have hl := lv_entry av (n := maxL) hlen
  rw [lg_entry_eq]
  subst hsz
  refine body p e s m _ below meth c _ _ (va_A wc s.heap.size) ⟨B.exec, B.bytes, hml, ?_, atoms_spec (ws := ws) B.pre, hK, Nat.le_refl _, Nat.le_refl _⟩ hP (hD0.self (sz := s.heap.size)) (fun q h => Or.inr h) ?_ _ hl
  · rw [← hown]; exact findClass_of_methodNamed B.named
  · intro pc ls H1 locs1 hP1 hS1 hd
    exact W.iret B.exec B.bytes B.returns (fun t ht hW => ⟨⟨v, (), rfl, rfl, by rw [ht]; exact hP1, hK.warm hW⟩, hS1.F ht⟩) hS1.2.2 hd (hlocks := B.notSynchronized)
theorem z_ofWz {l : Launch} {y : MethodName} {ws ws' : List Cond} {rm : Room} {E : zE} {wc : va_W} {av : List Value} {wc' : va_W} {sz : Nat} {v : Bool} {cc : ByteArray} {maxL : Nat} {own : String} (hy : plainName y.cls = true) (hw : ws = Cond.code y cc maxL (some .boolean) :: ws') (hown : y.cls = own) (hlen : (lg_sl av).length ≤ maxL)
    (body : ∀ (p : Program) (e : Env) (s : State) (m : MethodId) (args : Array Value) (below : List Frame) (meth : Method) (c : Code) (R : Room) (Q : State → Prop) (A : Nat → Prop), zB p s m c args cc maxL own ws E R rm → va_P E.1 vwCl wc s.heap → va_D A wc → (∀ q : Nat, s.heap.size ≤ q → A q) →
      (∀ (pc : Nat) (ls : Array Slot) (H : Heap) (locs : List Loc), va_P E.1 vwCl wc' H → va_S A s.heap H locs → decode cc pc = .ok (.ireturn, 1) → W p l e R s m args below meth c H locs 0 0 Q (F0 m pc ls [.int (bI v)])) →
      ∀ ls : Array Slot, lv_has ls maxL (lv_args 0 av) → W p l e R s m args below meth c s.heap [] 0 0 Q (F0 m 0 ls [])) :
    Met l y ws rm (va_Pc av (zS E wc sz)) (va_Qi (fun (r : Int32) (_ : Unit) => r = bI v) (fun _ t => zW E wc' t) (va_A wc sz)) 0 0 (va_A wc sz) := by
  refine Met.ofW (cc := cc) (maxL := maxL) (ret := some .boolean) hy hw ?_
  intro p e s m args below meth c s₁ B hml hv
  obtain ⟨rfl, hsz, ⟨hP, hK⟩, hD0⟩ := hv
  have hl := lv_entry av (n := maxL) hlen
  rw [lg_entry_eq]
  subst hsz
  refine body p e s m _ below meth c _ _ (va_A wc s.heap.size) ⟨B.exec, B.bytes, hml, ?_, atoms_spec (ws := ws) B.pre, hK, Nat.le_refl _, Nat.le_refl _⟩ hP (hD0.self (sz := s.heap.size)) (fun q h => Or.inr h) ?_ _ hl
  · rw [← hown]; exact findClass_of_methodNamed B.named
  · intro pc ls H1 locs1 hP1 hS1 hd
    exact W.zret B.exec B.bytes B.returns (by cases v <;> rfl) (fun t ht hW => ⟨⟨bI v, (), rfl, rfl, by rw [ht]; exact hP1, hK.warm hW⟩, hS1.F ht⟩) hS1.2.2 hd (hlocks := B.notSynchronized)
theorem z_ofWl {l : Launch} {y : MethodName} {ws ws' : List Cond} {rm : Room} {E : zE} {wc : va_W} {av : List Value} {wc' : va_W} {sz : Nat} {v : Int64} {cc : ByteArray} {maxL : Nat} {own : String} (hy : plainName y.cls = true) (hw : ws = Cond.code y cc maxL (some .long) :: ws') (hown : y.cls = own) (hlen : (lg_sl av).length ≤ maxL)
    (body : ∀ (p : Program) (e : Env) (s : State) (m : MethodId) (args : Array Value) (below : List Frame) (meth : Method) (c : Code) (R : Room) (Q : State → Prop) (A : Nat → Prop), zB p s m c args cc maxL own ws E R rm → va_P E.1 vwCl wc s.heap → va_D A wc → (∀ q : Nat, s.heap.size ≤ q → A q) →
      (∀ (pc : Nat) (ls : Array Slot) (H : Heap) (locs : List Loc), va_P E.1 vwCl wc' H → va_S A s.heap H locs → decode cc pc = .ok (.lreturn, 1) → W p l e R s m args below meth c H locs 0 0 Q (F0 m pc ls [.long (v)])) →
      ∀ ls : Array Slot, lv_has ls maxL (lv_args 0 av) → W p l e R s m args below meth c s.heap [] 0 0 Q (F0 m 0 ls [])) :
    Met l y ws rm (va_Pc av (zS E wc sz)) (va_Ql (fun (r : Int64) (_ : Unit) => r = v) (fun _ t => zW E wc' t) (va_A wc sz)) 0 0 (va_A wc sz) := by
  refine Met.ofW (cc := cc) (maxL := maxL) (ret := some .long) hy hw ?_
  intro p e s m args below meth c s₁ B hml hv
  obtain ⟨rfl, hsz, ⟨hP, hK⟩, hD0⟩ := hv
  have hl := lv_entry av (n := maxL) hlen
  rw [lg_entry_eq]
  subst hsz
  refine body p e s m _ below meth c _ _ (va_A wc s.heap.size) ⟨B.exec, B.bytes, hml, ?_, atoms_spec (ws := ws) B.pre, hK, Nat.le_refl _, Nat.le_refl _⟩ hP (hD0.self (sz := s.heap.size)) (fun q h => Or.inr h) ?_ _ hl
  · rw [← hown]; exact findClass_of_methodNamed B.named
  · intro pc ls H1 locs1 hP1 hS1 hd
    exact W.lret B.exec B.bytes B.returns (fun t ht hW => ⟨⟨v, (), rfl, rfl, by rw [ht]; exact hP1, hK.warm hW⟩, hS1.F ht⟩) hS1.2.2 hd (hlocks := B.notSynchronized)
theorem z_ofWv {l : Launch} {y : MethodName} {ws ws' : List Cond} {rm : Room} {E : zE} {wc : va_W} {av : List Value} {wc' : va_W} {sz : Nat} {cc : ByteArray} {maxL : Nat} {own : String} (hy : plainName y.cls = true) (hw : ws = Cond.code y cc maxL (none) :: ws') (hown : y.cls = own) (hlen : (lg_sl av).length ≤ maxL)
    (body : ∀ (p : Program) (e : Env) (s : State) (m : MethodId) (args : Array Value) (below : List Frame) (meth : Method) (c : Code) (R : Room) (Q : State → Prop) (A : Nat → Prop), zB p s m c args cc maxL own ws E R rm → va_P E.1 vwCl wc s.heap → va_D A wc → (∀ q : Nat, s.heap.size ≤ q → A q) →
      (∀ (pc : Nat) (ls : Array Slot) (H : Heap) (locs : List Loc), va_P E.1 vwCl wc' H → va_S A s.heap H locs → decode cc pc = .ok (.return_, 1) → W p l e R s m args below meth c H locs 0 0 Q (F0 m pc ls [])) →
      ∀ ls : Array Slot, lv_has ls maxL (lv_args 0 av) → W p l e R s m args below meth c s.heap [] 0 0 Q (F0 m 0 ls [])) :
    Met l y ws rm (va_Pc av (zS E wc sz)) (va_Qv (fun (_ : Unit) => True) (fun _ t => zW E wc' t) (va_A wc sz)) 0 0 (va_A wc sz) := by
  refine Met.ofW (cc := cc) (maxL := maxL) (ret := none) hy hw ?_
  intro p e s m args below meth c s₁ B hml hv
  obtain ⟨rfl, hsz, ⟨hP, hK⟩, hD0⟩ := hv
  have hl := lv_entry av (n := maxL) hlen
  rw [lg_entry_eq]
  subst hsz
  refine body p e s m _ below meth c _ _ (va_A wc s.heap.size) ⟨B.exec, B.bytes, hml, ?_, atoms_spec (ws := ws) B.pre, hK, Nat.le_refl _, Nat.le_refl _⟩ hP (hD0.self (sz := s.heap.size)) (fun q h => Or.inr h) ?_ _ hl
  · rw [← hown]; exact findClass_of_methodNamed B.named
  · intro pc ls H1 locs1 hP1 hS1 hd
    exact W.vret B.exec B.bytes B.returns (fun t ht hW => ⟨⟨(), rfl, trivial, by rw [ht]; exact hP1, hK.warm hW⟩, hS1.F ht⟩) hS1.2.2 hd (hlocks := B.notSynchronized)
