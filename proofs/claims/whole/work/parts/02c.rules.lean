theorem z_tl {P : Value → Prop} {a : Value} {st : List Value} (S : ∀ v ∈ a :: st, P v) : ∀ v ∈ st, P v := fun v hv => S v (List.mem_cons_of_mem _ hv)
theorem z_hd {P : Value → Prop} {a : Value} {st : List Value} (S : ∀ v ∈ a :: st, P v) : P a := S a List.mem_cons_self
theorem z_pu {P : Value → Prop} {a : Value} {st : List Value} (ha : P a) (S : ∀ v ∈ st, P v) : ∀ v ∈ a :: st, P v := fun v hv => by
  rcases List.mem_cons.mp hv with rfl | h
  · exact ha
  · exact S v h
theorem z_wi {n : Nat} {x : Int32} : z_wv n (.int x) := fun i hi => by cases hi
theorem z_wl {n : Nat} {x : Int64} : z_wv n (.long x) := fun i hi => by cases hi
theorem z_wn {n : Nat} : z_wv n .null := fun i hi => by cases hi
theorem z_wf {n k : Nat} : z_wv n (.retAddr k) := fun i hi => by cases hi
def z_nl (o : Option Value) : Bool := match o with
  | some (.long _) => false
  | some (.double _) => false
  | _ => true
def z_isr (v : Value) : Bool := match v with
  | .ref _ => true
  | .retAddr _ => true
  | .null => true
  | _ => false
/-- the locals as the kit's list -/
def z_as (g : zG) (ad : Nat → Nat) (ls : zL) : List (Nat × Value) := (ls.mapIdx (fun i o => o.map (fun v => (i, z_v g ad v)))).filterMap id
theorem z_as_mem {g : zG} {ad : Nat → Nat} {ls : zL} {q : Nat × Value} : q ∈ z_as g ad ls ↔ ∃ (i : Nat) (v : Value), ls[i]? = some (some v) ∧ q = (i, z_v g ad v) := by
  unfold z_as
  rw [List.mem_filterMap]
  constructor
  · rintro ⟨a, ha, he⟩
    obtain ⟨i, hi⟩ := List.getElem?_of_mem ha
    rw [List.getElem?_mapIdx] at hi
    cases hl : ls[i]? with
    | none => rw [hl] at hi; cases hi
    | some w =>
      rw [hl] at hi
      simp at hi
      cases w with
      | none => simp at hi; subst hi; cases he
      | some v => simp at hi; subst hi; simp at he; exact ⟨i, v, hl, he.symm⟩
  · rintro ⟨i, v, hl, rfl⟩
    exact ⟨some (i, z_v g ad v), List.mem_of_getElem? (i := i) (by rw [List.getElem?_mapIdx, hl]; rfl), rfl⟩
theorem zLs.has {g : zG} {ad : Nat → Nat} {nL n : Nat} {ls : zL} {lsC : Array Slot} (L : zLs g ad nL n ls lsC) : lv_has lsC nL (z_as g ad ls) := by
  refine ⟨L.1.1, L.1.2.1, fun q hq => ?_⟩
  obtain ⟨i, v, hl, rfl⟩ := z_as_mem.mp hq
  exact (L.2.1 i v hl).1
theorem z_v_cat {g : zG} {ad : Nat → Nat} {v : Value} : (z_v g ad v).category = v.category := by cases v <;> rfl
/-- a store of one word at i; the word before it must not be a long -/
theorem zLs.st1 {g : zG} {ad : Nat → Nat} {nL n : Nat} {ls : zL} {ls' : Array Slot} {i : Nat} {v : Value} {lsC : Array Slot} (L : zLs g ad nL n ls lsC) (hp : ∀ o, ls[i - 1]? = some o → 0 < i → z_nl o = true) (hw : z_wv n v)
    (h : lv_has ls' nL ((i, z_v g ad v) :: (z_as g ad ls).filter (fun q => !(q.1 == i) && !(q.1 + 1 == i && q.2.category == 2)))) : zLs g ad nL n (ls.set i (some v)) ls' := by
  refine ⟨⟨h.1, h.2.1, fun q hq => by cases hq⟩, fun j w hj => ?_, by rw [List.length_set]; exact L.2.2⟩
  rw [List.getElem?_set] at hj
  by_cases hij : i = j
  · rw [if_pos hij] at hj
    by_cases hl : i < ls.length
    · rw [if_pos hl] at hj
      simp at hj
      subst hj
      exact ⟨h.2.2 (j, z_v g ad v) (by rw [hij]; exact List.mem_cons_self), hw⟩
    · rw [if_neg hl] at hj; cases hj
  · rw [if_neg hij] at hj
    refine ⟨h.2.2 (j, z_v g ad w) (List.mem_cons_of_mem _ (List.mem_filter.mpr ⟨z_as_mem.mpr ⟨j, w, hj, rfl⟩, ?_⟩)), (L.2.1 j w hj).2⟩
    simp only [Bool.and_eq_true, Bool.not_eq_true', beq_eq_false_iff_ne, ne_eq, Bool.and_eq_false_imp, beq_iff_eq]
    refine ⟨fun q => hij q.symm, fun q => ?_⟩
    have h0 : 0 < i := by omega
    have := hp (some w) (by rw [show i - 1 = j by omega]; exact hj) h0
    rw [z_v_cat]
    cases w <;> simp [z_nl, Value.category] at this ⊢
theorem zLs.st2 {g : zG} {ad : Nat → Nat} {nL n : Nat} {ls : zL} {ls' : Array Slot} {i : Nat} {v : Value} {lsC : Array Slot} (L : zLs g ad nL n ls lsC) (hp : ∀ o, ls[i - 1]? = some o → 0 < i → z_nl o = true) (hw : z_wv n v)
    (h : lv_has ls' nL ((i, z_v g ad v) :: (z_as g ad ls).filter (fun q => !(q.1 == i) && (!(q.1 == i + 1) && !(q.1 + 1 == i && q.2.category == 2))))) : zLs g ad nL n ((ls.set i (some v)).set (i + 1) none) ls' := by
  refine ⟨⟨h.1, h.2.1, fun q hq => by cases hq⟩, fun j w hj => ?_, by rw [List.length_set, List.length_set]; exact L.2.2⟩
  rw [List.getElem?_set] at hj
  by_cases hij2 : i + 1 = j
  · rw [if_pos hij2] at hj
    split at hj <;> simp at hj
  rw [if_neg hij2, List.getElem?_set] at hj
  by_cases hij : i = j
  · rw [if_pos hij] at hj
    by_cases hl : i < ls.length
    · rw [if_pos hl] at hj
      simp at hj
      subst hj
      exact ⟨h.2.2 (j, z_v g ad v) (by rw [hij]; exact List.mem_cons_self), hw⟩
    · rw [if_neg hl] at hj; cases hj
  · rw [if_neg hij] at hj
    refine ⟨h.2.2 (j, z_v g ad w) (List.mem_cons_of_mem _ (List.mem_filter.mpr ⟨z_as_mem.mpr ⟨j, w, hj, rfl⟩, ?_⟩)), (L.2.1 j w hj).2⟩
    simp only [Bool.and_eq_true, Bool.not_eq_true', beq_eq_false_iff_ne, ne_eq, Bool.and_eq_false_imp, beq_iff_eq]
    refine ⟨fun q => hij q.symm, fun q => hij2 q.symm, fun q => ?_⟩
    have h0 : 0 < i := by omega
    have := hp (some w) (by rw [show i - 1 = j by omega]; exact hj) h0
    rw [z_v_cat]
    cases w <;> simp [z_nl, Value.category] at this ⊢
/-- a local is forgotten -/
theorem zLs.kill {g : zG} {ad : Nat → Nat} {nL n i : Nat} {ls : zL} {lsC : Array Slot} (L : zLs g ad nL n ls lsC) : zLs g ad nL n (ls.set i none) lsC := by
  refine ⟨L.1, fun j w hj => ?_, by rw [List.length_set]; exact L.2.2⟩
  rw [List.getElem?_set] at hj
  by_cases hij : i = j
  · rw [if_pos hij] at hj
    split at hj <;> simp at hj
  · rw [if_neg hij] at hj
    exact L.2.1 j w hj
theorem zLs.move {g : zG} {ad ad' : Nat → Nat} {nL n n' : Nat} {ls : zL} {lsC : Array Slot} (L : zLs g ad nL n ls lsC) (hn : n ≤ n') (ha : ∀ i, i < n → ad' i = ad i) : zLs g ad' nL n' ls lsC :=
  ⟨L.1, fun i v hi => ⟨by rw [z_v_agree ha (L.2.1 i v hi).2]; exact (L.2.1 i v hi).1, z_wv_mono hn (L.2.1 i v hi).2⟩, L.2.2⟩
section ZR
variable {g : zG} {d κ σ : Nat} {m : zMe} {pc : Nat} {ls : zL} {st : List Value} {h : zH} {Q : Option Value → zH → Prop}
theorem x_kill (i : Nat) (k : Zw g d κ σ m pc (ls.set i none) st h Q) : Zw g d κ σ m pc ls st h Q := by
  intro p e R s mid args below meth c H locs cells slots mc ms Z A ad lsC O T L S r1 r2 r3 r4 r5 r6 K
  exact (k p e R s mid args below meth c H locs cells slots mc ms Z A ad lsC O T L.kill S r1 r2 r3 r4 r5 r6 K)
theorem Zw.mono {Q' : Option Value → zH → Prop} (k : Zw g d κ σ m pc ls st h Q') (hq : ∀ v h, Q' v h → Q v h) : Zw g d κ σ m pc ls st h Q := by
  intro p e R s mid args below meth c H locs cells slots mc ms Z A ad lsC O T L S r1 r2 r3 r4 r5 r6 K
  exact (k p e R s mid args below meth c H locs cells slots mc ms Z A ad lsC O T L S r1 r2 r3 r4 r5 r6 (fun v h' ad' H' locs' cells' slots' pc' ls' q => K v h' ad' H' locs' cells' slots' pc' ls' (hq _ _ q)))
theorem Zw.room {κ' σ' : Nat} (k : Zw g d κ' σ' m pc ls st h Q) (h1 : κ' ≤ κ) (h2 : σ' ≤ σ) : Zw g d κ σ m pc ls st h Q := by
  intro p e R s mid args below meth c H locs cells slots mc ms Z A ad lsC O T L S r1 r2 r3 r4 r5 r6 K
  exact (k p e R s mid args below meth c H locs cells slots mc ms Z A ad lsC O T L S r1 r2 (by omega) (by omega) r5 r6 K)
theorem Zw.deep {d' : Nat} (k : Zw g d' κ σ m pc ls st h Q) (h1 : d' ≤ d) : Zw g d κ σ m pc ls st h Q := by
  intro p e R s mid args below meth c H locs cells slots mc ms Z A ad lsC O T L S r1 r2 r3 r4 r5 r6 K
  exact k p e R s mid args below meth c H locs cells slots mc ms Z A ad lsC O T L S (by omega) (by omega) r3 r4 r5 r6 K
theorem x_iconst {n : Int} {v : Int32} (hd : decode m.2.1 pc = .ok (.iconst n, 1)) (hv : Int32.ofInt n = v) (k : Zw g d κ σ m (pc + 1) ls (.int v :: st) h Q) : Zw g d κ σ m pc ls st h Q := by
  intro p e R s mid args below meth c H locs cells slots mc ms Z A ad lsC O T L S r1 r2 r3 r4 r5 r6 K
  exact lv_iconst O.1 O.2.1 hd hv (k p e R s mid args below meth c H locs cells slots mc ms Z A ad lsC O T L (z_pu z_wi S) r1 r2 r3 r4 r5 r6 K)
theorem x_bipush {n : Int} {v : Int32} (hd : decode m.2.1 pc = .ok (.bipush n, 2)) (hv : (Int8.ofInt n).toInt32 = v) (k : Zw g d κ σ m (pc + 2) ls (.int v :: st) h Q) : Zw g d κ σ m pc ls st h Q := by
  intro p e R s mid args below meth c H locs cells slots mc ms Z A ad lsC O T L S r1 r2 r3 r4 r5 r6 K
  exact lv_bipush O.1 O.2.1 hd hv (k p e R s mid args below meth c H locs cells slots mc ms Z A ad lsC O T L (z_pu z_wi S) r1 r2 r3 r4 r5 r6 K)
theorem x_sipush {n : Int} {v : Int32} (hd : decode m.2.1 pc = .ok (.sipush n, 3)) (hv : (Int16.ofInt n).toInt32 = v) (k : Zw g d κ σ m (pc + 3) ls (.int v :: st) h Q) : Zw g d κ σ m pc ls st h Q := by
  intro p e R s mid args below meth c H locs cells slots mc ms Z A ad lsC O T L S r1 r2 r3 r4 r5 r6 K
  exact lv_sipush O.1 O.2.1 hd hv (k p e R s mid args below meth c H locs cells slots mc ms Z A ad lsC O T L (z_pu z_wi S) r1 r2 r3 r4 r5 r6 K)
theorem x_lconst {n : Fin 2} {v : Int64} (hd : decode m.2.1 pc = .ok (.lconst n, 1)) (hv : Int64.ofNat (n : Nat) = v) (k : Zw g d κ σ m (pc + 1) ls (.long v :: st) h Q) : Zw g d κ σ m pc ls st h Q := by
  intro p e R s mid args below meth c H locs cells slots mc ms Z A ad lsC O T L S r1 r2 r3 r4 r5 r6 K
  exact lv_lconst O.1 O.2.1 hd hv (k p e R s mid args below meth c H locs cells slots mc ms Z A ad lsC O T L (z_pu z_wl S) r1 r2 r3 r4 r5 r6 K)
theorem x_null (hd : decode m.2.1 pc = .ok (.aconst_null, 1)) (k : Zw g d κ σ m (pc + 1) ls (.null :: st) h Q) : Zw g d κ σ m pc ls st h Q := by
  intro p e R s mid args below meth c H locs cells slots mc ms Z A ad lsC O T L S r1 r2 r3 r4 r5 r6 K
  exact lv_null O.1 O.2.1 hd (k p e R s mid args below meth c H locs cells slots mc ms Z A ad lsC O T L (z_pu z_wn S) r1 r2 r3 r4 r5 r6 K)
theorem x_ldc {n : Nat} {v : Int32} (hw : Cond.constant m.1.cls n v ∈ zTb) (hd : decode m.2.1 pc = .ok (.ldc n, 2)) (k : Zw g d κ σ m (pc + 2) ls (.int v :: st) h Q) : Zw g d κ σ m pc ls st h Q := by
  intro p e R s mid args below meth c H locs cells slots mc ms Z A ad lsC O T L S r1 r2 r3 r4 r5 r6 K
  exact lv_ldc O.1 O.2.1 O.2.2.2.1 (O.2.2.2.2.1 _ hw) hd (k p e R s mid args below meth c H locs cells slots mc ms Z A ad lsC O T L (z_pu z_wi S) r1 r2 r3 r4 r5 r6 K)
theorem x_ldcw {n : Nat} {v : Int32} (hw : Cond.constant m.1.cls n v ∈ zTb) (hd : decode m.2.1 pc = .ok (.ldc_w n, 3)) (k : Zw g d κ σ m (pc + 3) ls (.int v :: st) h Q) : Zw g d κ σ m pc ls st h Q := by
  intro p e R s mid args below meth c H locs cells slots mc ms Z A ad lsC O T L S r1 r2 r3 r4 r5 r6 K
  exact lv_ldcw O.1 O.2.1 O.2.2.2.1 (O.2.2.2.2.1 _ hw) hd (k p e R s mid args below meth c H locs cells slots mc ms Z A ad lsC O T L (z_pu z_wi S) r1 r2 r3 r4 r5 r6 K)
theorem x_ldc2 {n : Nat} {v : Int64} (hw : Cond.constantLong m.1.cls n v ∈ zTb) (hd : decode m.2.1 pc = .ok (.ldc2_w n, 3)) (k : Zw g d κ σ m (pc + 3) ls (.long v :: st) h Q) : Zw g d κ σ m pc ls st h Q := by
  intro p e R s mid args below meth c H locs cells slots mc ms Z A ad lsC O T L S r1 r2 r3 r4 r5 r6 K
  exact lv_ldc2 O.1 O.2.1 O.2.2.2.1 (O.2.2.2.2.1 _ hw) hd (k p e R s mid args below meth c H locs cells slots mc ms Z A ad lsC O T L (z_pu z_wl S) r1 r2 r3 r4 r5 r6 K)
theorem x_iadd {x y v : Int32} (hv : x + y = v) (hd : decode m.2.1 pc = .ok (.iadd, 1)) (k : Zw g d κ σ m (pc + 1) ls (.int v :: st) h Q) : Zw g d κ σ m pc ls (.int y :: .int x :: st) h Q := by
  subst hv
  intro p e R s mid args below meth c H locs cells slots mc ms Z A ad lsC O T L S r1 r2 r3 r4 r5 r6 K
  exact lv_iadd O.1 O.2.1 hd (k p e R s mid args below meth c H locs cells slots mc ms Z A ad lsC O T L (z_pu z_wi (z_tl (z_tl S))) r1 r2 r3 r4 r5 r6 K)
theorem x_isub {x y v : Int32} (hv : x - y = v) (hd : decode m.2.1 pc = .ok (.isub, 1)) (k : Zw g d κ σ m (pc + 1) ls (.int v :: st) h Q) : Zw g d κ σ m pc ls (.int y :: .int x :: st) h Q := by
  subst hv
  intro p e R s mid args below meth c H locs cells slots mc ms Z A ad lsC O T L S r1 r2 r3 r4 r5 r6 K
  exact lv_isub O.1 O.2.1 hd (k p e R s mid args below meth c H locs cells slots mc ms Z A ad lsC O T L (z_pu z_wi (z_tl (z_tl S))) r1 r2 r3 r4 r5 r6 K)
theorem x_imul {x y v : Int32} (hv : x * y = v) (hd : decode m.2.1 pc = .ok (.imul, 1)) (k : Zw g d κ σ m (pc + 1) ls (.int v :: st) h Q) : Zw g d κ σ m pc ls (.int y :: .int x :: st) h Q := by
  subst hv
  intro p e R s mid args below meth c H locs cells slots mc ms Z A ad lsC O T L S r1 r2 r3 r4 r5 r6 K
  exact lv_imul O.1 O.2.1 hd (k p e R s mid args below meth c H locs cells slots mc ms Z A ad lsC O T L (z_pu z_wi (z_tl (z_tl S))) r1 r2 r3 r4 r5 r6 K)
theorem x_iand {x y v : Int32} (hv : x &&& y = v) (hd : decode m.2.1 pc = .ok (.iand, 1)) (k : Zw g d κ σ m (pc + 1) ls (.int v :: st) h Q) : Zw g d κ σ m pc ls (.int y :: .int x :: st) h Q := by
  subst hv
  intro p e R s mid args below meth c H locs cells slots mc ms Z A ad lsC O T L S r1 r2 r3 r4 r5 r6 K
  exact lv_iand O.1 O.2.1 hd (k p e R s mid args below meth c H locs cells slots mc ms Z A ad lsC O T L (z_pu z_wi (z_tl (z_tl S))) r1 r2 r3 r4 r5 r6 K)
theorem x_ior {x y v : Int32} (hv : x ||| y = v) (hd : decode m.2.1 pc = .ok (.ior, 1)) (k : Zw g d κ σ m (pc + 1) ls (.int v :: st) h Q) : Zw g d κ σ m pc ls (.int y :: .int x :: st) h Q := by
  subst hv
  intro p e R s mid args below meth c H locs cells slots mc ms Z A ad lsC O T L S r1 r2 r3 r4 r5 r6 K
  exact lv_ior O.1 O.2.1 hd (k p e R s mid args below meth c H locs cells slots mc ms Z A ad lsC O T L (z_pu z_wi (z_tl (z_tl S))) r1 r2 r3 r4 r5 r6 K)
theorem x_ishl {x y v : Int32} (hv : x <<< (y &&& 31) = v) (hd : decode m.2.1 pc = .ok (.ishl, 1)) (k : Zw g d κ σ m (pc + 1) ls (.int v :: st) h Q) : Zw g d κ σ m pc ls (.int y :: .int x :: st) h Q := by
  subst hv
  intro p e R s mid args below meth c H locs cells slots mc ms Z A ad lsC O T L S r1 r2 r3 r4 r5 r6 K
  exact lv_ishl O.1 O.2.1 hd (k p e R s mid args below meth c H locs cells slots mc ms Z A ad lsC O T L (z_pu z_wi (z_tl (z_tl S))) r1 r2 r3 r4 r5 r6 K)
theorem x_ishr {x y v : Int32} (hv : x >>> (y &&& 31) = v) (hd : decode m.2.1 pc = .ok (.ishr, 1)) (k : Zw g d κ σ m (pc + 1) ls (.int v :: st) h Q) : Zw g d κ σ m pc ls (.int y :: .int x :: st) h Q := by
  subst hv
  intro p e R s mid args below meth c H locs cells slots mc ms Z A ad lsC O T L S r1 r2 r3 r4 r5 r6 K
  exact lv_ishr O.1 O.2.1 hd (k p e R s mid args below meth c H locs cells slots mc ms Z A ad lsC O T L (z_pu z_wi (z_tl (z_tl S))) r1 r2 r3 r4 r5 r6 K)
theorem x_iushr {x y v : Int32} (hv : (x.toUInt32 >>> (y.toUInt32 &&& Int32.toUInt32 31)).toInt32 = v) (hd : decode m.2.1 pc = .ok (.iushr, 1)) (k : Zw g d κ σ m (pc + 1) ls (.int v :: st) h Q) : Zw g d κ σ m pc ls (.int y :: .int x :: st) h Q := by
  intro p e R s mid args below meth c H locs cells slots mc ms Z A ad lsC O T L S r1 r2 r3 r4 r5 r6 K
  exact lv_iushr O.1 O.2.1 hd hv (k p e R s mid args below meth c H locs cells slots mc ms Z A ad lsC O T L (z_pu z_wi (z_tl (z_tl S))) r1 r2 r3 r4 r5 r6 K)
theorem x_idiv {x y v : Int32} (hne : ¬ y = 0) (hv : x / y = v) (hd : decode m.2.1 pc = .ok (.idiv, 1)) (k : Zw g d κ σ m (pc + 1) ls (.int v :: st) h Q) : Zw g d κ σ m pc ls (.int y :: .int x :: st) h Q := by
  subst hv
  intro p e R s mid args below meth c H locs cells slots mc ms Z A ad lsC O T L S r1 r2 r3 r4 r5 r6 K
  exact lv_idiv O.1 O.2.1 hd hne (k p e R s mid args below meth c H locs cells slots mc ms Z A ad lsC O T L (z_pu z_wi (z_tl (z_tl S))) r1 r2 r3 r4 r5 r6 K)
theorem x_irem {x y v : Int32} (hne : ¬ y = 0) (hv : x - x / y * y = v) (hd : decode m.2.1 pc = .ok (.irem, 1)) (k : Zw g d κ σ m (pc + 1) ls (.int v :: st) h Q) : Zw g d κ σ m pc ls (.int y :: .int x :: st) h Q := by
  subst hv
  intro p e R s mid args below meth c H locs cells slots mc ms Z A ad lsC O T L S r1 r2 r3 r4 r5 r6 K
  exact lv_irem O.1 O.2.1 hd hne (k p e R s mid args below meth c H locs cells slots mc ms Z A ad lsC O T L (z_pu z_wi (z_tl (z_tl S))) r1 r2 r3 r4 r5 r6 K)
theorem x_ladd {x y v : Int64} (hv : x + y = v) (hd : decode m.2.1 pc = .ok (.ladd, 1)) (k : Zw g d κ σ m (pc + 1) ls (.long v :: st) h Q) : Zw g d κ σ m pc ls (.long y :: .long x :: st) h Q := by
  subst hv
  intro p e R s mid args below meth c H locs cells slots mc ms Z A ad lsC O T L S r1 r2 r3 r4 r5 r6 K
  exact lv_ladd O.1 O.2.1 hd (k p e R s mid args below meth c H locs cells slots mc ms Z A ad lsC O T L (z_pu z_wl (z_tl (z_tl S))) r1 r2 r3 r4 r5 r6 K)
theorem x_lsub {x y v : Int64} (hv : x - y = v) (hd : decode m.2.1 pc = .ok (.lsub, 1)) (k : Zw g d κ σ m (pc + 1) ls (.long v :: st) h Q) : Zw g d κ σ m pc ls (.long y :: .long x :: st) h Q := by
  subst hv
  intro p e R s mid args below meth c H locs cells slots mc ms Z A ad lsC O T L S r1 r2 r3 r4 r5 r6 K
  exact lv_lsub O.1 O.2.1 hd (k p e R s mid args below meth c H locs cells slots mc ms Z A ad lsC O T L (z_pu z_wl (z_tl (z_tl S))) r1 r2 r3 r4 r5 r6 K)
theorem x_lmul {x y v : Int64} (hv : x * y = v) (hd : decode m.2.1 pc = .ok (.lmul, 1)) (k : Zw g d κ σ m (pc + 1) ls (.long v :: st) h Q) : Zw g d κ σ m pc ls (.long y :: .long x :: st) h Q := by
  subst hv
  intro p e R s mid args below meth c H locs cells slots mc ms Z A ad lsC O T L S r1 r2 r3 r4 r5 r6 K
  exact lv_lmul O.1 O.2.1 hd (k p e R s mid args below meth c H locs cells slots mc ms Z A ad lsC O T L (z_pu z_wl (z_tl (z_tl S))) r1 r2 r3 r4 r5 r6 K)
theorem x_land {x y v : Int64} (hv : x &&& y = v) (hd : decode m.2.1 pc = .ok (.land, 1)) (k : Zw g d κ σ m (pc + 1) ls (.long v :: st) h Q) : Zw g d κ σ m pc ls (.long y :: .long x :: st) h Q := by
  subst hv
  intro p e R s mid args below meth c H locs cells slots mc ms Z A ad lsC O T L S r1 r2 r3 r4 r5 r6 K
  exact lv_land O.1 O.2.1 hd (k p e R s mid args below meth c H locs cells slots mc ms Z A ad lsC O T L (z_pu z_wl (z_tl (z_tl S))) r1 r2 r3 r4 r5 r6 K)
theorem x_lor {x y v : Int64} (hv : x ||| y = v) (hd : decode m.2.1 pc = .ok (.lor, 1)) (k : Zw g d κ σ m (pc + 1) ls (.long v :: st) h Q) : Zw g d κ σ m pc ls (.long y :: .long x :: st) h Q := by
  subst hv
  intro p e R s mid args below meth c H locs cells slots mc ms Z A ad lsC O T L S r1 r2 r3 r4 r5 r6 K
  exact lv_lor O.1 O.2.1 hd (k p e R s mid args below meth c H locs cells slots mc ms Z A ad lsC O T L (z_pu z_wl (z_tl (z_tl S))) r1 r2 r3 r4 r5 r6 K)
theorem x_ldiv {x y v : Int64} (hne : ¬ y = 0) (hv : x / y = v) (hd : decode m.2.1 pc = .ok (.ldiv, 1)) (k : Zw g d κ σ m (pc + 1) ls (.long v :: st) h Q) : Zw g d κ σ m pc ls (.long y :: .long x :: st) h Q := by
  subst hv
  intro p e R s mid args below meth c H locs cells slots mc ms Z A ad lsC O T L S r1 r2 r3 r4 r5 r6 K
  exact lv_ldiv O.1 O.2.1 hd hne (k p e R s mid args below meth c H locs cells slots mc ms Z A ad lsC O T L (z_pu z_wl (z_tl (z_tl S))) r1 r2 r3 r4 r5 r6 K)
theorem x_lrem {x y v : Int64} (hne : ¬ y = 0) (hv : x - x / y * y = v) (hd : decode m.2.1 pc = .ok (.lrem, 1)) (k : Zw g d κ σ m (pc + 1) ls (.long v :: st) h Q) : Zw g d κ σ m pc ls (.long y :: .long x :: st) h Q := by
  subst hv
  intro p e R s mid args below meth c H locs cells slots mc ms Z A ad lsC O T L S r1 r2 r3 r4 r5 r6 K
  exact lv_lrem O.1 O.2.1 hd hne (k p e R s mid args below meth c H locs cells slots mc ms Z A ad lsC O T L (z_pu z_wl (z_tl (z_tl S))) r1 r2 r3 r4 r5 r6 K)
theorem x_lshl {x v : Int64} {y : Int32} (hv : x <<< (y.toInt64 &&& 63) = v) (hd : decode m.2.1 pc = .ok (.lshl, 1)) (k : Zw g d κ σ m (pc + 1) ls (.long v :: st) h Q) : Zw g d κ σ m pc ls (.int y :: .long x :: st) h Q := by
  intro p e R s mid args below meth c H locs cells slots mc ms Z A ad lsC O T L S r1 r2 r3 r4 r5 r6 K
  exact lv_lshl O.1 O.2.1 hd hv (k p e R s mid args below meth c H locs cells slots mc ms Z A ad lsC O T L (z_pu z_wl (z_tl (z_tl S))) r1 r2 r3 r4 r5 r6 K)
theorem x_lshr {x v : Int64} {y : Int32} (hv : x >>> (y.toInt64 &&& 63) = v) (hd : decode m.2.1 pc = .ok (.lshr, 1)) (k : Zw g d κ σ m (pc + 1) ls (.long v :: st) h Q) : Zw g d κ σ m pc ls (.int y :: .long x :: st) h Q := by
  intro p e R s mid args below meth c H locs cells slots mc ms Z A ad lsC O T L S r1 r2 r3 r4 r5 r6 K
  exact lv_lshr O.1 O.2.1 hd hv (k p e R s mid args below meth c H locs cells slots mc ms Z A ad lsC O T L (z_pu z_wl (z_tl (z_tl S))) r1 r2 r3 r4 r5 r6 K)
theorem x_lcmp {x y : Int64} {v : Int32} (hv : lg_cmp x y = v) (hd : decode m.2.1 pc = .ok (.lcmp, 1)) (k : Zw g d κ σ m (pc + 1) ls (.int v :: st) h Q) : Zw g d κ σ m pc ls (.long y :: .long x :: st) h Q := by
  subst hv
  intro p e R s mid args below meth c H locs cells slots mc ms Z A ad lsC O T L S r1 r2 r3 r4 r5 r6 K
  exact W.lcmp O.1 O.2.1 hd (k p e R s mid args below meth c H locs cells slots mc ms Z A ad lsC O T L (z_pu z_wi (z_tl (z_tl S))) r1 r2 r3 r4 r5 r6 K)
theorem x_ineg {x v : Int32} (hv : -x = v) (hd : decode m.2.1 pc = .ok (.ineg, 1)) (k : Zw g d κ σ m (pc + 1) ls (.int v :: st) h Q) : Zw g d κ σ m pc ls (.int x :: st) h Q := by
  subst hv
  intro p e R s mid args below meth c H locs cells slots mc ms Z A ad lsC O T L S r1 r2 r3 r4 r5 r6 K
  exact lv_ineg O.1 O.2.1 hd (k p e R s mid args below meth c H locs cells slots mc ms Z A ad lsC O T L (z_pu z_wi (z_tl S)) r1 r2 r3 r4 r5 r6 K)
theorem x_i2l {x : Int32} {v : Int64} (hv : x.toInt64 = v) (hd : decode m.2.1 pc = .ok (.i2l, 1)) (k : Zw g d κ σ m (pc + 1) ls (.long v :: st) h Q) : Zw g d κ σ m pc ls (.int x :: st) h Q := by
  intro p e R s mid args below meth c H locs cells slots mc ms Z A ad lsC O T L S r1 r2 r3 r4 r5 r6 K
  exact lv_i2l O.1 O.2.1 hd hv (k p e R s mid args below meth c H locs cells slots mc ms Z A ad lsC O T L (z_pu z_wl (z_tl S)) r1 r2 r3 r4 r5 r6 K)
theorem x_l2i {x : Int64} {v : Int32} (hv : x.toInt32 = v) (hd : decode m.2.1 pc = .ok (.l2i, 1)) (k : Zw g d κ σ m (pc + 1) ls (.int v :: st) h Q) : Zw g d κ σ m pc ls (.long x :: st) h Q := by
  intro p e R s mid args below meth c H locs cells slots mc ms Z A ad lsC O T L S r1 r2 r3 r4 r5 r6 K
  exact lv_l2i O.1 O.2.1 hd hv (k p e R s mid args below meth c H locs cells slots mc ms Z A ad lsC O T L (z_pu z_wi (z_tl S)) r1 r2 r3 r4 r5 r6 K)
theorem x_i2b {x : Int32} {v : Int32} (hv : x.toInt8.toInt32 = v) (hd : decode m.2.1 pc = .ok (.i2b, 1)) (k : Zw g d κ σ m (pc + 1) ls (.int v :: st) h Q) : Zw g d κ σ m pc ls (.int x :: st) h Q := by
  intro p e R s mid args below meth c H locs cells slots mc ms Z A ad lsC O T L S r1 r2 r3 r4 r5 r6 K
  exact lv_i2b O.1 O.2.1 hd hv (k p e R s mid args below meth c H locs cells slots mc ms Z A ad lsC O T L (z_pu z_wi (z_tl S)) r1 r2 r3 r4 r5 r6 K)
theorem x_i2s {x : Int32} {v : Int32} (hv : x.toInt16.toInt32 = v) (hd : decode m.2.1 pc = .ok (.i2s, 1)) (k : Zw g d κ σ m (pc + 1) ls (.int v :: st) h Q) : Zw g d κ σ m pc ls (.int x :: st) h Q := by
  intro p e R s mid args below meth c H locs cells slots mc ms Z A ad lsC O T L S r1 r2 r3 r4 r5 r6 K
  exact lv_i2s O.1 O.2.1 hd hv (k p e R s mid args below meth c H locs cells slots mc ms Z A ad lsC O T L (z_pu z_wi (z_tl S)) r1 r2 r3 r4 r5 r6 K)
theorem x_i2c {x : Int32} {v : Int32} (hv : (x.toUInt32 % 65536).toInt32 = v) (hd : decode m.2.1 pc = .ok (.i2c, 1)) (k : Zw g d κ σ m (pc + 1) ls (.int v :: st) h Q) : Zw g d κ σ m pc ls (.int x :: st) h Q := by
  intro p e R s mid args below meth c H locs cells slots mc ms Z A ad lsC O T L S r1 r2 r3 r4 r5 r6 K
  exact lv_i2c O.1 O.2.1 hd hv (k p e R s mid args below meth c H locs cells slots mc ms Z A ad lsC O T L (z_pu z_wi (z_tl S)) r1 r2 r3 r4 r5 r6 K)
theorem x_dup {v : Value} (hc : v.category = 1) (hd : decode m.2.1 pc = .ok (.dup, 1)) (k : Zw g d κ σ m (pc + 1) ls (v :: v :: st) h Q) : Zw g d κ σ m pc ls (v :: st) h Q := by
  intro p e R s mid args below meth c H locs cells slots mc ms Z A ad lsC O T L S r1 r2 r3 r4 r5 r6 K
  exact lv_dup O.1 O.2.1 hd (z_v_cat.trans hc) (k p e R s mid args below meth c H locs cells slots mc ms Z A ad lsC O T L (z_pu (z_hd S) S) r1 r2 r3 r4 r5 r6 K)
theorem x_dup_x1 {v w : Value} (hc : v.category = 1) (hc2 : w.category = 1) (hd : decode m.2.1 pc = .ok (.dup_x1, 1)) (k : Zw g d κ σ m (pc + 1) ls (v :: w :: v :: st) h Q) : Zw g d κ σ m pc ls (v :: w :: st) h Q := by
  intro p e R s mid args below meth c H locs cells slots mc ms Z A ad lsC O T L S r1 r2 r3 r4 r5 r6 K
  exact lv_dup_x1 O.1 O.2.1 hd (z_v_cat.trans hc) (z_v_cat.trans hc2) (k p e R s mid args below meth c H locs cells slots mc ms Z A ad lsC O T L (z_pu (z_hd S) (z_pu (z_hd (z_tl S)) (z_pu (z_hd S) (z_tl (z_tl S))))) r1 r2 r3 r4 r5 r6 K)
theorem x_dup2 {v w : Value} (hc : v.category = 1) (hc2 : w.category = 1) (hd : decode m.2.1 pc = .ok (.dup2, 1)) (k : Zw g d κ σ m (pc + 1) ls (v :: w :: v :: w :: st) h Q) : Zw g d κ σ m pc ls (v :: w :: st) h Q := by
  intro p e R s mid args below meth c H locs cells slots mc ms Z A ad lsC O T L S r1 r2 r3 r4 r5 r6 K
  exact lv_dup2_11 O.1 O.2.1 hd (z_v_cat.trans hc) (z_v_cat.trans hc2) (k p e R s mid args below meth c H locs cells slots mc ms Z A ad lsC O T L (z_pu (z_hd S) (z_pu (z_hd (z_tl S)) S)) r1 r2 r3 r4 r5 r6 K)
theorem x_dup2l {v : Value} (hc : v.category = 2) (hd : decode m.2.1 pc = .ok (.dup2, 1)) (k : Zw g d κ σ m (pc + 1) ls (v :: v :: st) h Q) : Zw g d κ σ m pc ls (v :: st) h Q := by
  intro p e R s mid args below meth c H locs cells slots mc ms Z A ad lsC O T L S r1 r2 r3 r4 r5 r6 K
  exact lv_dup2_2 O.1 O.2.1 hd (z_v_cat.trans hc) (k p e R s mid args below meth c H locs cells slots mc ms Z A ad lsC O T L (z_pu (z_hd S) S) r1 r2 r3 r4 r5 r6 K)
theorem x_pop {v : Value} (hc : v.category = 1) (hd : decode m.2.1 pc = .ok (.pop, 1)) (k : Zw g d κ σ m (pc + 1) ls st h Q) : Zw g d κ σ m pc ls (v :: st) h Q := by
  intro p e R s mid args below meth c H locs cells slots mc ms Z A ad lsC O T L S r1 r2 r3 r4 r5 r6 K
  exact lv_pop O.1 O.2.1 hd (z_v_cat.trans hc) (k p e R s mid args below meth c H locs cells slots mc ms Z A ad lsC O T L (z_tl S) r1 r2 r3 r4 r5 r6 K)
theorem x_pop2 {v : Value} (hc : v.category = 2) (hd : decode m.2.1 pc = .ok (.pop2, 1)) (k : Zw g d κ σ m (pc + 1) ls st h Q) : Zw g d κ σ m pc ls (v :: st) h Q := by
  intro p e R s mid args below meth c H locs cells slots mc ms Z A ad lsC O T L S r1 r2 r3 r4 r5 r6 K
  exact lv_pop2_2 O.1 O.2.1 hd (z_v_cat.trans hc) (k p e R s mid args below meth c H locs cells slots mc ms Z A ad lsC O T L (z_tl S) r1 r2 r3 r4 r5 r6 K)
theorem x_icmp_eq {x y : Int32} {off : Int} {tgt : Nat} (hd : decode m.2.1 pc = .ok (.if_icmp .eq off, 3)) (ht : (pc : Int) + off = (tgt : Int)) (kt : x = y → Zw g d κ σ m tgt ls st h Q) (kf : ¬ x = y → Zw g d κ σ m (pc + 3) ls st h Q) : Zw g d κ σ m pc ls (.int y :: .int x :: st) h Q := by
  intro p e R s mid args below meth c H locs cells slots mc ms Z A ad lsC O T L S r1 r2 r3 r4 r5 r6 K
  exact lv_icmp_eq O.1 O.2.1 hd ht (fun q => (kt q p e R s mid args below meth c H locs cells slots mc ms Z A ad lsC O T L (z_tl (z_tl S)) r1 r2 r3 r4 r5 r6 K)) (fun q => (kf q p e R s mid args below meth c H locs cells slots mc ms Z A ad lsC O T L (z_tl (z_tl S)) r1 r2 r3 r4 r5 r6 K))
theorem x_if_eq {x : Int32} {off : Int} {tgt : Nat} (hd : decode m.2.1 pc = .ok (.ifCond .eq off, 3)) (ht : (pc : Int) + off = (tgt : Int)) (kt : x = 0 → Zw g d κ σ m tgt ls st h Q) (kf : ¬ x = 0 → Zw g d κ σ m (pc + 3) ls st h Q) : Zw g d κ σ m pc ls (.int x :: st) h Q := by
  intro p e R s mid args below meth c H locs cells slots mc ms Z A ad lsC O T L S r1 r2 r3 r4 r5 r6 K
  exact lv_if_eq O.1 O.2.1 hd ht (fun q => (kt q p e R s mid args below meth c H locs cells slots mc ms Z A ad lsC O T L (z_tl S) r1 r2 r3 r4 r5 r6 K)) (fun q => (kf q p e R s mid args below meth c H locs cells slots mc ms Z A ad lsC O T L (z_tl S) r1 r2 r3 r4 r5 r6 K))
theorem x_icmp_ne {x y : Int32} {off : Int} {tgt : Nat} (hd : decode m.2.1 pc = .ok (.if_icmp .ne off, 3)) (ht : (pc : Int) + off = (tgt : Int)) (kt : ¬ x = y → Zw g d κ σ m tgt ls st h Q) (kf : x = y → Zw g d κ σ m (pc + 3) ls st h Q) : Zw g d κ σ m pc ls (.int y :: .int x :: st) h Q := by
  intro p e R s mid args below meth c H locs cells slots mc ms Z A ad lsC O T L S r1 r2 r3 r4 r5 r6 K
  exact lv_icmp_ne O.1 O.2.1 hd ht (fun q => (kt q p e R s mid args below meth c H locs cells slots mc ms Z A ad lsC O T L (z_tl (z_tl S)) r1 r2 r3 r4 r5 r6 K)) (fun q => (kf q p e R s mid args below meth c H locs cells slots mc ms Z A ad lsC O T L (z_tl (z_tl S)) r1 r2 r3 r4 r5 r6 K))
theorem x_if_ne {x : Int32} {off : Int} {tgt : Nat} (hd : decode m.2.1 pc = .ok (.ifCond .ne off, 3)) (ht : (pc : Int) + off = (tgt : Int)) (kt : ¬ x = 0 → Zw g d κ σ m tgt ls st h Q) (kf : x = 0 → Zw g d κ σ m (pc + 3) ls st h Q) : Zw g d κ σ m pc ls (.int x :: st) h Q := by
  intro p e R s mid args below meth c H locs cells slots mc ms Z A ad lsC O T L S r1 r2 r3 r4 r5 r6 K
  exact lv_if_ne O.1 O.2.1 hd ht (fun q => (kt q p e R s mid args below meth c H locs cells slots mc ms Z A ad lsC O T L (z_tl S) r1 r2 r3 r4 r5 r6 K)) (fun q => (kf q p e R s mid args below meth c H locs cells slots mc ms Z A ad lsC O T L (z_tl S) r1 r2 r3 r4 r5 r6 K))
theorem x_icmp_lt {x y : Int32} {off : Int} {tgt : Nat} (hd : decode m.2.1 pc = .ok (.if_icmp .lt off, 3)) (ht : (pc : Int) + off = (tgt : Int)) (kt : x < y → Zw g d κ σ m tgt ls st h Q) (kf : ¬ x < y → Zw g d κ σ m (pc + 3) ls st h Q) : Zw g d κ σ m pc ls (.int y :: .int x :: st) h Q := by
  intro p e R s mid args below meth c H locs cells slots mc ms Z A ad lsC O T L S r1 r2 r3 r4 r5 r6 K
  exact lv_icmp_lt O.1 O.2.1 hd ht (fun q => (kt q p e R s mid args below meth c H locs cells slots mc ms Z A ad lsC O T L (z_tl (z_tl S)) r1 r2 r3 r4 r5 r6 K)) (fun q => (kf q p e R s mid args below meth c H locs cells slots mc ms Z A ad lsC O T L (z_tl (z_tl S)) r1 r2 r3 r4 r5 r6 K))
theorem x_if_lt {x : Int32} {off : Int} {tgt : Nat} (hd : decode m.2.1 pc = .ok (.ifCond .lt off, 3)) (ht : (pc : Int) + off = (tgt : Int)) (kt : x < 0 → Zw g d κ σ m tgt ls st h Q) (kf : ¬ x < 0 → Zw g d κ σ m (pc + 3) ls st h Q) : Zw g d κ σ m pc ls (.int x :: st) h Q := by
  intro p e R s mid args below meth c H locs cells slots mc ms Z A ad lsC O T L S r1 r2 r3 r4 r5 r6 K
  exact lv_if_lt O.1 O.2.1 hd ht (fun q => (kt q p e R s mid args below meth c H locs cells slots mc ms Z A ad lsC O T L (z_tl S) r1 r2 r3 r4 r5 r6 K)) (fun q => (kf q p e R s mid args below meth c H locs cells slots mc ms Z A ad lsC O T L (z_tl S) r1 r2 r3 r4 r5 r6 K))
theorem x_icmp_ge {x y : Int32} {off : Int} {tgt : Nat} (hd : decode m.2.1 pc = .ok (.if_icmp .ge off, 3)) (ht : (pc : Int) + off = (tgt : Int)) (kt : y ≤ x → Zw g d κ σ m tgt ls st h Q) (kf : ¬ y ≤ x → Zw g d κ σ m (pc + 3) ls st h Q) : Zw g d κ σ m pc ls (.int y :: .int x :: st) h Q := by
  intro p e R s mid args below meth c H locs cells slots mc ms Z A ad lsC O T L S r1 r2 r3 r4 r5 r6 K
  exact lv_icmp_ge O.1 O.2.1 hd ht (fun q => (kt q p e R s mid args below meth c H locs cells slots mc ms Z A ad lsC O T L (z_tl (z_tl S)) r1 r2 r3 r4 r5 r6 K)) (fun q => (kf q p e R s mid args below meth c H locs cells slots mc ms Z A ad lsC O T L (z_tl (z_tl S)) r1 r2 r3 r4 r5 r6 K))
theorem x_if_ge {x : Int32} {off : Int} {tgt : Nat} (hd : decode m.2.1 pc = .ok (.ifCond .ge off, 3)) (ht : (pc : Int) + off = (tgt : Int)) (kt : 0 ≤ x → Zw g d κ σ m tgt ls st h Q) (kf : ¬ 0 ≤ x → Zw g d κ σ m (pc + 3) ls st h Q) : Zw g d κ σ m pc ls (.int x :: st) h Q := by
  intro p e R s mid args below meth c H locs cells slots mc ms Z A ad lsC O T L S r1 r2 r3 r4 r5 r6 K
  exact lv_if_ge O.1 O.2.1 hd ht (fun q => (kt q p e R s mid args below meth c H locs cells slots mc ms Z A ad lsC O T L (z_tl S) r1 r2 r3 r4 r5 r6 K)) (fun q => (kf q p e R s mid args below meth c H locs cells slots mc ms Z A ad lsC O T L (z_tl S) r1 r2 r3 r4 r5 r6 K))
theorem x_icmp_gt {x y : Int32} {off : Int} {tgt : Nat} (hd : decode m.2.1 pc = .ok (.if_icmp .gt off, 3)) (ht : (pc : Int) + off = (tgt : Int)) (kt : y < x → Zw g d κ σ m tgt ls st h Q) (kf : ¬ y < x → Zw g d κ σ m (pc + 3) ls st h Q) : Zw g d κ σ m pc ls (.int y :: .int x :: st) h Q := by
  intro p e R s mid args below meth c H locs cells slots mc ms Z A ad lsC O T L S r1 r2 r3 r4 r5 r6 K
  exact lv_icmp_gt O.1 O.2.1 hd ht (fun q => (kt q p e R s mid args below meth c H locs cells slots mc ms Z A ad lsC O T L (z_tl (z_tl S)) r1 r2 r3 r4 r5 r6 K)) (fun q => (kf q p e R s mid args below meth c H locs cells slots mc ms Z A ad lsC O T L (z_tl (z_tl S)) r1 r2 r3 r4 r5 r6 K))
theorem x_if_gt {x : Int32} {off : Int} {tgt : Nat} (hd : decode m.2.1 pc = .ok (.ifCond .gt off, 3)) (ht : (pc : Int) + off = (tgt : Int)) (kt : 0 < x → Zw g d κ σ m tgt ls st h Q) (kf : ¬ 0 < x → Zw g d κ σ m (pc + 3) ls st h Q) : Zw g d κ σ m pc ls (.int x :: st) h Q := by
  intro p e R s mid args below meth c H locs cells slots mc ms Z A ad lsC O T L S r1 r2 r3 r4 r5 r6 K
  exact lv_if_gt O.1 O.2.1 hd ht (fun q => (kt q p e R s mid args below meth c H locs cells slots mc ms Z A ad lsC O T L (z_tl S) r1 r2 r3 r4 r5 r6 K)) (fun q => (kf q p e R s mid args below meth c H locs cells slots mc ms Z A ad lsC O T L (z_tl S) r1 r2 r3 r4 r5 r6 K))
theorem x_icmp_le {x y : Int32} {off : Int} {tgt : Nat} (hd : decode m.2.1 pc = .ok (.if_icmp .le off, 3)) (ht : (pc : Int) + off = (tgt : Int)) (kt : x ≤ y → Zw g d κ σ m tgt ls st h Q) (kf : ¬ x ≤ y → Zw g d κ σ m (pc + 3) ls st h Q) : Zw g d κ σ m pc ls (.int y :: .int x :: st) h Q := by
  intro p e R s mid args below meth c H locs cells slots mc ms Z A ad lsC O T L S r1 r2 r3 r4 r5 r6 K
  exact lv_icmp_le O.1 O.2.1 hd ht (fun q => (kt q p e R s mid args below meth c H locs cells slots mc ms Z A ad lsC O T L (z_tl (z_tl S)) r1 r2 r3 r4 r5 r6 K)) (fun q => (kf q p e R s mid args below meth c H locs cells slots mc ms Z A ad lsC O T L (z_tl (z_tl S)) r1 r2 r3 r4 r5 r6 K))
theorem x_if_le {x : Int32} {off : Int} {tgt : Nat} (hd : decode m.2.1 pc = .ok (.ifCond .le off, 3)) (ht : (pc : Int) + off = (tgt : Int)) (kt : x ≤ 0 → Zw g d κ σ m tgt ls st h Q) (kf : ¬ x ≤ 0 → Zw g d κ σ m (pc + 3) ls st h Q) : Zw g d κ σ m pc ls (.int x :: st) h Q := by
  intro p e R s mid args below meth c H locs cells slots mc ms Z A ad lsC O T L S r1 r2 r3 r4 r5 r6 K
  exact lv_if_le O.1 O.2.1 hd ht (fun q => (kt q p e R s mid args below meth c H locs cells slots mc ms Z A ad lsC O T L (z_tl S) r1 r2 r3 r4 r5 r6 K)) (fun q => (kf q p e R s mid args below meth c H locs cells slots mc ms Z A ad lsC O T L (z_tl S) r1 r2 r3 r4 r5 r6 K))
theorem x_goto {off : Int} {tgt : Nat} (hd : decode m.2.1 pc = .ok (.goto off, 3)) (ht : (pc : Int) + off = (tgt : Int)) (k : Zw g d κ σ m tgt ls st h Q) : Zw g d κ σ m pc ls st h Q := by
  intro p e R s mid args below meth c H locs cells slots mc ms Z A ad lsC O T L S r1 r2 r3 r4 r5 r6 K
  exact lv_goto O.1 O.2.1 hd ht (k p e R s mid args below meth c H locs cells slots mc ms Z A ad lsC O T L S r1 r2 r3 r4 r5 r6 K)
theorem x_ifnull {i : Nat} {off : Int} (hd : decode m.2.1 pc = .ok (.ifnull off, 3)) (k : Zw g d κ σ m (pc + 3) ls st h Q) : Zw g d κ σ m pc ls (.ref i :: st) h Q := by
  intro p e R s mid args below meth c H locs cells slots mc ms Z A ad lsC O T L S r1 r2 r3 r4 r5 r6 K
  exact lv_ifnull O.1 O.2.1 hd (k p e R s mid args below meth c H locs cells slots mc ms Z A ad lsC O T L (z_tl S) r1 r2 r3 r4 r5 r6 K)
theorem x_ifnullN {off : Int} {tgt : Nat} (hd : decode m.2.1 pc = .ok (.ifnull off, 3)) (ht : (pc : Int) + off = (tgt : Int)) (k : Zw g d κ σ m tgt ls st h Q) : Zw g d κ σ m pc ls (.null :: st) h Q := by
  intro p e R s mid args below meth c H locs cells slots mc ms Z A ad lsC O T L S r1 r2 r3 r4 r5 r6 K
  exact lv_ifnullN O.1 O.2.1 hd ht (k p e R s mid args below meth c H locs cells slots mc ms Z A ad lsC O T L (z_tl S) r1 r2 r3 r4 r5 r6 K)
theorem x_ifnonnull {i : Nat} {off : Int} {tgt : Nat} (hd : decode m.2.1 pc = .ok (.ifnonnull off, 3)) (ht : (pc : Int) + off = (tgt : Int)) (k : Zw g d κ σ m tgt ls st h Q) : Zw g d κ σ m pc ls (.ref i :: st) h Q := by
  intro p e R s mid args below meth c H locs cells slots mc ms Z A ad lsC O T L S r1 r2 r3 r4 r5 r6 K
  exact lv_ifnonnull O.1 O.2.1 hd ht (k p e R s mid args below meth c H locs cells slots mc ms Z A ad lsC O T L (z_tl S) r1 r2 r3 r4 r5 r6 K)
theorem x_ifnonnullN {off : Int} (hd : decode m.2.1 pc = .ok (.ifnonnull off, 3)) (k : Zw g d κ σ m (pc + 3) ls st h Q) : Zw g d κ σ m pc ls (.null :: st) h Q := by
  intro p e R s mid args below meth c H locs cells slots mc ms Z A ad lsC O T L S r1 r2 r3 r4 r5 r6 K
  exact lv_ifnonnullN O.1 O.2.1 hd (k p e R s mid args below meth c H locs cells slots mc ms Z A ad lsC O T L (z_tl S) r1 r2 r3 r4 r5 r6 K)
theorem x_tabIn {dflt lo hi : Int} {offs : Array Int} {len : Nat} {x : Int32} {off : Int} {tgt : Nat} (hd : decode m.2.1 pc = .ok (.tableswitch dflt lo hi offs, len)) (h1 : ¬ x.toInt < lo) (h2 : ¬ hi < x.toInt) (ho : offs[(x.toInt - lo).toNat]? = some off) (ht : (pc : Int) + off = (tgt : Int)) (k : Zw g d κ σ m tgt ls st h Q) : Zw g d κ σ m pc ls (.int x :: st) h Q := by
  intro p e R s mid args below meth c H locs cells slots mc ms Z A ad lsC O T L S r1 r2 r3 r4 r5 r6 K
  exact lv_tableIn O.1 O.2.1 hd h1 h2 ho ht (k p e R s mid args below meth c H locs cells slots mc ms Z A ad lsC O T L (z_tl S) r1 r2 r3 r4 r5 r6 K)
theorem x_tabOut {dflt lo hi : Int} {offs : Array Int} {len : Nat} {x : Int32} {tgt : Nat} (hd : decode m.2.1 pc = .ok (.tableswitch dflt lo hi offs, len)) (hx : x.toInt < lo ∨ hi < x.toInt) (ht : (pc : Int) + dflt = (tgt : Int)) (k : Zw g d κ σ m tgt ls st h Q) : Zw g d κ σ m pc ls (.int x :: st) h Q := by
  intro p e R s mid args below meth c H locs cells slots mc ms Z A ad lsC O T L S r1 r2 r3 r4 r5 r6 K
  exact lv_tableOut O.1 O.2.1 hd hx ht (k p e R s mid args below meth c H locs cells slots mc ms Z A ad lsC O T L (z_tl S) r1 r2 r3 r4 r5 r6 K)
theorem x_lookup {dflt : Int} {ps : Array (Int × Int)} {len : Nat} {x : Int32} {off : Int} {tgt : Nat} (hd : decode m.2.1 pc = .ok (.lookupswitch dflt ps, len)) (hp : (ps.toList.zip (ps.toList.drop 1)).all (fun (a, next) => a.1 < next.1) = true) (ho : Op.lookupswitch.offset ps.toList dflt x.toInt = off) (ht : (pc : Int) + off = (tgt : Int)) (k : Zw g d κ σ m tgt ls st h Q) : Zw g d κ σ m pc ls (.int x :: st) h Q := by
  intro p e R s mid args below meth c H locs cells slots mc ms Z A ad lsC O T L S r1 r2 r3 r4 r5 r6 K
  exact lv_lookup O.1 O.2.1 hd hp ho ht (k p e R s mid args below meth c H locs cells slots mc ms Z A ad lsC O T L (z_tl S) r1 r2 r3 r4 r5 r6 K)
theorem y_iloadn {i : Nat} {x : Int32} {f : Fin 4} (hf : (f : Nat) = i) (hl : ls[i]? = some (some (.int x))) (hd : decode m.2.1 pc = .ok (.iload_n f, 1)) (k : Zw g d κ σ m (pc + 1) ls (.int x :: st) h Q) : Zw g d κ σ m pc ls st h Q := by
  intro p e R s mid args below meth c H locs cells slots mc ms Z A ad lsC O T L S r1 r2 r3 r4 r5 r6 K
  exact lv_iload_n O.1 O.2.1 hd hf (L.2.1 i _ hl).1 (k p e R s mid args below meth c H locs cells slots mc ms Z A ad lsC O T L (z_pu z_wi S) r1 r2 r3 r4 r5 r6 K)
theorem y_istoren {i : Nat} {x : Int32} {f : Fin 4} (hf : (f : Nat) = i) (hi : i < ls.length) (hp : ∀ o, ls[i - 1]? = some o → 0 < i → z_nl o = true) (hd : decode m.2.1 pc = .ok (.istore_n f, 1)) (k : Zw g d κ σ m (pc + 1) (ls.set i (some (.int x))) st h Q) : Zw g d κ σ m pc ls (.int x :: st) h Q := by
  intro p e R s mid args below meth c H locs cells slots mc ms Z A ad lsC O T L S r1 r2 r3 r4 r5 r6 K
  exact lv_istore_n O.1 O.2.1 hd hf L.has (Nat.lt_of_lt_of_le hi L.2.2) rfl (fun ls' hl' => (k p e R s mid args below meth c H locs cells slots mc ms Z A ad ls' O T (L.st1 hp z_wi hl') (z_tl S) r1 r2 r3 r4 r5 r6 K))
theorem y_iload {i : Nat} {x : Int32} (hl : ls[i]? = some (some (.int x))) (hd : decode m.2.1 pc = .ok (.iload i, 2)) (k : Zw g d κ σ m (pc + 2) ls (.int x :: st) h Q) : Zw g d κ σ m pc ls st h Q := by
  intro p e R s mid args below meth c H locs cells slots mc ms Z A ad lsC O T L S r1 r2 r3 r4 r5 r6 K
  exact lv_iload O.1 O.2.1 hd (L.2.1 i _ hl).1 (k p e R s mid args below meth c H locs cells slots mc ms Z A ad lsC O T L (z_pu z_wi S) r1 r2 r3 r4 r5 r6 K)
theorem y_istore {i : Nat} {x : Int32} (hi : i < ls.length) (hp : ∀ o, ls[i - 1]? = some o → 0 < i → z_nl o = true) (hd : decode m.2.1 pc = .ok (.istore i, 2)) (k : Zw g d κ σ m (pc + 2) (ls.set i (some (.int x))) st h Q) : Zw g d κ σ m pc ls (.int x :: st) h Q := by
  intro p e R s mid args below meth c H locs cells slots mc ms Z A ad lsC O T L S r1 r2 r3 r4 r5 r6 K
  exact lv_istore O.1 O.2.1 hd L.has (Nat.lt_of_lt_of_le hi L.2.2) rfl (fun ls' hl' => (k p e R s mid args below meth c H locs cells slots mc ms Z A ad ls' O T (L.st1 hp z_wi hl') (z_tl S) r1 r2 r3 r4 r5 r6 K))
theorem y_lloadn {i : Nat} {x : Int64} {f : Fin 4} (hf : (f : Nat) = i) (hl : ls[i]? = some (some (.long x))) (hd : decode m.2.1 pc = .ok (.lload_n f, 1)) (k : Zw g d κ σ m (pc + 1) ls (.long x :: st) h Q) : Zw g d κ σ m pc ls st h Q := by
  intro p e R s mid args below meth c H locs cells slots mc ms Z A ad lsC O T L S r1 r2 r3 r4 r5 r6 K
  exact lv_lload_n O.1 O.2.1 hd hf (L.2.1 i _ hl).1 (k p e R s mid args below meth c H locs cells slots mc ms Z A ad lsC O T L (z_pu z_wl S) r1 r2 r3 r4 r5 r6 K)
theorem y_lstoren {i : Nat} {x : Int64} {f : Fin 4} (hf : (f : Nat) = i) (hi : i + 1 < ls.length) (hp : ∀ o, ls[i - 1]? = some o → 0 < i → z_nl o = true) (hd : decode m.2.1 pc = .ok (.lstore_n f, 1)) (k : Zw g d κ σ m (pc + 1) ((ls.set i (some (.long x))).set (i + 1) none) st h Q) : Zw g d κ σ m pc ls (.long x :: st) h Q := by
  intro p e R s mid args below meth c H locs cells slots mc ms Z A ad lsC O T L S r1 r2 r3 r4 r5 r6 K
  exact lv_lstore_n O.1 O.2.1 hd hf L.has (Nat.lt_of_lt_of_le hi L.2.2) rfl (fun ls' hl' => (k p e R s mid args below meth c H locs cells slots mc ms Z A ad ls' O T (L.st2 hp z_wl hl') (z_tl S) r1 r2 r3 r4 r5 r6 K))
theorem y_lload {i : Nat} {x : Int64} (hl : ls[i]? = some (some (.long x))) (hd : decode m.2.1 pc = .ok (.lload i, 2)) (k : Zw g d κ σ m (pc + 2) ls (.long x :: st) h Q) : Zw g d κ σ m pc ls st h Q := by
  intro p e R s mid args below meth c H locs cells slots mc ms Z A ad lsC O T L S r1 r2 r3 r4 r5 r6 K
  exact lv_lload O.1 O.2.1 hd (L.2.1 i _ hl).1 (k p e R s mid args below meth c H locs cells slots mc ms Z A ad lsC O T L (z_pu z_wl S) r1 r2 r3 r4 r5 r6 K)
theorem y_lstore {i : Nat} {x : Int64} (hi : i + 1 < ls.length) (hp : ∀ o, ls[i - 1]? = some o → 0 < i → z_nl o = true) (hd : decode m.2.1 pc = .ok (.lstore i, 2)) (k : Zw g d κ σ m (pc + 2) ((ls.set i (some (.long x))).set (i + 1) none) st h Q) : Zw g d κ σ m pc ls (.long x :: st) h Q := by
  intro p e R s mid args below meth c H locs cells slots mc ms Z A ad lsC O T L S r1 r2 r3 r4 r5 r6 K
  exact lv_lstore O.1 O.2.1 hd L.has (Nat.lt_of_lt_of_le hi L.2.2) rfl (fun ls' hl' => (k p e R s mid args below meth c H locs cells slots mc ms Z A ad ls' O T (L.st2 hp z_wl hl') (z_tl S) r1 r2 r3 r4 r5 r6 K))
theorem y_aloadn {i : Nat} {v : Value} {f : Fin 4} (hf : (f : Nat) = i) (hl : ls[i]? = some (some v)) (hr : z_isr v = true) (hd : decode m.2.1 pc = .ok (.aload_n f, 1)) (k : Zw g d κ σ m (pc + 1) ls (v :: st) h Q) : Zw g d κ σ m pc ls st h Q := by
  intro p e R s mid args below meth c H locs cells slots mc ms Z A ad lsC O T L S r1 r2 r3 r4 r5 r6 K
  have hw := L.2.1 i _ hl
  have kk := (k p e R s mid args below meth c H locs cells slots mc ms Z A ad lsC O T L (z_pu hw.2 S) r1 r2 r3 r4 r5 r6 K)
  cases v with
  | ref j => exact lv_aload_n O.1 O.2.1 hd hf hw.1 kk
  | retAddr j => exact lv_aload_n O.1 O.2.1 hd hf hw.1 kk
  | null => exact lv_aload_nN O.1 O.2.1 hd hf hw.1 kk
  | _ => cases hr
theorem y_astoren {i : Nat} {v : Value} {f : Fin 4} (hf : (f : Nat) = i) (hi : i < ls.length) (hp : ∀ o, ls[i - 1]? = some o → 0 < i → z_nl o = true) (hr : z_isr v = true) (hd : decode m.2.1 pc = .ok (.astore_n f, 1)) (k : Zw g d κ σ m (pc + 1) (ls.set i (some v)) st h Q) : Zw g d κ σ m pc ls (v :: st) h Q := by
  intro p e R s mid args below meth c H locs cells slots mc ms Z A ad lsC O T L S r1 r2 r3 r4 r5 r6 K
  have hn := Nat.lt_of_lt_of_le hi L.2.2
  have kk := fun (ls' : Array Slot) hl' => (k p e R s mid args below meth c H locs cells slots mc ms Z A ad ls' O T (L.st1 hp (z_hd S) hl') (z_tl S) r1 r2 r3 r4 r5 r6 K)
  cases v with
  | ref j => exact lv_astore_n O.1 O.2.1 hd hf L.has hn rfl kk
  | retAddr j => exact lv_astore_n O.1 O.2.1 hd hf L.has hn rfl kk
  | null => exact lv_astore_nN O.1 O.2.1 hd hf L.has hn rfl kk
  | _ => cases hr
theorem y_aload {i : Nat} {v : Value} (hl : ls[i]? = some (some v)) (hr : z_isr v = true) (hd : decode m.2.1 pc = .ok (.aload i, 2)) (k : Zw g d κ σ m (pc + 2) ls (v :: st) h Q) : Zw g d κ σ m pc ls st h Q := by
  intro p e R s mid args below meth c H locs cells slots mc ms Z A ad lsC O T L S r1 r2 r3 r4 r5 r6 K
  have hw := L.2.1 i _ hl
  have kk := (k p e R s mid args below meth c H locs cells slots mc ms Z A ad lsC O T L (z_pu hw.2 S) r1 r2 r3 r4 r5 r6 K)
  cases v with
  | ref j => exact lv_aload O.1 O.2.1 hd hw.1 kk
  | retAddr j => exact lv_aload O.1 O.2.1 hd hw.1 kk
  | null => exact lv_aloadN O.1 O.2.1 hd hw.1 kk
  | _ => cases hr
theorem y_astore {i : Nat} {v : Value} (hi : i < ls.length) (hp : ∀ o, ls[i - 1]? = some o → 0 < i → z_nl o = true) (hr : z_isr v = true) (hd : decode m.2.1 pc = .ok (.astore i, 2)) (k : Zw g d κ σ m (pc + 2) (ls.set i (some v)) st h Q) : Zw g d κ σ m pc ls (v :: st) h Q := by
  intro p e R s mid args below meth c H locs cells slots mc ms Z A ad lsC O T L S r1 r2 r3 r4 r5 r6 K
  have hn := Nat.lt_of_lt_of_le hi L.2.2
  have kk := fun (ls' : Array Slot) hl' => (k p e R s mid args below meth c H locs cells slots mc ms Z A ad ls' O T (L.st1 hp (z_hd S) hl') (z_tl S) r1 r2 r3 r4 r5 r6 K)
  cases v with
  | ref j => exact lv_astore O.1 O.2.1 hd L.has hn rfl kk
  | retAddr j => exact lv_astore O.1 O.2.1 hd L.has hn rfl kk
  | null => exact lv_astoreN O.1 O.2.1 hd L.has hn rfl kk
  | _ => cases hr
theorem y_iinc {i : Nat} {n : Int} {x v : Int32} (hl : ls[i]? = some (some (.int x))) (hp : ∀ o, ls[i - 1]? = some o → 0 < i → z_nl o = true) (hv : x + Int32.ofInt n = v) (hd : decode m.2.1 pc = .ok (.iinc i n, 3)) (k : Zw g d κ σ m (pc + 3) (ls.set i (some (.int v))) st h Q) : Zw g d κ σ m pc ls st h Q := by
  intro p e R s mid args below meth c H locs cells slots mc ms Z A ad lsC O T L S r1 r2 r3 r4 r5 r6 K
  have hm : (i, Value.int x) ∈ z_as g ad ls := z_as_mem.mpr ⟨i, _, hl, rfl⟩
  obtain ⟨j, hj⟩ := List.getElem?_of_mem hm
  have hn : i < m.2.2.1 := Nat.lt_of_lt_of_le (List.getElem?_eq_some_iff.mp hl).1 L.2.2
  exact lv_iinc O.1 O.2.1 hd L.has hj hv hn rfl (fun ls' hl' => (k p e R s mid args below meth c H locs cells slots mc ms Z A ad ls' O T (L.st1 hp z_wi hl') S r1 r2 r3 r4 r5 r6 K))
end ZR
