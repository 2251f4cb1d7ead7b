/-! the model's world as functions: s its fields, M its int rows, L its long rows -/
def mLen (i : Nat) : Nat := [2868, 2, 900, 956, 4320, 6, 900, 5, 9, 3, 21, 15, 720, 10800, 720, 720, 720, 720, 60, 36, 4, 4, 160].getD (i - 60) 0
def mIs (i : Nat) : Bool := [60, 62, 63, 64, 65, 66, 67, 68, 69, 71, 72, 73, 74, 75, 78, 79, 80, 81].contains i
def mIl (i : Nat) : Bool := [70, 76, 77, 82].contains i
def mFx (k : Nat) : Bool := [1, 2, 3, 4, 15, 16, 18, 19, 20, 23, 26, 27, 28, 29, 30, 31, 33, 34, 35, 37, 38, 39, 40].contains k
def upM {α : Type} (M : Nat → α) (i : Nat) (f : α) : Nat → α := fun j => if j = i then f else M j
theorem upM_eq {α : Type} {M : Nat → α} {i : Nat} {f : α} : upM M i f i = f := if_pos rfl
theorem upM_ne {α : Type} {M : Nat → α} {i j : Nat} {f : α} (h : j ≠ i) : upM M i f j = M j := if_neg h
/-- beside the model nothing has changed -/
def Mo (h0 h : zH) : Prop := h0.length ≤ h.length ∧ ∀ i, i < h0.length → (i < 59 ∨ 83 ≤ i) → h[i]? = h0[i]?
theorem Mo.rf {h : zH} : Mo h h := ⟨Nat.le_refl _, fun _ _ _ => rfl⟩
theorem Mo.tr {h h' h2 : zH} (a : Mo h h') (b : Mo h' h2) : Mo h h2 := ⟨Nat.le_trans a.1 b.1, fun i hl hi => (b.2 i (Nat.lt_of_lt_of_le hl a.1) hi).trans (a.2 i hl hi)⟩
theorem Mo.set {h0 h : zH} {i : Nat} {e : va_E} (a : Mo h0 h) (h1 : 59 ≤ i) (h2 : i < 83) : Mo h0 (h.set i e) := ⟨by rw [List.length_set]; exact a.1, fun j hl hj => by rw [hs_ne (by omega)]; exact a.2 j hl hj⟩
theorem Mo.fr {ids : List Nat} {h h' : zH} (a : Fr ids h h') (hr : ∀ i ∈ ids, 59 ≤ i ∧ i < 83) : Mo h h' := ⟨a.1, fun i hl hi => a.2 i hl (fun q => by have := hr i q; omega)⟩
theorem Mo.get {h h' : zH} {i : Nat} {e : va_E} (a : Mo h h') (he : h[i]? = some e) (hi : i < 59 ∨ 83 ≤ i) : h'[i]? = some e := (a.2 i (hp_lt he) hi).trans he
def MW (h0 h : zH) (s : Nat → Value) (M : Nat → Nat → Int32) (L : Nat → Nat → Int64) : Prop := h[59]? = some (.inr (12, mF s)) ∧ MR s ∧ (∀ i, mIs i = true → h[i]? = some (.inl (0, mLen i, .inl (M i)))) ∧ (∀ i, mIl i = true → h[i]? = some (.inl (2, mLen i, .inr (.inl (L i))))) ∧ h[61]? = some (.inl (3, 2, .inl (M 61))) ∧ Mo h0 h
theorem mIs_r {i : Nat} (h : mIs i = true) : 60 ≤ i ∧ i < 82 ∧ i ≠ 61 ∧ mIl i = false := by
  simp only [mIs, List.contains_eq_mem, List.mem_cons, List.not_mem_nil, or_false, decide_eq_true_eq] at h
  rcases h with rfl | rfl | rfl | rfl | rfl | rfl | rfl | rfl | rfl | rfl | rfl | rfl | rfl | rfl | rfl | rfl | rfl | rfl <;> decide
theorem mIl_r {i : Nat} (h : mIl i = true) : 70 ≤ i ∧ i < 83 ∧ mIs i = false := by
  simp only [mIl, List.contains_eq_mem, List.mem_cons, List.not_mem_nil, or_false, decide_eq_true_eq] at h
  rcases h with rfl | rfl | rfl | rfl <;> decide
section ZMW
variable {h0 h : zH} {s : Nat → Value} {M : Nat → Nat → Int32} {L : Nat → Nat → Int64}
theorem MW.hM (W : MW h0 h s M L) : h[59]? = some (.inr (12, mF s)) := W.1
theorem MW.hF (W : MW h0 h s M L) : MR s := W.2.1
theorem MW.gi {i len : Nat} (W : MW h0 h s M L) (hi : mIs i = true) (hl : mLen i = len) : h[i]? = some (.inl (0, len, .inl (M i))) := by rw [← hl]; exact W.2.2.1 i hi
theorem MW.gl {i len : Nat} (W : MW h0 h s M L) (hi : mIl i = true) (hl : mLen i = len) : h[i]? = some (.inl (2, len, .inr (.inl (L i)))) := by rw [← hl]; exact W.2.2.2.1 i hi
theorem MW.g61 (W : MW h0 h s M L) : h[61]? = some (.inl (3, 2, .inl (M 61))) := W.2.2.2.2.1
theorem MW.mo (W : MW h0 h s M L) : Mo h0 h := W.2.2.2.2.2
theorem MW.si {i len : Nat} {f : Nat → Int32} (W : MW h0 h s M L) (hi : mIs i = true) (hl : mLen i = len) : MW h0 (h.set i (.inl (0, len, .inl f))) s (upM M i f) L := by
  obtain ⟨w1, w2, w3, w4, w5, w6⟩ := W
  obtain ⟨r1, r2, r3, r4⟩ := mIs_r hi
  subst hl
  refine ⟨by rw [hs_ne (by omega)]; exact w1, w2, fun j hj => ?_, fun j hj => ?_, ?_, w6.set (by omega) (by omega)⟩
  · by_cases q : j = i
    · subst q
      rw [upM_eq]
      exact hs_eq (w3 j hj)
    · rw [upM_ne q, hs_ne (Ne.symm q)]
      exact w3 j hj
  · have q : i ≠ j := fun q => by rw [q, hj] at r4; cases r4
    rw [hs_ne q]
    exact w4 j hj
  · rw [upM_ne (Ne.symm r3), hs_ne r3]
    exact w5
theorem MW.sl {i len : Nat} {f : Nat → Int64} (W : MW h0 h s M L) (hi : mIl i = true) (hl : mLen i = len) : MW h0 (h.set i (.inl (2, len, .inr (.inl f)))) s M (upM L i f) := by
  obtain ⟨w1, w2, w3, w4, w5, w6⟩ := W
  obtain ⟨r1, r2, r4⟩ := mIl_r hi
  subst hl
  refine ⟨by rw [hs_ne (by omega)]; exact w1, w2, fun j hj => ?_, fun j hj => ?_, ?_, w6.set (by omega) (by omega)⟩
  · have q : i ≠ j := fun q => by rw [q, hj] at r4; cases r4
    rw [hs_ne q]
    exact w3 j hj
  · by_cases q : j = i
    · subst q
      rw [upM_eq]
      exact hs_eq (w4 j hj)
    · rw [upM_ne q, hs_ne (Ne.symm q)]
      exact w4 j hj
  · rw [hs_ne (by omega)]
    exact w5
theorem MW.s61 {f : Nat → Int32} (W : MW h0 h s M L) : MW h0 (h.set 61 (.inl (3, 2, .inl f))) s (upM M 61 f) L := by
  obtain ⟨w1, w2, w3, w4, w5, w6⟩ := W
  refine ⟨by rw [hs_ne (by omega)]; exact w1, w2, fun j hj => ?_, fun j hj => ?_, by rw [upM_eq]; exact hs_eq w5, w6.set (by omega) (by omega)⟩
  · have := mIs_r hj
    rw [upM_ne this.2.2.1, hs_ne (by omega)]
    exact w3 j hj
  · have := mIl_r hj
    rw [hs_ne (by omega)]
    exact w4 j hj
theorem MW.sp {k : Nat} {v : Value} (W : MW h0 h s M L) (hk : mFx k = false) : MW h0 (h.set 59 (.inr (12, mF (va_up s k v)))) (va_up s k v) M L := by
  obtain ⟨w1, w2, w3, w4, w5, w6⟩ := W
  refine ⟨hs_eq w1, w2.up (fun q => ?_), fun j hj => ?_, fun j hj => ?_, by rw [hs_ne (by omega)]; exact w5, w6.set (by omega) (by omega)⟩
  · have : mFx k = true := by
      unfold mFx
      rw [List.contains_eq_mem]
      exact decide_eq_true q
    rw [hk] at this
    cases this
  · have := mIs_r hj
    rw [hs_ne (by omega)]
    exact w3 j hj
  · have := mIl_r hj
    rw [hs_ne (by omega)]
    exact w4 j hj
variable {g : zG} {d κ σ : Nat} {m : zMe} {pc : Nat} {ls : zL} {st : List Value} {Q : Option Value → zH → Prop}
theorem x_mld {i len j : Nat} {v : Int32} (W : MW h0 h s M L) (hi : mIs i = true) (hl : mLen i = len) (hL : len < 2 ^ 31) (hj : j < len) (hv : M i j = v) (hd : decode m.2.1 pc = .ok (.iaload, 1)) (kk : Zw g d κ σ m (pc + 1) ls (.int v :: st) h Q) : Zw g d κ σ m pc ls (.int (nI j) :: .ref i :: st) h Q := x_iald (W.gi hi hl) (vp_in_nI hj hL) (ald hv (by omega)) hd kk
theorem x_mst {i len j : Nat} {x : Int32} (W : MW h0 h s M L) (hi : mIs i = true) (hl : mLen i = len) (hL : len < 2 ^ 31) (hj : j < len) (hd : decode m.2.1 pc = .ok (.iastore, 1)) (kk : ∀ h, MW h0 h s (upM M i (upd (M i) j x)) L → Zw g d κ σ m (pc + 1) ls st h Q) : Zw g d κ σ m pc ls (.int x :: .int (nI j) :: .ref i :: st) h Q := by
  refine x_iast (W.gi hi hl) (vp_in_nI hj hL) hd ?_
  rw [nI_clamp (by omega)]
  exact kk _ (W.si hi hl)
theorem x_mldl {i len j : Nat} {v : Int64} (W : MW h0 h s M L) (hi : mIl i = true) (hl : mLen i = len) (hL : len < 2 ^ 31) (hj : j < len) (hv : L i j = v) (hd : decode m.2.1 pc = .ok (.laload, 1)) (kk : Zw g d κ σ m (pc + 1) ls (.long v :: st) h Q) : Zw g d κ σ m pc ls (.int (nI j) :: .ref i :: st) h Q := x_lald (W.gl hi hl) (vp_in_nI hj hL) (ald hv (by omega)) hd kk
theorem x_mstl {i len j : Nat} {x : Int64} (W : MW h0 h s M L) (hi : mIl i = true) (hl : mLen i = len) (hL : len < 2 ^ 31) (hj : j < len) (hd : decode m.2.1 pc = .ok (.lastore, 1)) (kk : ∀ h, MW h0 h s M (upM L i (vp_updL (L i) j x)) → Zw g d κ σ m (pc + 1) ls st h Q) : Zw g d κ σ m pc ls (.long x :: .int (nI j) :: .ref i :: st) h Q := by
  refine x_last (W.gl hi hl) (vp_in_nI hj hL) hd ?_
  rw [nI_clamp (by omega)]
  exact kk _ (W.sl hi hl)
theorem x_mpf {n k : Nat} {ty : FieldType} {v : Value} (W : MW h0 h s M L) (hf : zFd m.1.cls n 12 k ty false) (hk : k < 41) (hx : mFx k = false) (hz : z_fit ty v) (hd : decode m.2.1 pc = .ok (.putfield n, 3)) (kk : ∀ h, MW h0 h (va_up s k v) M L → Zw g d κ σ m (pc + 3) ls st h Q) : Zw g d κ σ m pc ls (v :: .ref 59 :: st) h Q := x_pm hf W.hM hk hz hd (kk _ (W.sp hx))
end ZMW

