/-! THE ABSTRACT MACHINE: cells by number, values with numbers for addresses; a judgement Zw of one frame, by the kit's rows -/
abbrev zH : Type := List va_E
abbrev zL : Type := List (Option Value)
/-- what is fixed in a run: launch, class numbers, slots, array classes, addresses of foreign cells, the script -/
abbrev zG : Type := Launch × va_G × (Nat → Nat) × (Nat → Nat) × Nat × (Nat → Int32)
def z_v (g : zG) (ad : Nat → Nat) (v : Value) : Value := match v with
  | .ref i => .ref (ad i)
  | .retAddr k => .ref (g.2.2.2.1 k)
  | v => v
def z_ar (ad : Nat → Nat) (x : vp_A) : vp_A := (x.1, match x.2 with
  | .inr (.inr (.inr (.inr f))) => .inr (.inr (.inr (.inr (fun j => (f j).map ad))))
  | y => y)
def z_e (g : zG) (ad : Nat → Nat) (e : va_E) : va_E := match e with
  | .inl a => .inl (g.2.2.1 a.1, z_ar ad a.2)
  | .inr o => .inr (o.1, o.2.map (z_v g ad))
def z_w (g : zG) (ad : Nat → Nat) (h : zH) : va_W := h.mapIdx (fun i e => (ad i, z_e g ad e))
def z_wv (n : Nat) (v : Value) : Prop := ∀ i, v = .ref i → i < n
def z_we (n : Nat) (e : va_E) : Prop := match e with
  | .inl a => ∀ f : Nat → Option Nat, a.2.2 = .inr (.inr (.inr (.inr f))) → ∀ j i, f j = some i → i < n
  | .inr o => ∀ v ∈ o.2, z_wv n v
def z_wh (h : zH) : Prop := ∀ (i : Nat) (e : va_E), h[i]? = some e → z_we h.length e
def zTy : List FieldType := [.int, .byte, .long, .boolean, .object RX7, .object RX8, .object RX3]
def z_tys (g : zG) : List (ClassId × FieldType) := zTy.mapIdx (fun i ty => (g.2.2.1 i, ty))
theorem z_w_get {g : zG} {ad : Nat → Nat} {h : zH} {i : Nat} {e : va_E} (he : h[i]? = some e) : (z_w g ad h)[i]? = some (ad i, z_e g ad e) := by
  simp [z_w, List.getElem?_mapIdx, he]
theorem z_w_len {g : zG} {ad : Nat → Nat} {h : zH} : (z_w g ad h).length = h.length := by simp [z_w]
theorem z_w_set {g : zG} {ad : Nat → Nat} {h : zH} {i : Nat} {e : va_E} : z_w g ad (h.set i e) = (z_w g ad h).set i (ad i, z_e g ad e) := by
  apply List.ext_getElem?
  intro j
  simp only [z_w, List.getElem?_mapIdx, List.getElem?_set, List.length_mapIdx]
  by_cases hij : i = j
  · subst hij
    by_cases hl : i < h.length
    · simp [hl]
    · simp [hl]
  · simp [hij]
theorem z_wv_mono {n n' : Nat} {v : Value} (hn : n ≤ n') (h : z_wv n v) : z_wv n' v := fun i hi => Nat.lt_of_lt_of_le (h i hi) hn
theorem z_we_mono {n n' : Nat} {e : va_E} (hn : n ≤ n') (h : z_we n e) : z_we n' e := by
  cases e with
  | inl a => exact fun f hf j i hi => Nat.lt_of_lt_of_le (h f hf j i hi) hn
  | inr o => exact fun v hv => z_wv_mono hn (h v hv)
theorem z_v_agree {g : zG} {ad ad' : Nat → Nat} {n : Nat} {v : Value} (ha : ∀ i, i < n → ad' i = ad i) (h : z_wv n v) : z_v g ad' v = z_v g ad v := by
  cases v with
  | ref i => simp [z_v, ha i (h i rfl)]
  | _ => rfl
theorem z_e_agree {g : zG} {ad ad' : Nat → Nat} {n : Nat} {e : va_E} (ha : ∀ i, i < n → ad' i = ad i) (h : z_we n e) : z_e g ad' e = z_e g ad e := by
  cases e with
  | inl a =>
    obtain ⟨c, k, x⟩ := a
    match x, h with
    | .inl f, _ => rfl
    | .inr (.inl f), _ => rfl
    | .inr (.inr (.inl f)), _ => rfl
    | .inr (.inr (.inr (.inl f))), _ => rfl
    | .inr (.inr (.inr (.inr f))), h =>
      have hf : (fun j => (f j).map ad') = (fun j => (f j).map ad) := by
        funext j
        cases hj : f j with
        | none => rfl
        | some i => simp [ha i (h f rfl j i hj)]
      simp only [z_e, z_ar, hf]
  | inr o =>
    have hm : o.2.map (z_v g ad') = o.2.map (z_v g ad) := List.map_congr_left (fun v hv => z_v_agree ha (h v hv))
    simp only [z_e, hm]
theorem z_w_agree {g : zG} {ad ad' : Nat → Nat} {h : zH} (ha : ∀ i, i < h.length → ad' i = ad i) (hw : z_wh h) : z_w g ad' h = z_w g ad h := by
  apply List.ext_getElem?
  intro j
  simp only [z_w, List.getElem?_mapIdx]
  cases hj : h[j]? with
  | none => rfl
  | some e =>
    have hl : j < h.length := (List.getElem?_eq_some_iff.mp hj).1
    simp [ha j hl, z_e_agree (g := g) ha (hw j e hj)]
theorem z_w_push {g : zG} {ad ad' : Nat → Nat} {h : zH} {e : va_E} (ha : ∀ i, i < h.length → ad' i = ad i) (hw : z_wh h) : z_w g ad' (h ++ [e]) = z_w g ad h ++ [(ad' h.length, z_e g ad' e)] := by
  rw [← z_w_agree ha hw]
  simp [z_w, List.mapIdx_append]
theorem z_wh_set {h : zH} {i : Nat} {e : va_E} (hw : z_wh h) (he : z_we h.length e) : z_wh (h.set i e) := by
  intro j e' hj
  rw [List.length_set]
  rw [List.getElem?_set] at hj
  by_cases hij : i = j
  · rw [if_pos hij] at hj
    by_cases hl : i < h.length
    · rw [if_pos hl] at hj
      exact (Option.some.inj hj) ▸ he
    · rw [if_neg hl] at hj
      cases hj
  · rw [if_neg hij] at hj
    exact hw j e' hj
theorem z_wh_push {h : zH} {e : va_E} (hw : z_wh h) (he : z_we (h.length + 1) e) : z_wh (h ++ [e]) := by
  intro j e' hj
  rw [List.length_append]
  rcases Nat.lt_or_ge j h.length with hl | hl
  · rw [List.getElem?_append_left hl] at hj
    exact z_we_mono (by simp) (hw j e' hj)
  · rw [List.getElem?_append_right hl] at hj
    have hz : j - h.length = 0 := by
      have := (List.getElem?_eq_some_iff.mp hj).1
      simp at this
      omega
    rw [hz] at hj
    simp at hj
    subst hj
    simpa using he
/-- the address book with one more entry -/
def z_up (ad : Nat → Nat) (n q : Nat) : Nat → Nat := fun i => if i = n then q else ad i
theorem z_up_old {ad : Nat → Nat} {n q : Nat} : ∀ i, i < n → z_up ad n q i = ad i := fun i hi => by simp [z_up, Nat.ne_of_lt hi]
theorem z_up_new {ad : Nat → Nat} {n q : Nat} : z_up ad n q n = q := by simp [z_up]
