def z_fit (ty : FieldType) (v : Value) : Prop := ∀ (g : zG) (ad : Nat → Nat), narrow ty (z_v g ad v) = z_v g ad v ∧ fits ty (z_v g ad v) = true
theorem zf_i {x : Int32} : z_fit .int (.int x) := fun _ _ => ⟨rfl, rfl⟩
theorem zf_l {x : Int64} : z_fit .long (.long x) := fun _ _ => ⟨rfl, rfl⟩
theorem zf_z0 : z_fit .boolean (.int 0) := fun _ _ => ⟨rfl, rfl⟩
theorem zf_z1 : z_fit .boolean (.int 1) := fun _ _ => ⟨rfl, rfl⟩
theorem zf_z {x : Int32} (h : x = 0 ∨ x = 1) : z_fit .boolean (.int x) := by
  rcases h with rfl | rfl
  · exact zf_z0
  · exact zf_z1
theorem zf_o {c : String} {i : Nat} : z_fit (.object c) (.ref i) := fun _ _ => ⟨rfl, rfl⟩
theorem zf_a {t : FieldType} {i : Nat} : z_fit (.array t) (.ref i) := fun _ _ => ⟨rfl, rfl⟩
theorem zf_on {c : String} : z_fit (.object c) .null := fun _ _ => ⟨rfl, rfl⟩
theorem zf_an {t : FieldType} : z_fit (.array t) .null := fun _ _ => ⟨rfl, rfl⟩
theorem z_tys_at {g : zG} {t : Nat} {ty : FieldType} (ht : zTy[t]? = some ty) : (z_tys g)[t]? = some (g.2.2.1 t, ty) := by simp [z_tys, List.getElem?_mapIdx, ht]
theorem z_same_class {s : State} {a b : ClassId} {ty : FieldType} (h1 : va_RA s a ty) (h2 : va_RA s b ty) : a = b := by
  cases ty with
  | object C =>
    obtain ⟨_, _, _, _, _, e1⟩ := h1
    obtain ⟨_, _, _, _, _, e2⟩ := h2
    exact Option.some.inj (e1.symm.trans e2)
  | _ => exact Option.some.inj (Eq.trans (Eq.symm h1) h2)
theorem zAt.new {g : zG} {A : Nat → Prop} {s : State} {ad : Nat → Nat} {h : zH} {H H1 : Heap} {locs : List Loc} {q : Nat} {e : va_E} (T : zAt g A s ad h H locs) (hw : z_we (h.length + 1) e) (hP : va_P g.2.1 vwCl (z_w g ad h ++ [(q, z_e g (z_up ad h.length q) e)]) H1) (hD : va_D A (z_w g ad h ++ [(q, z_e g (z_up ad h.length q) e)])) (hS : va_S A s.heap H1 locs) : zAt g A s (z_up ad h.length q) (h ++ [e]) H1 locs := by
  have he : z_w g (z_up ad h.length q) (h ++ [e]) = z_w g ad h ++ [(q, z_e g (z_up ad h.length q) e)] := by
    rw [z_w_push (ad' := z_up ad h.length q) (fun i hi => z_up_old i hi) T.1, z_up_new]
  refine ⟨z_wh_push T.1 hw, ?_, ?_, hS⟩
  · rw [he]; exact hP
  · rw [he]; exact hD
theorem z_st_up {g : zG} {ad : Nat → Nat} {n q : Nat} {st : List Value} (S : ∀ v ∈ st, z_wv n v) : st.map (z_v g (z_up ad n q)) = st.map (z_v g ad) := List.map_congr_left (fun v hv => z_v_agree (fun i hi => z_up_old i hi) (S v hv))
theorem zAt.set {g : zG} {A : Nat → Prop} {s : State} {ad : Nat → Nat} {h : zH} {H H1 : Heap} {locs locs1 : List Loc} {i : Nat} {e : va_E} (T : zAt g A s ad h H locs) (hw : z_we h.length e) (hP : va_P g.2.1 vwCl ((z_w g ad h).set i (ad i, z_e g ad e)) H1) (hD : va_D A ((z_w g ad h).set i (ad i, z_e g ad e))) (hS : va_S A s.heap H1 locs1) : zAt g A s ad (h.set i e) H1 locs1 := by
  refine ⟨z_wh_set T.1 hw, ?_, ?_, hS⟩
  · rw [z_w_set]; exact hP
  · rw [z_w_set]; exact hD
theorem z_cb {N : Nat} {ty : FieldType} (h8 : componentBytes ty ≤ 8) (hb : N ≤ 60000000) : N * componentBytes ty ≤ 536870912 := Nat.le_trans (Nat.mul_le_mul hb h8) (by decide)
theorem z_we_i {n t k : Nat} {f : Nat → Int32} : z_we n (.inl (t, k, .inl f)) := fun _ hf => by cases hf
theorem z_we_l {n t k : Nat} {f : Nat → Int64} : z_we n (.inl (t, k, .inr (.inl f))) := fun _ hf => by cases hf
theorem zLs.len {g : zG} {ad : Nat → Nat} {nL n n' : Nat} {ls : zL} {lsC : Array Slot} (L : zLs g ad nL n ls lsC) (hn : n' = n) : zLs g ad nL n' ls lsC := hn ▸ L
section ZR
variable {g : zG} {d κ σ : Nat} {m : zMe} {pc : Nat} {ls : zL} {st : List Value} {h : zH} {Q : Option Value → zH → Prop}
theorem x_get {n ci k i : Nat} {ty : FieldType} {fin : Bool} {fs : List Value} {v : Value} (hf : zFd m.1.cls n ci k ty fin) (he : h[i]? = some (.inr (ci, fs))) (hv : fs[k]? = some v) (hd : decode m.2.1 pc = .ok (.getfield n, 3)) (kk : Zw g d κ σ m (pc + 3) ls (v :: st) h Q) : Zw g d κ σ m pc ls (.ref i :: st) h Q := by
  intro p e R s mid args below meth c H locs cells slots mc ms Z A ad lsC O T L S r1 r2 r3 r4 r5 r6 K
  obtain ⟨Cn, Tn, N, ty0, hc, hk, hin, hty, hnm, hpd, hfin, hdecl, hl⟩ := hf
  have hw : z_wv h.length v := T.1 i _ he v (List.mem_of_getElem? hv)
  have hv' : (fs.map (z_v g ad))[k]? = some (z_v g ad v) := by rw [List.getElem?_map, hv]; rfl
  have nx := (kk p e R s mid args below meth c H locs cells slots mc ms Z A ad lsC O T L (z_pu hw (z_tl S)) r1 r2 r3 r4 r5 r6 K)
  rcases hl with hl | ⟨host, hl⟩
  · exact va_get O.1 O.2.1 O.2.2.2.2.1 hin O.2.2.2.1 O.2.2.2.2.2.1.2.1 T.2.1 i (z_w_get he) hc k hk (O.2.2.2.2.1 _ hl) (fun _ h9 => h9) hv' hd nx
  · exact va_getN O.1 O.2.1 O.2.2.2.2.1 hin O.2.2.2.1 O.2.2.2.2.2.1.2.1 T.2.1 i (z_w_get he) hc k hk (va_Nw.use rfl (O.2.2.2.2.2.1.1 _ hl)) (fun _ h9 => h9) hv' hd nx
theorem x_put {n ci k i : Nat} {ty : FieldType} {fs : List Value} {v : Value} (hf : zFd m.1.cls n ci k ty false) (he : h[i]? = some (.inr (ci, fs))) (hz : z_fit ty v) (hkl : k < fs.length) (hd : decode m.2.1 pc = .ok (.putfield n, 3)) (kk : Zw g d κ σ m (pc + 3) ls st (h.set i (.inr (ci, fs.set k v))) Q) : Zw g d κ σ m pc ls (v :: .ref i :: st) h Q := by
  intro p e R s mid args below meth c H locs cells slots mc ms Z A ad lsC O T L S r1 r2 r3 r4 r5 r6 K
  obtain ⟨Cn, Tn, N, ty0, hc, hk, hin, hty, hnm, hpd, hfin, hdecl, hl⟩ := hf
  have hw : z_we h.length (.inr (ci, fs.set k v)) := fun w hw => by
    rcases List.mem_or_eq_of_mem_set hw with q | q
    · exact T.1 i _ he w q
    · rw [q]; exact z_hd S
  have hl' : k < (fs.map (z_v g ad)).length := by rw [List.length_map]; exact hkl
  have em : z_e g ad (.inr (ci, fs.set k v)) = .inr (ci, (fs.map (z_v g ad)).set k (z_v g ad v)) := by simp [z_e, List.map_set]
  have hlen : (h.set i (.inr (ci, fs.set k v))).length = h.length := List.length_set
  have nx := fun (H1 : Heap) (locs1 : List Loc) (hP : va_P g.2.1 vwCl ((z_w g ad h).set i (ad i, .inr (ci, (fs.map (z_v g ad)).set k (z_v g ad v)))) H1) (hD : va_D A ((z_w g ad h).set i (ad i, .inr (ci, (fs.map (z_v g ad)).set k (z_v g ad v))))) (hS : va_S A s.heap H1 locs1) => (kk p e R s mid args below meth c H1 locs1 cells slots mc ms Z A ad lsC O (T.set hw (by rw [em]; exact hP) (by rw [em]; exact hD) hS) (L.len hlen) (by rw [hlen]; exact z_tl (z_tl S)) r1 r2 r3 r4 r5 r6 (K.mono (by rw [hlen]; exact Nat.le_refl _) (fun _ _ => rfl)))
  rcases hl with hl | ⟨host, hl⟩
  · exact va_put O.1 O.2.1 O.2.2.2.2.1 hin ty0 hty hnm O.2.2.2.1 O.2.2.2.2.2.1.2.1 T.2.1 T.2.2.1 T.2.2.2 i (z_w_get he) hc k hk (O.2.2.2.2.1 _ hl) (fun _ h9 => h9) hfin hpd (hz g ad).1 (hz g ad).2 hl' hd nx
  · exact va_putN O.1 O.2.1 O.2.2.2.2.1 hin ty0 hty hnm O.2.2.2.1 O.2.2.2.2.2.1.2.1 T.2.1 T.2.2.1 T.2.2.2 i (z_w_get he) hc k hk (va_Nw.use rfl (O.2.2.2.2.2.1.1 _ hl)) (fun _ h9 => h9) hfin hpd (hz g ad).1 (hz g ad).2 hl' hd nx
theorem x_putF {n ci k i : Nat} {ty : FieldType} {fs : List Value} {v : Value} (hf : zFp m.1.cls n ci k ty) (hini : m.1.name = "<init>") (he : h[i]? = some (.inr (ci, fs))) (hz : z_fit ty v) (hkl : k < fs.length) (hd : decode m.2.1 pc = .ok (.putfield n, 3)) (kk : Zw g d κ σ m (pc + 3) ls st (h.set i (.inr (ci, fs.set k v))) Q) : Zw g d κ σ m pc ls (v :: .ref i :: st) h Q := by
  intro p e R s mid args below meth c H locs cells slots mc ms Z A ad lsC O T L S r1 r2 r3 r4 r5 r6 K
  obtain ⟨Tn, N, ty0, hc, hk, hin, hty, hnm, hpd, hfin, hdecl, hl⟩ := hf
  have hw : z_we h.length (.inr (ci, fs.set k v)) := fun w hw => by
    rcases List.mem_or_eq_of_mem_set hw with q | q
    · exact T.1 i _ he w q
    · rw [q]; exact z_hd S
  have hl' : k < (fs.map (z_v g ad)).length := by rw [List.length_map]; exact hkl
  have em : z_e g ad (.inr (ci, fs.set k v)) = .inr (ci, (fs.map (z_v g ad)).set k (z_v g ad v)) := by simp [z_e, List.map_set]
  have hlen : (h.set i (.inr (ci, fs.set k v))).length = h.length := List.length_set
  have nx := fun (H1 : Heap) (locs1 : List Loc) (hP : va_P g.2.1 vwCl ((z_w g ad h).set i (ad i, .inr (ci, (fs.map (z_v g ad)).set k (z_v g ad v)))) H1) (hD : va_D A ((z_w g ad h).set i (ad i, .inr (ci, (fs.map (z_v g ad)).set k (z_v g ad v))))) (hS : va_S A s.heap H1 locs1) => (kk p e R s mid args below meth c H1 locs1 cells slots mc ms Z A ad lsC O (T.set hw (by rw [em]; exact hP) (by rw [em]; exact hD) hS) (L.len hlen) (by rw [hlen]; exact z_tl (z_tl S)) r1 r2 r3 r4 r5 r6 (K.mono (by rw [hlen]; exact Nat.le_refl _) (fun _ _ => rfl)))
  exact va_putF O.1 O.2.1 O.2.2.2.2.1 hin ty0 hty hnm O.2.2.2.1 O.2.2.2.2.2.1.2.1 T.2.1 T.2.2.1 T.2.2.2 i (z_w_get he) hc k hk (O.2.2.2.2.1 _ hl) (fun _ h9 => h9) hfin (O.2.2.2.2.2.2.2.2.2.2.trans hini) hdecl hpd (hz g ad).1 (hz g ad).2 hl' hd nx
theorem x_iald {i n : Nat} {f : Nat → Int32} {j v : Int32} (he : h[i]? = some (.inl (0, n, .inl f))) (hin : vp_in j n) (hv : f j.toNatClampNeg = v) (hd : decode m.2.1 pc = .ok (.iaload, 1)) (kk : Zw g d κ σ m (pc + 1) ls (.int v :: st) h Q) : Zw g d κ σ m pc ls (.int j :: .ref i :: st) h Q := by
  subst hv
  intro p e R s mid args below meth c H locs cells slots mc ms Z A ad lsC O T L S r1 r2 r3 r4 r5 r6 K
  exact va_iald O.1 O.2.1 O.2.2.2.2.2.1.2.1 T.2.1 i 0 (z_w_get he) (z_tys_at rfl) hin hd (kk p e R s mid args below meth c H locs cells slots mc ms Z A ad lsC O T L (z_pu z_wi (z_tl (z_tl S))) r1 r2 r3 r4 r5 r6 K)
theorem x_bald {i n : Nat} {f : Nat → Int32} {j v : Int32} (he : h[i]? = some (.inl (1, n, .inl f))) (hin : vp_in j n) (hv : f j.toNatClampNeg = v) (hd : decode m.2.1 pc = .ok (.baload, 1)) (kk : Zw g d κ σ m (pc + 1) ls (.int v :: st) h Q) : Zw g d κ σ m pc ls (.int j :: .ref i :: st) h Q := by
  subst hv
  intro p e R s mid args below meth c H locs cells slots mc ms Z A ad lsC O T L S r1 r2 r3 r4 r5 r6 K
  exact va_bald O.1 O.2.1 O.2.2.2.2.2.1.2.1 T.2.1 i 1 (z_w_get he) (z_tys_at rfl) hin hd (kk p e R s mid args below meth c H locs cells slots mc ms Z A ad lsC O T L (z_pu z_wi (z_tl (z_tl S))) r1 r2 r3 r4 r5 r6 K)
theorem x_zald {i n : Nat} {f : Nat → Int32} {j v : Int32} (he : h[i]? = some (.inl (3, n, .inl f))) (hin : vp_in j n) (hv : f j.toNatClampNeg = v) (hd : decode m.2.1 pc = .ok (.baload, 1)) (kk : Zw g d κ σ m (pc + 1) ls (.int v :: st) h Q) : Zw g d κ σ m pc ls (.int j :: .ref i :: st) h Q := by
  subst hv
  intro p e R s mid args below meth c H locs cells slots mc ms Z A ad lsC O T L S r1 r2 r3 r4 r5 r6 K
  exact va_zald O.1 O.2.1 O.2.2.2.2.2.1.2.1 T.2.1 i 3 (z_w_get he) (z_tys_at rfl) hin hd (kk p e R s mid args below meth c H locs cells slots mc ms Z A ad lsC O T L (z_pu z_wi (z_tl (z_tl S))) r1 r2 r3 r4 r5 r6 K)
theorem x_lald {i n : Nat} {f : Nat → Int64} {j : Int32} {v : Int64} (he : h[i]? = some (.inl (2, n, .inr (.inl f)))) (hin : vp_in j n) (hv : f j.toNatClampNeg = v) (hd : decode m.2.1 pc = .ok (.laload, 1)) (kk : Zw g d κ σ m (pc + 1) ls (.long v :: st) h Q) : Zw g d κ σ m pc ls (.int j :: .ref i :: st) h Q := by
  subst hv
  intro p e R s mid args below meth c H locs cells slots mc ms Z A ad lsC O T L S r1 r2 r3 r4 r5 r6 K
  exact va_lald O.1 O.2.1 O.2.2.2.2.2.1.2.1 T.2.1 i 2 (z_w_get he) (z_tys_at rfl) hin hd (kk p e R s mid args below meth c H locs cells slots mc ms Z A ad lsC O T L (z_pu z_wl (z_tl (z_tl S))) r1 r2 r3 r4 r5 r6 K)
theorem x_aald {t i n q : Nat} {Cn : String} {f : Nat → Option Nat} {j : Int32} (ht : zTy[t]? = some (.object Cn)) (he : h[i]? = some (.inl (t, n, .inr (.inr (.inr (.inr f)))))) (hin : vp_in j n) (hv : f j.toNatClampNeg = some q) (hd : decode m.2.1 pc = .ok (.aaload, 1)) (kk : Zw g d κ σ m (pc + 1) ls (.ref q :: st) h Q) : Zw g d κ σ m pc ls (.int j :: .ref i :: st) h Q := by
  intro p e R s mid args below meth c H locs cells slots mc ms Z A ad lsC O T L S r1 r2 r3 r4 r5 r6 K
  have hw : z_wv h.length (.ref q) := fun a ha => by cases ha; exact T.1 i _ he f rfl _ _ hv
  have nx := (kk p e R s mid args below meth c H locs cells slots mc ms Z A ad lsC O T L (z_pu hw (z_tl (z_tl S))) r1 r2 r3 r4 r5 r6 K)
  refine va_aldq O.1 O.2.1 O.2.2.2.2.2.1.2.1 T.2.1 i t (z_w_get he) (z_tys_at ht) hin hd ?_
  rw [hv]
  exact nx
theorem x_iast {i n : Nat} {f : Nat → Int32} {j : Int32} {x : Int32} (he : h[i]? = some (.inl (0, n, .inl f))) (hin : vp_in j n) (hd : decode m.2.1 pc = .ok (.iastore, 1)) (kk : Zw g d κ σ m (pc + 1) ls st (h.set i (.inl (0, n, .inl (upd f j.toNatClampNeg x)))) Q) : Zw g d κ σ m pc ls (.int x :: .int j :: .ref i :: st) h Q := by
  intro p e R s mid args below meth c H locs cells slots mc ms Z A ad lsC O T L S r1 r2 r3 r4 r5 r6 K
  have hlen : (h.set i (.inl (0, n, .inl (upd f j.toNatClampNeg x)))).length = h.length := List.length_set
  exact va_iast O.1 O.2.1 O.2.2.2.2.2.1.2.1 T.2.1 T.2.2.1 T.2.2.2 i 0 (z_w_get he) (z_tys_at rfl) hin hd (fun H1 locs1 hP hD hS => (kk p e R s mid args below meth c H1 locs1 cells slots mc ms Z A ad lsC O (T.set z_we_i hP hD hS) (L.len hlen) (by rw [hlen]; exact z_tl (z_tl (z_tl S))) r1 r2 r3 r4 r5 r6 (K.mono (by rw [hlen]; exact Nat.le_refl _) (fun _ _ => rfl))))
theorem x_bast {i n : Nat} {f : Nat → Int32} {j : Int32} {x : Int32} (he : h[i]? = some (.inl (1, n, .inl f))) (hin : vp_in j n) (hd : decode m.2.1 pc = .ok (.bastore, 1)) (kk : Zw g d κ σ m (pc + 1) ls st (h.set i (.inl (1, n, .inl (upd f j.toNatClampNeg (vp_nar .byte x))))) Q) : Zw g d κ σ m pc ls (.int x :: .int j :: .ref i :: st) h Q := by
  intro p e R s mid args below meth c H locs cells slots mc ms Z A ad lsC O T L S r1 r2 r3 r4 r5 r6 K
  have hlen : (h.set i (.inl (1, n, .inl (upd f j.toNatClampNeg (vp_nar .byte x))))).length = h.length := List.length_set
  exact va_bast O.1 O.2.1 O.2.2.2.2.2.1.2.1 T.2.1 T.2.2.1 T.2.2.2 i 1 (z_w_get he) (z_tys_at rfl) hin hd (fun H1 locs1 hP hD hS => (kk p e R s mid args below meth c H1 locs1 cells slots mc ms Z A ad lsC O (T.set z_we_i hP hD hS) (L.len hlen) (by rw [hlen]; exact z_tl (z_tl (z_tl S))) r1 r2 r3 r4 r5 r6 (K.mono (by rw [hlen]; exact Nat.le_refl _) (fun _ _ => rfl))))
theorem x_zast {i n : Nat} {f : Nat → Int32} {j : Int32} {x : Int32} (he : h[i]? = some (.inl (3, n, .inl f))) (hin : vp_in j n) (hd : decode m.2.1 pc = .ok (.bastore, 1)) (kk : Zw g d κ σ m (pc + 1) ls st (h.set i (.inl (3, n, .inl (upd f j.toNatClampNeg (vp_nar .boolean x))))) Q) : Zw g d κ σ m pc ls (.int x :: .int j :: .ref i :: st) h Q := by
  intro p e R s mid args below meth c H locs cells slots mc ms Z A ad lsC O T L S r1 r2 r3 r4 r5 r6 K
  have hlen : (h.set i (.inl (3, n, .inl (upd f j.toNatClampNeg (vp_nar .boolean x))))).length = h.length := List.length_set
  exact va_zast O.1 O.2.1 O.2.2.2.2.2.1.2.1 T.2.1 T.2.2.1 T.2.2.2 i 3 (z_w_get he) (z_tys_at rfl) hin hd (fun H1 locs1 hP hD hS => (kk p e R s mid args below meth c H1 locs1 cells slots mc ms Z A ad lsC O (T.set z_we_i hP hD hS) (L.len hlen) (by rw [hlen]; exact z_tl (z_tl (z_tl S))) r1 r2 r3 r4 r5 r6 (K.mono (by rw [hlen]; exact Nat.le_refl _) (fun _ _ => rfl))))
theorem x_last {i n : Nat} {f : Nat → Int64} {j : Int32} {x : Int64} (he : h[i]? = some (.inl (2, n, .inr (.inl f)))) (hin : vp_in j n) (hd : decode m.2.1 pc = .ok (.lastore, 1)) (kk : Zw g d κ σ m (pc + 1) ls st (h.set i (.inl (2, n, .inr (.inl (vp_updL f j.toNatClampNeg x))))) Q) : Zw g d κ σ m pc ls (.long x :: .int j :: .ref i :: st) h Q := by
  intro p e R s mid args below meth c H locs cells slots mc ms Z A ad lsC O T L S r1 r2 r3 r4 r5 r6 K
  have hlen : (h.set i (.inl (2, n, .inr (.inl (vp_updL f j.toNatClampNeg x))))).length = h.length := List.length_set
  exact va_last O.1 O.2.1 O.2.2.2.2.2.1.2.1 T.2.1 T.2.2.1 T.2.2.2 i 2 (z_w_get he) (z_tys_at rfl) hin hd (fun H1 locs1 hP hD hS => (kk p e R s mid args below meth c H1 locs1 cells slots mc ms Z A ad lsC O (T.set z_we_l hP hD hS) (L.len hlen) (by rw [hlen]; exact z_tl (z_tl (z_tl S))) r1 r2 r3 r4 r5 r6 (K.mono (by rw [hlen]; exact Nat.le_refl _) (fun _ _ => rfl))))
theorem x_aast {t i n q ci : Nat} {vs : List Value} {r : vw_C} {f : Nat → Option Nat} {j : Int32} (ht : zTy[t]? = some (.object r.1)) (hc : vwCl[ci]? = some r) (he : h[i]? = some (.inl (t, n, .inr (.inr (.inr (.inr f)))))) (hv : h[q]? = some (.inr (ci, vs))) (hin : vp_in j n) (hd : decode m.2.1 pc = .ok (.aastore, 1)) (kk : Zw g d κ σ m (pc + 1) ls st (h.set i (.inl (t, n, .inr (.inr (.inr (.inr (va_up f j.toNatClampNeg (some q)))))))) Q) : Zw g d κ σ m pc ls (.ref q :: .int j :: .ref i :: st) h Q := by
  intro p e R s mid args below meth c H locs cells slots mc ms Z A ad lsC O T L S r1 r2 r3 r4 r5 r6 K
  have hlen : (h.set i (.inl (t, n, .inr (.inr (.inr (.inr (va_up f j.toNatClampNeg (some q)))))))).length = h.length := List.length_set
  have hw : z_we h.length (.inl (t, n, .inr (.inr (.inr (.inr (va_up f j.toNatClampNeg (some q))))))) := fun f' hf' a b hb => by
    cases hf'
    unfold va_up at hb
    split at hb
    · cases hb; exact (z_hd S) _ rfl
    · exact T.1 i _ he f rfl _ _ hb
  have em : z_e g ad (.inl (t, n, .inr (.inr (.inr (.inr (va_up f j.toNatClampNeg (some q))))))) = .inl (g.2.2.1 t, n, .inr (.inr (.inr (.inr (va_up (fun a => (f a).map ad) j.toNatClampNeg (some (ad q))))))) := by
    have : (fun a => (va_up f j.toNatClampNeg (some q) a).map ad) = va_up (fun a => (f a).map ad) j.toNatClampNeg (some (ad q)) := by
      funext a
      unfold va_up
      split <;> rfl
    simp only [z_e, z_ar, this]
  exact va_astq O.1 O.2.1 O.2.2.2.2.2.1.2.1 T.2.1 T.2.2.1 T.2.2.2 i t q ci (z_w_get he) (z_tys_at ht) (z_w_get hv) hc hin hd (fun H1 locs1 hP hD hS => (kk p e R s mid args below meth c H1 locs1 cells slots mc ms Z A ad lsC O (T.set hw (by rw [em]; exact hP) (by rw [em]; exact hD) hS) (L.len hlen) (by rw [hlen]; exact z_tl (z_tl (z_tl S))) r1 r2 r3 r4 r5 r6 (K.mono (by rw [hlen]; exact Nat.le_refl _) (fun _ _ => rfl))))
theorem x_alen {i t n : Nat} {x} {ty : FieldType} {v : Int32} (ht : zTy[t]? = some ty) (he : h[i]? = some (.inl (t, n, x))) (hv : Int32.ofNat n = v) (hd : decode m.2.1 pc = .ok (.arraylength, 1)) (kk : Zw g d κ σ m (pc + 1) ls (.int v :: st) h Q) : Zw g d κ σ m pc ls (.ref i :: st) h Q := by
  intro p e R s mid args below meth c H locs cells slots mc ms Z A ad lsC O T L S r1 r2 r3 r4 r5 r6 K
  exact va_alen O.1 O.2.1 O.2.2.2.2.2.1.2.1 T.2.1 i t (z_w_get he) (z_tys_at ht) hv hd (kk p e R s mid args below meth c H locs cells slots mc ms Z A ad lsC O T L (z_pu z_wi (z_tl S)) r1 r2 r3 r4 r5 r6 K)
theorem x_new {n ci N : Nat} {Cn : String} {Tn : u_T} {ty0 : Nat → FieldType} {fs : List Value} (hc : vwCl[ci]? = some (Cn, Tn, N)) (hin : ∀ w ∈ u_ws Cn Tn N, w ∈ zTb) (hty : ∀ k, k < N → parseFieldDescriptor (Tn k).2.2.1 = some (ty0 k)) (hcl : Cond.classLink m.1.cls n Cn ∈ zTb) (hinst : Cond.instantiable Cn N ∈ zTb) (hini : Cond.initialized Cn ∈ zTb) (hfs : ∀ j, j < N → defaultValue (ty0 j) = vp_V fs j) (hz : ∀ ad, fs.map (z_v g ad) = fs) (hzw : ∀ v ∈ fs, ∀ i, v ≠ .ref i) (hd : decode m.2.1 pc = .ok (.new n, 3)) (kk : Zw g d κ σ m (pc + 3) ls (.ref h.length :: st) (h ++ [.inr (ci, fs)]) Q) : Zw g d (κ + 1) (σ + N) m pc ls st h Q := by
  intro p e R s mid args below meth c H locs cells slots mc ms Z A ad lsC O T L S r1 r2 r3 r4 r5 r6 K
  have ee : ∀ q, z_e g (z_up ad h.length q) (.inr (ci, fs)) = .inr (ci, fs) := fun q => by simp only [z_e, hz]
  refine va_new O.1 O.2.1 O.2.2.2.2.1 hin ty0 hty O.2.2.2.1 (O.2.2.2.2.1 _ hcl) (O.2.2.2.2.1 _ hinst) (O.2.2.2.2.1 _ hini) O.2.2.2.2.2.1.2.1 T.2.1 T.2.2.1 T.2.2.2 O.2.2.2.2.2.2.2.1 hc hfs (by omega) (by omega) hd (fun q H1 hP hD hS => ?_)
  rw [← ee q] at hP hD
  have nx := (kk p e R s mid args below meth c H1 locs (cells + 1) (slots + N) mc ms Z A (z_up ad h.length q) lsC O (T.new (fun v hv i hi => absurd hi (hzw v hv i)) hP hD hS) (L.move (by simp) (fun i hi => z_up_old i hi)) (z_pu (fun a ha => by cases ha; simp) (fun v hv => z_wv_mono (by simp) (S v hv))) r1 r2 (by omega) (by omega) r5 r6 (K.mono (by simp) (fun i hi => z_up_old i hi)))
  simp only [List.map_cons, z_st_up S, z_v, z_up_new] at nx
  exact nx
theorem x_newa_int {x : Int32} {N : Nat} (hw : Cond.arrayClass .int ∈ zTb) (hx : ¬ x < 0) (hN : x.toNatClampNeg = N) (hb : N ≤ 60000000) (hd : decode m.2.1 pc = .ok (.newarray .int, 2)) (kk : Zw g d κ σ m (pc + 2) ls (.ref h.length :: st) (h ++ [.inl (0, N, .inl (fun _ => (0 : Int32)))]) Q) : Zw g d (κ + 1) (σ + N) m pc ls (.int x :: st) h Q := by
  intro p e R s mid args below meth c H locs cells slots mc ms Z A ad lsC O T L S r1 r2 r3 r4 r5 r6 K
  refine va_newa (a0 := (N, .inl (fun _ => (0 : Int32)))) (ty := .int) O.1 O.2.1 (atype := .int) (O.2.2.2.2.1 _ hw) rfl O.2.2.2.2.2.1.2.1 T.2.1 T.2.2.1 T.2.2.2 O.2.2.2.2.2.2.2.1 (fun _ => rfl) hx hN (z_cb (ty := .int) (by decide) hb) (by omega) (by omega) hd (fun q cA H1 hK hP hD hS => ?_)
  have hcA : cA = g.2.2.1 0 := z_same_class (hK.2 7 (cA, .int) rfl).2 (O.2.2.2.2.2.1.2.1.2 0 (g.2.2.1 0, .int) rfl).2
  subst hcA
  have S := z_tl S
  have nx := (kk p e R s mid args below meth c H1 locs (cells + 1) (slots + N) mc ms Z A (z_up ad h.length q) lsC O (T.new z_we_i hP hD hS) (L.move (by simp) (fun i hi => z_up_old i hi)) (z_pu (fun a ha => by cases ha; simp) (fun v hv => z_wv_mono (by simp) (S v hv))) r1 r2 (by omega) (by omega) r5 r6 (K.mono (by simp) (fun i hi => z_up_old i hi)))
  simp only [List.map_cons, z_st_up S, z_v, z_up_new] at nx
  exact nx
theorem x_newa_byte {x : Int32} {N : Nat} (hw : Cond.arrayClass .byte ∈ zTb) (hx : ¬ x < 0) (hN : x.toNatClampNeg = N) (hb : N ≤ 60000000) (hd : decode m.2.1 pc = .ok (.newarray .byte, 2)) (kk : Zw g d κ σ m (pc + 2) ls (.ref h.length :: st) (h ++ [.inl (1, N, .inl (fun _ => (0 : Int32)))]) Q) : Zw g d (κ + 1) (σ + N) m pc ls (.int x :: st) h Q := by
  intro p e R s mid args below meth c H locs cells slots mc ms Z A ad lsC O T L S r1 r2 r3 r4 r5 r6 K
  refine va_newa (a0 := (N, .inl (fun _ => (0 : Int32)))) (ty := .byte) O.1 O.2.1 (atype := .byte) (O.2.2.2.2.1 _ hw) rfl O.2.2.2.2.2.1.2.1 T.2.1 T.2.2.1 T.2.2.2 O.2.2.2.2.2.2.2.1 (fun _ => rfl) hx hN (z_cb (ty := .byte) (by decide) hb) (by omega) (by omega) hd (fun q cA H1 hK hP hD hS => ?_)
  have hcA : cA = g.2.2.1 1 := z_same_class (hK.2 7 (cA, .byte) rfl).2 (O.2.2.2.2.2.1.2.1.2 1 (g.2.2.1 1, .byte) rfl).2
  subst hcA
  have S := z_tl S
  have nx := (kk p e R s mid args below meth c H1 locs (cells + 1) (slots + N) mc ms Z A (z_up ad h.length q) lsC O (T.new z_we_i hP hD hS) (L.move (by simp) (fun i hi => z_up_old i hi)) (z_pu (fun a ha => by cases ha; simp) (fun v hv => z_wv_mono (by simp) (S v hv))) r1 r2 (by omega) (by omega) r5 r6 (K.mono (by simp) (fun i hi => z_up_old i hi)))
  simp only [List.map_cons, z_st_up S, z_v, z_up_new] at nx
  exact nx
theorem x_newa_long {x : Int32} {N : Nat} (hw : Cond.arrayClass .long ∈ zTb) (hx : ¬ x < 0) (hN : x.toNatClampNeg = N) (hb : N ≤ 60000000) (hd : decode m.2.1 pc = .ok (.newarray .long, 2)) (kk : Zw g d κ σ m (pc + 2) ls (.ref h.length :: st) (h ++ [.inl (2, N, .inr (.inl (fun _ => (0 : Int64))))]) Q) : Zw g d (κ + 1) (σ + N) m pc ls (.int x :: st) h Q := by
  intro p e R s mid args below meth c H locs cells slots mc ms Z A ad lsC O T L S r1 r2 r3 r4 r5 r6 K
  refine va_newa (a0 := (N, .inr (.inl (fun _ => (0 : Int64))))) (ty := .long) O.1 O.2.1 (atype := .long) (O.2.2.2.2.1 _ hw) rfl O.2.2.2.2.2.1.2.1 T.2.1 T.2.2.1 T.2.2.2 O.2.2.2.2.2.2.2.1 (fun _ => rfl) hx hN (z_cb (ty := .long) (by decide) hb) (by omega) (by omega) hd (fun q cA H1 hK hP hD hS => ?_)
  have hcA : cA = g.2.2.1 2 := z_same_class (hK.2 7 (cA, .long) rfl).2 (O.2.2.2.2.2.1.2.1.2 2 (g.2.2.1 2, .long) rfl).2
  subst hcA
  have S := z_tl S
  have nx := (kk p e R s mid args below meth c H1 locs (cells + 1) (slots + N) mc ms Z A (z_up ad h.length q) lsC O (T.new z_we_l hP hD hS) (L.move (by simp) (fun i hi => z_up_old i hi)) (z_pu (fun a ha => by cases ha; simp) (fun v hv => z_wv_mono (by simp) (S v hv))) r1 r2 (by omega) (by omega) r5 r6 (K.mono (by simp) (fun i hi => z_up_old i hi)))
  simp only [List.map_cons, z_st_up S, z_v, z_up_new] at nx
  exact nx
theorem x_newa_boolean {x : Int32} {N : Nat} (hw : Cond.arrayClass .boolean ∈ zTb) (hx : ¬ x < 0) (hN : x.toNatClampNeg = N) (hb : N ≤ 60000000) (hd : decode m.2.1 pc = .ok (.newarray .boolean, 2)) (kk : Zw g d κ σ m (pc + 2) ls (.ref h.length :: st) (h ++ [.inl (3, N, .inl (fun _ => (0 : Int32)))]) Q) : Zw g d (κ + 1) (σ + N) m pc ls (.int x :: st) h Q := by
  intro p e R s mid args below meth c H locs cells slots mc ms Z A ad lsC O T L S r1 r2 r3 r4 r5 r6 K
  refine va_newa (a0 := (N, .inl (fun _ => (0 : Int32)))) (ty := .boolean) O.1 O.2.1 (atype := .boolean) (O.2.2.2.2.1 _ hw) rfl O.2.2.2.2.2.1.2.1 T.2.1 T.2.2.1 T.2.2.2 O.2.2.2.2.2.2.2.1 (fun _ => rfl) hx hN (z_cb (ty := .boolean) (by decide) hb) (by omega) (by omega) hd (fun q cA H1 hK hP hD hS => ?_)
  have hcA : cA = g.2.2.1 3 := z_same_class (hK.2 7 (cA, .boolean) rfl).2 (O.2.2.2.2.2.1.2.1.2 3 (g.2.2.1 3, .boolean) rfl).2
  subst hcA
  have S := z_tl S
  have nx := (kk p e R s mid args below meth c H1 locs (cells + 1) (slots + N) mc ms Z A (z_up ad h.length q) lsC O (T.new z_we_i hP hD hS) (L.move (by simp) (fun i hi => z_up_old i hi)) (z_pu (fun a ha => by cases ha; simp) (fun v hv => z_wv_mono (by simp) (S v hv))) r1 r2 (by omega) (by omega) r5 r6 (K.mono (by simp) (fun i hi => z_up_old i hi)))
  simp only [List.map_cons, z_st_up S, z_v, z_up_new] at nx
  exact nx
theorem x_newq {n t N : Nat} {Cn : String} {x : Int32} (ht : zTy[t]? = some (.object Cn)) (ho : va_AO Cn = va_AO RX7 ∨ va_AO Cn = va_AO RX8 ∨ va_AO Cn = va_AO RX3) (hcl : Cond.classLink m.1.cls n Cn ∈ zTb) (hx : ¬ x < 0) (hN : x.toNatClampNeg = N) (hb : N ≤ 60000000) (hd : decode m.2.1 pc = .ok (.anewarray n, 3)) (kk : Zw g d κ σ m (pc + 3) ls (.ref h.length :: st) (h ++ [.inl (t, N, .inr (.inr (.inr (.inr (fun _ => none)))))]) Q) : Zw g d (κ + 1) (σ + N) m pc ls (.int x :: st) h Q := by
  intro p e R s mid args below meth c H locs cells slots mc ms Z A ad lsC O T L S r1 r2 r3 r4 r5 r6 K
  have hao : va_AO Cn s := by
    obtain ⟨-, -, h3, h4, h5, -⟩ := O.2.2.2.2.2.1
    rcases ho with q | q | q <;> rw [q] <;> assumption
  refine va_newq O.1 O.2.1 O.2.2.2.1 (O.2.2.2.2.1 _ hcl) hao O.2.2.2.2.2.1.2.1 T.2.1 T.2.2.1 T.2.2.2 O.2.2.2.2.2.2.2.1 hx hN (by omega) (by omega) (by omega) hd (fun q cA H1 hK hP hD hS => ?_)
  have hcA : cA = g.2.2.1 t := z_same_class (hK.2 7 (cA, .object Cn) rfl).2 (O.2.2.2.2.2.1.2.1.2 t (g.2.2.1 t, .object Cn) (z_tys_at ht)).2
  subst hcA
  have S := z_tl S
  have nx := (kk p e R s mid args below meth c H1 locs (cells + 1) (slots + N) mc ms Z A (z_up ad h.length q) lsC O (T.new (fun f hf j i hi => by cases hf; cases hi) hP hD hS) (L.move (by simp) (fun i hi => z_up_old i hi)) (z_pu (fun a ha => by cases ha; simp) (fun v hv => z_wv_mono (by simp) (S v hv))) r1 r2 (by omega) (by omega) r5 r6 (K.mono (by simp) (fun i hi => z_up_old i hi)))
  simp only [List.map_cons, z_st_up S, z_v, z_up_new] at nx
  exact nx
end ZR
