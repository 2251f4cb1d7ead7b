section ZR
variable {g : zG} {d κ σ : Nat} {m : zMe} {pc : Nat} {ls : zL} {st : List Value} {h : zH} {Q : Option Value → zH → Prop}
theorem x_gsF (hm : m.1.cls = RX5) (hd : decode m.2.1 pc = .ok (.getstatic 39, 3)) (kk : Zw g d κ σ m (pc + 3) ls (.retAddr 0 :: st) h Q) : Zw g d κ σ m pc ls st h Q := by
  intro p e R s mid args below meth c H locs cells slots mc ms Z A ad lsC O T L S r1 r2 r3 r4 r5 r6 K
  exact va_gets O.1 O.2.1 O.2.2.2.2.2.2.1.1 T.2.2.2 (own := RX5) (by rw [← hm]; exact O.2.2.2.1) (O.2.2.2.2.1 _ kf_FACTORIALS) (fun _ h9 => h9) hd (kk p e R s mid args below meth c H locs cells slots mc ms Z A ad lsC O T L (z_pu z_wf S) r1 r2 r3 r4 r5 r6 K)
theorem x_gsC (hm : m.1.cls = "java/lang/String") (hd : decode m.2.1 pc = .ok (.getstatic 38, 3)) (kk : Zw g d κ σ m (pc + 3) ls (.int 1 :: st) h Q) : Zw g d κ σ m pc ls st h Q := by
  intro p e R s mid args below meth c H locs cells slots mc ms Z A ad lsC O T L S r1 r2 r3 r4 r5 r6 K
  exact va_gets O.1 O.2.1 O.2.2.2.2.2.2.1.2.2.2.2.1 T.2.2.2 (by rw [← hm]; exact O.2.2.2.1) (O.2.2.2.2.1 _ kf_COMPACT_STRINGS) (fun _ h9 => h9) hd (kk p e R s mid args below meth c H locs cells slots mc ms Z A ad lsC O T L (z_pu z_wi S) r1 r2 r3 r4 r5 r6 K)
theorem x_gsP (hm : m.1.cls = "java/lang/String") (hd : decode m.2.1 pc = .ok (.getstatic 1053, 3)) (kk : ∀ v, v = .null ∨ v = .retAddr 2 → Zw g d κ σ m (pc + 3) ls (v :: st) h Q) : Zw g d κ σ m pc ls st h Q := by
  intro p e R s mid args below meth c H locs cells slots mc ms Z A ad lsC O T L S r1 r2 r3 r4 r5 r6 K
  rcases O.2.2.2.2.2.2.1.2.2.2.2.2 with hz | hz
  · exact va_gets O.1 O.2.1 hz T.2.2.2 (by rw [← hm]; exact O.2.2.2.1) (O.2.2.2.2.1 _ kf_SIOOBE_FORMATTER) (fun _ h9 => h9) hd (kk .null (Or.inl rfl) p e R s mid args below meth c H locs cells slots mc ms Z A ad lsC O T L (z_pu z_wn S) r1 r2 r3 r4 r5 r6 K)
  · exact va_gets O.1 O.2.1 hz T.2.2.2 (by rw [← hm]; exact O.2.2.2.1) (O.2.2.2.2.1 _ kf_SIOOBE_FORMATTER) (fun _ h9 => h9) hd (kk (.retAddr 2) (Or.inr rfl) p e R s mid args below meth c H locs cells slots mc ms Z A ad lsC O T L (z_pu z_wf S) r1 r2 r3 r4 r5 r6 K)
theorem x_fac {j : Nat} {x v : Int32} (hx : x = nI j) (hj : j < 7) (hv : zFac j = v) (hd : decode m.2.1 pc = .ok (.iaload, 1)) (kk : Zw g d κ σ m (pc + 1) ls (.int v :: st) h Q) : Zw g d κ σ m pc ls (.int x :: .retAddr 0 :: st) h Q := by
  subst hx
  subst hv
  intro p e R s mid args below meth c H locs cells slots mc ms Z A ad lsC O T L S r1 r2 r3 r4 r5 r6 K
  exact va_ti O.1 O.2.1 O.2.2.2.2.2.2.1.2.1 T.2.2.2 (vp_in_nI hj (by decide)) (by rw [nI_clamp (by omega)]; rfl) hd (kk p e R s mid args below meth c H locs cells slots mc ms Z A ad lsC O T L (z_pu z_wi (z_tl (z_tl S))) r1 r2 r3 r4 r5 r6 K)
theorem x_scr {x : Int32} {v : Int32} (hin : vp_in x g.2.2.2.2.1) (hv : g.2.2.2.2.2 x.toNatClampNeg = v) (hd : decode m.2.1 pc = .ok (.iaload, 1)) (kk : Zw g d κ σ m (pc + 1) ls (.int v :: st) h Q) : Zw g d κ σ m pc ls (.int x :: .retAddr 1 :: st) h Q := by
  subst hv
  intro p e R s mid args below meth c H locs cells slots mc ms Z A ad lsC O T L S r1 r2 r3 r4 r5 r6 K
  exact va_ti O.1 O.2.1 O.2.2.2.2.2.2.1.2.2.1 T.2.2.2 hin rfl hd (kk p e R s mid args below meth c H locs cells slots mc ms Z A ad lsC O T L (z_pu z_wi (z_tl (z_tl S))) r1 r2 r3 r4 r5 r6 K)
theorem x_scl {v : Int32} (hv : Int32.ofNat g.2.2.2.2.1 = v) (hd : decode m.2.1 pc = .ok (.arraylength, 1)) (kk : Zw g d κ σ m (pc + 1) ls (.int v :: st) h Q) : Zw g d κ σ m pc ls (.retAddr 1 :: st) h Q := by
  intro p e R s mid args below meth c H locs cells slots mc ms Z A ad lsC O T L S r1 r2 r3 r4 r5 r6 K
  exact va_tlen O.1 O.2.1 O.2.2.2.2.2.2.1.2.2.1 T.2.2.2 hv hd (kk p e R s mid args below meth c H locs cells slots mc ms Z A ad lsC O T L (z_pu z_wi (z_tl S)) r1 r2 r3 r4 r5 r6 K)
theorem x_sby {i : Nat} (hi : i < 4) {x v : Int32} (hin : vp_in x (zByt.getD i []).length) (hv : (zByt.getD i []).getD x.toNatClampNeg 0 = v) (hd : decode m.2.1 pc = .ok (.baload, 1)) (kk : Zw g d κ σ m (pc + 1) ls (.int v :: st) h Q) : Zw g d κ σ m pc ls (.int x :: .retAddr (20 + i) :: st) h Q := by
  subst hv
  intro p e R s mid args below meth c H locs cells slots mc ms Z A ad lsC O T L S r1 r2 r3 r4 r5 r6 K
  exact va_tb O.1 O.2.1 (O.2.2.2.2.2.2.1.2.2.2.1 i hi).2.2.2 T.2.2.2 hin rfl hd (kk p e R s mid args below meth c H locs cells slots mc ms Z A ad lsC O T L (z_pu z_wi (z_tl (z_tl S))) r1 r2 r3 r4 r5 r6 K)
theorem x_sbl {i : Nat} (hi : i < 4) {v : Int32} (hv : Int32.ofNat (zByt.getD i []).length = v) (hd : decode m.2.1 pc = .ok (.arraylength, 1)) (kk : Zw g d κ σ m (pc + 1) ls (.int v :: st) h Q) : Zw g d κ σ m pc ls (.retAddr (20 + i) :: st) h Q := by
  intro p e R s mid args below meth c H locs cells slots mc ms Z A ad lsC O T L S r1 r2 r3 r4 r5 r6 K
  exact va_tlen O.1 O.2.1 (O.2.2.2.2.2.2.1.2.2.2.1 i hi).2.2.2 T.2.2.2 hv hd (kk p e R s mid args below meth c H locs cells slots mc ms Z A ad lsC O T L (z_pu z_wi (z_tl S)) r1 r2 r3 r4 r5 r6 K)
theorem x_sva {i : Nat} (hi : i < 4) (hm : m.1.cls = "java/lang/String") (hd : decode m.2.1 pc = .ok (.getfield 9, 3)) (kk : Zw g d κ σ m (pc + 3) ls (.retAddr (20 + i) :: st) h Q) : Zw g d κ σ m pc ls (.retAddr (10 + i) :: st) h Q := by
  intro p e R s mid args below meth c H locs cells slots mc ms Z A ad lsC O T L S r1 r2 r3 r4 r5 r6 K
  exact vk_getf O.1 O.2.1 (O.2.2.2.2.2.2.1.2.2.2.1 i hi).2.2.1 T.2.2.2 (by rw [← hm]; exact O.2.2.2.1) (O.2.2.2.2.1 _ kf_value) (fun _ h9 => h9) hd (kk p e R s mid args below meth c H locs cells slots mc ms Z A ad lsC O T L (z_pu z_wf (z_tl S)) r1 r2 r3 r4 r5 r6 K)
theorem x_sco {i : Nat} (hi : i < 4) (hm : m.1.cls = "java/lang/String") (hd : decode m.2.1 pc = .ok (.getfield 15, 3)) (kk : Zw g d κ σ m (pc + 3) ls (.int 0 :: st) h Q) : Zw g d κ σ m pc ls (.retAddr (10 + i) :: st) h Q := by
  intro p e R s mid args below meth c H locs cells slots mc ms Z A ad lsC O T L S r1 r2 r3 r4 r5 r6 K
  exact vk_getf O.1 O.2.1 (O.2.2.2.2.2.2.1.2.2.2.1 i hi).2.1 T.2.2.2 (by rw [← hm]; exact O.2.2.2.1) (O.2.2.2.2.1 _ kf_coder) (fun _ h9 => h9) hd (kk p e R s mid args below meth c H locs cells slots mc ms Z A ad lsC O T L (z_pu z_wi (z_tl S)) r1 r2 r3 r4 r5 r6 K)
theorem x_lit0 (hm : m.1.cls = RX4) (hd : decode m.2.1 pc = .ok (.ldc 173, 2)) (kk : Zw g d κ σ m (pc + 2) ls (.retAddr 10 :: st) h Q) : Zw g d κ σ m pc ls st h Q := by
  intro p e R s mid args below meth c H locs cells slots mc ms Z A ad lsC O T L S r1 r2 r3 r4 r5 r6 K
  exact va_ldcS O.1 O.2.1 (by rw [← hm]; exact O.2.2.2.1) O.2.2.2.2.2.1.2.2.2.2.2.1 hd (kk p e R s mid args below meth c H locs cells slots mc ms Z A ad lsC O T L (z_pu z_wf S) r1 r2 r3 r4 r5 r6 K)
theorem x_lit1 (hm : m.1.cls = RX4) (hd : decode m.2.1 pc = .ok (.ldc 165, 2)) (kk : Zw g d κ σ m (pc + 2) ls (.retAddr 11 :: st) h Q) : Zw g d κ σ m pc ls st h Q := by
  intro p e R s mid args below meth c H locs cells slots mc ms Z A ad lsC O T L S r1 r2 r3 r4 r5 r6 K
  exact va_ldcS O.1 O.2.1 (by rw [← hm]; exact O.2.2.2.1) O.2.2.2.2.2.1.2.2.2.2.2.2.1 hd (kk p e R s mid args below meth c H locs cells slots mc ms Z A ad lsC O T L (z_pu z_wf S) r1 r2 r3 r4 r5 r6 K)
theorem x_lit2 (hm : m.1.cls = RX12) (hd : decode m.2.1 pc = .ok (.ldc 101, 2)) (kk : Zw g d κ σ m (pc + 2) ls (.retAddr 12 :: st) h Q) : Zw g d κ σ m pc ls st h Q := by
  intro p e R s mid args below meth c H locs cells slots mc ms Z A ad lsC O T L S r1 r2 r3 r4 r5 r6 K
  exact va_ldcS O.1 O.2.1 (by rw [← hm]; exact O.2.2.2.1) O.2.2.2.2.2.1.2.2.2.2.2.2.2.1 hd (kk p e R s mid args below meth c H locs cells slots mc ms Z A ad lsC O T L (z_pu z_wf S) r1 r2 r3 r4 r5 r6 K)
theorem x_lit3 (hm : m.1.cls = RX12) (hd : decode m.2.1 pc = .ok (.ldc 139, 2)) (kk : Zw g d κ σ m (pc + 2) ls (.retAddr 13 :: st) h Q) : Zw g d κ σ m pc ls st h Q := by
  intro p e R s mid args below meth c H locs cells slots mc ms Z A ad lsC O T L S r1 r2 r3 r4 r5 r6 K
  exact va_ldcS O.1 O.2.1 (by rw [← hm]; exact O.2.2.2.1) O.2.2.2.2.2.1.2.2.2.2.2.2.2.2 hd (kk p e R s mid args below meth c H locs cells slots mc ms Z A ad lsC O T L (z_pu z_wf S) r1 r2 r3 r4 r5 r6 K)
theorem x_obj {n i : Nat} (hw : Cond.methodLink m.1.cls n Lib.objectInit ∈ zTb) (hr : (st.map fun v => v.category).sum ≤ 8) (hd : decode m.2.1 pc = .ok (.invokespecial n, 3)) (kk : Zw g (d + 1) κ σ m (pc + 3) ls st h Q) : Zw g (d + 1) κ σ m pc ls (.ref i :: st) h Q := by
  intro p e R s mid args below meth c H locs cells slots mc ms Z A ad lsC O T L S r1 r2 r3 r4 r5 r6 K
  have hc : ((st.map (z_v g ad)).map fun v => v.category).sum = (st.map fun v => v.category).sum := by
    rw [List.map_map]
    exact congrArg List.sum (List.map_congr_left (fun v _ => z_v_cat))
  refine W.objInit O.1 O.2.1 O.2.2.2.1 (O.2.2.2.2.1 _ hw) (O.2.2.2.2.1 _ ks_obj) (O.2.2.2.2.1 _ kd_obj) rfl (L.1.1.trans O.2.2.1.symm) rfl hd (by omega) (by show 2 * 0 + _ + 12 ≤ _; rw [hc]; omega) ?_
  exact (kk p e R s mid args below meth c H locs cells slots mc ms Z A ad lsC O T L (z_tl S) r1 r2 r3 r4 r5 r6 K)
theorem x_mmax {n : Nat} {x y v : Int32} (hw : Cond.methodLink m.1.cls n ⟨"java/lang/Math", "max", "(II)I"⟩ ∈ zTb) (hr : (st.map fun v => v.category).sum ≤ 8) (hv : (if x < y then y else x) = v) (hd : decode m.2.1 pc = .ok (.invokestatic n, 3)) (kk : Zw g (d + 1) κ σ m (pc + 3) ls (.int v :: st) h Q) : Zw g (d + 1) κ σ m pc ls (.int y :: .int x :: st) h Q := by
  subst hv
  intro p e R s mid args below meth c H locs cells slots mc ms Z A ad lsC O T L S r1 r2 r3 r4 r5 r6 K
  have hc : ((st.map (z_v g ad)).map fun v => v.category).sum = (st.map fun v => v.category).sum := by
    rw [List.map_map]
    exact congrArg List.sum (List.map_congr_left (fun v _ => z_v_cat))
  exact va_mmax O.1 O.2.1 (O.2.2.1.trans L.1.1.symm) O.2.2.2.1 (O.2.2.2.2.1 _ hw) (O.2.2.2.2.1 _ ks_static_max_I) (O.2.2.2.2.1 _ knJ9) (O.2.2.2.2.1 _ kd_max) (by omega) (by rw [hc]; omega) (by omega) (by omega) hd (kk p e R s mid args below meth c H locs cells slots mc ms Z A ad lsC O T L (z_pu z_wi (z_tl (z_tl S))) r1 r2 r3 r4 r5 r6 K)
theorem x_mmin {n : Nat} {x y v : Int32} (hw : Cond.methodLink m.1.cls n ⟨"java/lang/Math", "min", "(II)I"⟩ ∈ zTb) (hr : (st.map fun v => v.category).sum ≤ 8) (hv : (if y < x then y else x) = v) (hd : decode m.2.1 pc = .ok (.invokestatic n, 3)) (kk : Zw g (d + 1) κ σ m (pc + 3) ls (.int v :: st) h Q) : Zw g (d + 1) κ σ m pc ls (.int y :: .int x :: st) h Q := by
  subst hv
  intro p e R s mid args below meth c H locs cells slots mc ms Z A ad lsC O T L S r1 r2 r3 r4 r5 r6 K
  have hc : ((st.map (z_v g ad)).map fun v => v.category).sum = (st.map fun v => v.category).sum := by
    rw [List.map_map]
    exact congrArg List.sum (List.map_congr_left (fun v _ => z_v_cat))
  exact va_mmin O.1 O.2.1 (O.2.2.1.trans L.1.1.symm) O.2.2.2.1 (O.2.2.2.2.1 _ hw) (O.2.2.2.2.1 _ ks_static_min_I) (O.2.2.2.2.1 _ knJ9) (O.2.2.2.2.1 _ kd_min) (by omega) (by rw [hc]; omega) (by omega) (by omega) hd (kk p e R s mid args below meth c H locs cells slots mc ms Z A ad lsC O T L (z_pu z_wi (z_tl (z_tl S))) r1 r2 r3 r4 r5 r6 K)
theorem x_mmaxl {n : Nat} {x y v : Int64} (hw : Cond.methodLink m.1.cls n ⟨"java/lang/Math", "max", "(JJ)J"⟩ ∈ zTb) (hr : (st.map fun v => v.category).sum ≤ 8) (hv : (if y < x then x else y) = v) (hd : decode m.2.1 pc = .ok (.invokestatic n, 3)) (kk : Zw g (d + 1) κ σ m (pc + 3) ls (.long v :: st) h Q) : Zw g (d + 1) κ σ m pc ls (.long y :: .long x :: st) h Q := by
  subst hv
  intro p e R s mid args below meth c H locs cells slots mc ms Z A ad lsC O T L S r1 r2 r3 r4 r5 r6 K
  have hc : ((st.map (z_v g ad)).map fun v => v.category).sum = (st.map fun v => v.category).sum := by
    rw [List.map_map]
    exact congrArg List.sum (List.map_congr_left (fun v _ => z_v_cat))
  exact va_mmax_long O.1 O.2.1 (O.2.2.1.trans L.1.1.symm) O.2.2.2.1 (O.2.2.2.2.1 _ hw) (O.2.2.2.2.1 _ ks_static_max_J) (O.2.2.2.2.1 _ knJ9) (O.2.2.2.2.1 _ kd_maxl) (by omega) (by rw [hc]; omega) (by omega) (by omega) hd (kk p e R s mid args below meth c H locs cells slots mc ms Z A ad lsC O T L (z_pu z_wl (z_tl (z_tl S))) r1 r2 r3 r4 r5 r6 K)
theorem x_copy {n i0 i1 n0 n1 : Nat} {f0 f1 : Nat → Int32} {sp dp k : Nat} (hw : Cond.methodLink m.1.cls n ⟨"java/lang/System", "arraycopy", "(Ljava/lang/Object;ILjava/lang/Object;II)V"⟩ ∈ zTb) (hr : (st.map fun v => v.category).sum ≤ 8) (h0 : h[i0]? = some (.inl (0, n0, .inl f0))) (h1 : h[i1]? = some (.inl (0, n1, .inl f1))) (hk : k < 2 ^ 31) (hsp : sp < 2 ^ 31) (hdp : dp < 2 ^ 31) (hb0 : sp + k ≤ n0) (hb1 : dp + k ≤ n1) (hd : decode m.2.1 pc = .ok (.invokestatic n, 3)) (kk : Zw g (d + 1) κ σ m (pc + 3) ls st (h.set i1 (.inl (0, n1, .inl (va_cpy f0 f1 sp dp k)))) Q) : Zw g (d + 1) κ σ m pc ls (.int (nI k) :: .int (nI dp) :: .ref i1 :: .int (nI sp) :: .ref i0 :: st) h Q := by
  intro p e R s mid args below meth c H locs cells slots mc ms Z A ad lsC O T L S r1 r2 r3 r4 r5 r6 K
  have hc : ((st.map (z_v g ad)).map fun v => v.category).sum = (st.map fun v => v.category).sum := by
    rw [List.map_map]
    exact congrArg List.sum (List.map_congr_left (fun v _ => z_v_cat))
  have hlen : (h.set i1 (.inl (0, n1, .inl (va_cpy f0 f1 sp dp k)))).length = h.length := List.length_set
  have hnf : nativeFrameWords "java/lang/System" "arraycopy" 5 ≤ 40 := by decide
  have e1 := nI_clamp hk
  have e2 := nI_clamp hsp
  have e3 := nI_clamp hdp
  refine va_copyi O.1 O.2.1 (O.2.2.1.trans L.1.1.symm) O.2.2.2.1 (O.2.2.2.2.1 _ hw) (O.2.2.2.2.1 _ ks_native_arraycopy_L) (O.2.2.2.2.1 _ ks_static_arraycopy_L) (O.2.2.2.2.1 _ knJ10) O.2.2.2.2.2.1.2.1 T.2.1 T.2.2.1 T.2.2.2 i0 i1 0 0 (z_w_get h0) (z_w_get h1) (z_tys_at rfl) (z_tys_at rfl) rfl (nI_pos hsp) (nI_pos hdp) (nI_pos hk) (by rw [e1, e2]; exact hb0) (by rw [e1, e3]; exact hb1) (fun _ _ => rfl) (by omega) (by rw [hc]; omega) hd (fun H1 locs1 hP hD hS => ?_)
  rw [e1, e2, e3] at hP hD
  exact (kk p e R s mid args below meth c H1 locs1 cells slots mc ms Z A ad lsC O (T.set z_we_i hP hD hS) (L.len hlen) (by rw [hlen]; exact z_tl (z_tl (z_tl (z_tl (z_tl S))))) r1 r2 r3 r4 r5 r6 (K.mono (by rw [hlen]; exact Nat.le_refl _) (fun _ _ => rfl)))
theorem x_iret {x : Int32} {ty : FieldType} (hr : m.2.2.2 = some ty) (hn : narrow ty (.int x) = .int x) (hd : decode m.2.1 pc = .ok (.ireturn, 1)) (hq : Q (some (.int x)) h) : Zw g d κ σ m pc ls [.int x] h Q := by
  intro p e R s mid args below meth c H locs cells slots mc ms Z A ad lsC O T L S r1 r2 r3 r4 r5 r6 K
  exact K (some (.int x)) h ad H locs cells slots pc lsC hq T (fun w hw => by cases hw; exact z_wi) (Nat.le_refl _) (fun _ _ => rfl) ⟨hd, ty, hr, hn⟩ (by omega) (by omega)
theorem x_lret {x : Int64} (hr : m.2.2.2 = some .long) (hd : decode m.2.1 pc = .ok (.lreturn, 1)) (hq : Q (some (.long x)) h) : Zw g d κ σ m pc ls [.long x] h Q := by
  intro p e R s mid args below meth c H locs cells slots mc ms Z A ad lsC O T L S r1 r2 r3 r4 r5 r6 K
  exact K (some (.long x)) h ad H locs cells slots pc lsC hq T (fun w hw => by cases hw; exact z_wl) (Nat.le_refl _) (fun _ _ => rfl) ⟨hd, hr⟩ (by omega) (by omega)
theorem x_vret (hr : m.2.2.2 = none) (hd : decode m.2.1 pc = .ok (.return_, 1)) (hq : Q none h) : Zw g d κ σ m pc ls [] h Q := by
  intro p e R s mid args below meth c H locs cells slots mc ms Z A ad lsC O T L S r1 r2 r3 r4 r5 r6 K
  exact K none h ad H locs cells slots pc lsC hq T (fun w hw => by cases hw) (Nat.le_refl _) (fun _ _ => rfl) ⟨hd, hr⟩ (by omega) (by omega)
theorem x_aret {i : Nat} {ty : FieldType} (hr : m.2.2.2 = some ty) (ht : (∃ n, ty = .object n) ∨ ∃ t, ty = .array t) (hd : decode m.2.1 pc = .ok (.areturn, 1)) (hq : Q (some (.ref i)) h) : Zw g d κ σ m pc ls [.ref i] h Q := by
  intro p e R s mid args below meth c H locs cells slots mc ms Z A ad lsC O T L S r1 r2 r3 r4 r5 r6 K
  exact K (some (.ref i)) h ad H locs cells slots pc lsC hq T (fun w hw => by cases hw; exact z_hd S) (Nat.le_refl _) (fun _ _ => rfl) ⟨hd, ty, hr, ht⟩ (by omega) (by omega)
theorem x_aretN {ty : FieldType} (hr : m.2.2.2 = some ty) (ht : (∃ n, ty = .object n) ∨ ∃ t, ty = .array t) (hd : decode m.2.1 pc = .ok (.areturn, 1)) (hq : Q (some .null) h) : Zw g d κ σ m pc ls [.null] h Q := by
  intro p e R s mid args below meth c H locs cells slots mc ms Z A ad lsC O T L S r1 r2 r3 r4 r5 r6 K
  exact K (some .null) h ad H locs cells slots pc lsC hq T (fun w hw => by cases hw; exact z_wn) (Nat.le_refl _) (fun _ _ => rfl) ⟨hd, ty, hr, ht⟩ (by omega) (by omega)
end ZR
