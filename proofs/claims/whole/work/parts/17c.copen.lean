/-! the class's engine opened: ways and spread -/
/-- as CI, with the cells of ways and spread told -/
def GE (h0 h : zH) (dk : zDk) (st : zSt) (un : List zSt) (tp : List Nat) (tr : Nat → zTr) (pi : Nat → zPi) (fl : Nat × Nat) (ln : zLn) (sb sj : zS3) (dr : Int32) (wst wqu wwe wla : Nat) (qd : Int32) (fs fq : Nat → Int32) (fw fa : Nat → Int64) : Prop := ∃ Z rt ds av stk rn rs sw rmv rmk rkn rks, CW h0 h Z ∧ VC h dk.1 rn rs sw rt rmv rmk rkn rks dk.2.1 dk.2.2.2.2.1 dk.2.2.2.2.2 ∧ EWr h dk.1 dk.2.1 dk.2.2.1 dk.2.2.2.1 dk.2.2.2.2.1 dk.2.2.2.2.2 rt ds ln av stk rn rs sw rmv rmk rkn rks wst wqu wwe wla ∧ CJ Z rt ds dk st un tp tr pi fl sb sj dr ∧ h[26]? = some (waysE wst wqu qd) ∧ h[wst]? = some (inA ln.2.2.2.2.2.1 fs) ∧ h[wqu]? = some (inA ln.2.2.2.2.2.1 fq) ∧ h[wwe]? = some (lnA ln.2.2.2.2.2.2 fw) ∧ h[wla]? = some (lnA ln.2.2.2.2.2.2 fa)
section ZGE
variable {g : zG} {d : Nat} {h0 h h' : zH} {dk : zDk} {st : zSt} {un : List zSt} {tp : List Nat} {tr : Nat → zTr} {pi : Nat → zPi} {fl : Nat × Nat} {ln : zLn} {sb sj : zS3} {dr : Int32} {wst wqu wwe wla : Nat} {qd : Int32} {fs fq : Nat → Int32} {fw fa : Nat → Int64}
theorem GE.ci (G : GE h0 h dk st un tp tr pi fl ln sb sj dr wst wqu wwe wla qd fs fq fw fa) : CI h0 h dk st un tp tr pi fl ln sb sj dr := by
  obtain ⟨Z, rt, ds, av, stk, rn, rs, sw, rmv, rmk, rkn, rks, C, hV, E, J, -⟩ := G
  exact ⟨Z, rt, ds, C, ⟨av, stk, rn, rs, sw, rmv, rmk, rkn, rks, wst, wqu, wwe, wla, hV, E⟩, J⟩
theorem CI.ge (I : CI h0 h dk st un tp tr pi fl ln sb sj dr) : ∃ wst wqu wwe wla qd fs fq fw fa, GE h0 h dk st un tp tr pi fl ln sb sj dr wst wqu wwe wla qd fs fq fw fa := by
  obtain ⟨Z, rt, ds, C, ⟨av, stk, rn, rs, sw, rmv, rmk, rkn, rks, wst, wqu, wwe, wla, hV, E⟩, J⟩ := I
  obtain ⟨-, -, -, -, -, -, -, -, ⟨q9, e9⟩, ⟨f10, e10⟩, ⟨f11, e11⟩, e12, ⟨f13, e13⟩, ⟨f14, e14⟩, -⟩ := id E
  exact ⟨wst, wqu, wwe, wla, q9, f10, f11, f13, f14, Z, rt, ds, av, stk, rn, rs, sw, rmv, rmk, rkn, rks, C, hV, E, J, e9, e10, e11, e13, e14⟩
theorem GE.o (G : GE h0 h dk st un tp tr pi fl ln sb sj dr wst wqu wwe wla qd fs fq fw fa) : h[26]? = some (waysE wst wqu qd) ∧ h[29]? = some (sprE wwe wla) ∧ h[wst]? = some (inA ln.2.2.2.2.2.1 fs) ∧ h[wqu]? = some (inA ln.2.2.2.2.2.1 fq) ∧ h[wwe]? = some (lnA ln.2.2.2.2.2.2 fw) ∧ h[wla]? = some (lnA ln.2.2.2.2.2.2 fa) ∧ ln.2.2.2.2.2.1 < 2 ^ 31 ∧ ln.2.2.2.2.2.2 < 2 ^ 31 ∧ wst ≠ wqu ∧ wwe ≠ wla ∧ (wst ≠ 26 ∧ wst ≠ 29 ∧ wqu ≠ 26 ∧ wqu ≠ 29 ∧ wwe ≠ 26 ∧ wwe ≠ 29 ∧ wla ≠ 26 ∧ wla ≠ 29) := by
  obtain ⟨Z, rt, ds, av, stk, rn, rs, sw, rmv, rmk, rkn, rks, C, hV, E, J, g1, g2, g3, g4, g5⟩ := G
  obtain ⟨-, -, -, -, -, -, -, -, -, -, -, e12, -, -, ⟨y1, y2, y3, y4, y5, y6, y7, y8⟩, e16, -, -, e19⟩ := id E
  exact ⟨g1, e12, g2, g3, g4, g5, e19.2.2.1, e19.2.2.2, e16.2.2.1, e16.2.2.2, y5.2.2.2.2.2.2.2.2.1, y5.2.2.2.2.2.2.2.2.2, y6.2.2.2.2.2.2.2.2.1, y6.2.2.2.2.2.2.2.2.2, y7.2.2.2.2.2.2.2.2.1, y7.2.2.2.2.2.2.2.2.2, y8.2.2.2.2.2.2.2.2.1, y8.2.2.2.2.2.2.2.2.2⟩
/-- ways and spread become others -/
theorem GE.up {wst' wqu' wwe' wla' L L' : Nat} {qd' : Int32} {fs' fq' : Nat → Int32} {fw' fa' : Nat → Int64} (G : GE h0 h dk st un tp tr pi fl ln sb sj dr wst wqu wwe wla qd fs fq fw fa) (a : Fr [26, 29, wst, wqu, wwe, wla] h h') (k1 : h'[26]? = some (waysE wst' wqu' qd')) (k2 : h'[wst']? = some (inA L fs')) (k3 : h'[wqu']? = some (inA L fq')) (k4 : h'[29]? = some (sprE wwe' wla')) (k5 : h'[wwe']? = some (lnA L' fw')) (k6 : h'[wla']? = some (lnA L' fa')) (w1 : wst' = wst ∨ h.length ≤ wst') (w2 : wqu' = wqu ∨ h.length ≤ wqu') (w3 : wst' ≠ wqu') (w4 : wwe' = wwe ∨ wwe' = wla ∨ h.length ≤ wwe') (w5 : wla' = wla ∨ wla' = wwe ∨ h.length ≤ wla') (w6 : wwe' ≠ wla') (l1 : L < 2 ^ 31) (l2 : L' < 2 ^ 31) : GE h0 h' dk st un tp tr pi fl (ln.1, ln.2.1, ln.2.2.1, ln.2.2.2.1, ln.2.2.2.2.1, L, L') sb sj dr wst' wqu' wwe' wla' qd' fs' fq' fw' fa' := by
  obtain ⟨Z, rt, ds, av, stk, rn, rs, sw, rmv, rmk, rkn, rks, C, hV, E, J, g1, g2, g3, g4, g5⟩ := G
  have eg := EWr.eg hV E
  have hT := hV.1
  obtain ⟨-, -, ⟨f3, e3⟩, ⟨f4, e4⟩, ⟨f5, e5⟩, e6, ⟨f7, e7⟩, ⟨f8, e8⟩, ⟨q9, e9⟩, ⟨f10, e10⟩, ⟨f11, e11⟩, e12, ⟨f13, e13⟩, ⟨f14, e14⟩, e15, ⟨n1, n2, n3, n4⟩, e17, e18, e19⟩ := id E
  obtain ⟨y1, y2, y3, y4, y5, y6, y7, y8⟩ := id e15
  have ids : ∀ i ∈ [26, 29, wst, wqu, wwe, wla], Eg h av stk i := fun i hi => eg i (by
    simp only [List.mem_cons, List.mem_nil_iff, or_false] at hi ⊢
    omega)
  have tgne : ∀ {i j : Nat} {e e' : va_E}, h[i]? = some e → h[j]? = some e' → z_tg e ≠ z_tg e' → i ≠ j := fun a b c z => by
    subst z
    rw [a] at b
    exact c (by rw [Option.some.inj b])
  have hl83 := C.2.1
  have get : ∀ {i : Nat} {e : va_E}, h[i]? = some e → (z_tg e ≠ 2 ∧ z_tg e ≠ 1010 ∧ z_tg e ≠ 1006 ∧ (z_tg e = 0 → i ≠ wst ∧ i ≠ wqu)) → h'[i]? = some e := fun {i e} q t => a.get q (by
    have x1 : i ≠ 26 := tgne q g1 (by simpa [z_tg] using t.2.1)
    have x2 : i ≠ 29 := tgne q e12 (by simpa [z_tg] using t.2.2.1)
    have x5 : i ≠ wwe := tgne q g4 (by simpa [z_tg] using t.1)
    have x6 : i ≠ wla := tgne q g5 (by simpa [z_tg] using t.1)
    have x34 : i ≠ wst ∧ i ≠ wqu := by
      by_cases c : z_tg e = 0
      · exact t.2.2.2 c
      · exact ⟨tgne q g2 (by simpa [z_tg] using c), tgne q g3 (by simpa [z_tg] using c)⟩
    simp only [List.mem_cons, List.mem_nil_iff, or_false]
    omega)
  have hR := hT.2.2.2.2.1
  obtain ⟨len', f0, r6, r7⟩ := hT.2.2.2.2.2.1
  obtain ⟨fm, r8⟩ := hT.2.2.2.2.2.2
  have sm : ∀ {i : Nat}, zDy i → i ≠ 15 ∧ i ≠ 18 ∧ i ≠ 19 := fun z => by unfold zDy at z; omega
  have hT' : RT h' dk.1 rn rs sw := ⟨hT.1, hT.2.1, hT.2.2.1, hT.2.2.2.1, get hR (by simp [z_tg]), ⟨len', f0, get r6 (by simp [z_tg]), r7⟩, fm, get r8 ⟨by simp [z_tg], by simp [z_tg], by simp [z_tg], fun _ => ⟨Ne.symm (sm y5).2.2, Ne.symm (sm y6).2.2⟩⟩⟩
  have g18 := get e5 ⟨by simp [z_tg], by simp [z_tg], by simp [z_tg], fun _ => ⟨Ne.symm (sm y5).2.1, Ne.symm (sm y6).2.1⟩⟩
  have grs := get e4 ⟨by simp [z_tg], by simp [z_tg], by simp [z_tg], fun _ => ⟨n1, n2⟩⟩
  have hV' := VC.eg hV E a ids hT'
  obtain ⟨av', ha, hb, hc, hc2⟩ : ∃ av', (∀ i ∈ av', i ∈ av ∨ h.length ≤ i) ∧ (∀ i ∈ av, i ∈ av') ∧ (wst' < 83 ∨ wst' ∈ av') ∧ (wqu' < 83 ∨ wqu' ∈ av') := by
    have b1 : wst' < 83 ∨ wst' ∈ av ∨ h.length ≤ wst' := by
      rcases w1 with z | z
      · exact (e18 wst' (by simp [z])).imp_right Or.inl
      · exact Or.inr (Or.inr z)
    have b2 : wqu' < 83 ∨ wqu' ∈ av ∨ h.length ≤ wqu' := by
      rcases w2 with z | z
      · exact (e18 wqu' (by simp [z])).imp_right Or.inl
      · exact Or.inr (Or.inr z)
    refine ⟨[wst', wqu'].filter (fun i => decide (h.length ≤ i)) ++ av, fun i hi => ?_, fun i hi => List.mem_append_right _ hi, ?_, ?_⟩
    · rcases List.mem_append.mp hi with z | z
      · exact Or.inr (of_decide_eq_true (List.mem_filter.mp z).2)
      · exact Or.inl z
    · rcases b1 with z | z | z
      · exact Or.inl z
      · exact Or.inr (List.mem_append_right _ z)
      · exact Or.inr (List.mem_append_left _ (List.mem_filter.mpr ⟨by simp, decide_eq_true z⟩))
    · rcases b2 with z | z | z
      · exact Or.inl z
      · exact Or.inr (List.mem_append_right _ z)
      · exact Or.inr (List.mem_append_left _ (List.mem_filter.mpr ⟨by simp, decide_eq_true z⟩))
  obtain ⟨d1, d2, d3⟩ := EWr.dks (av' := av') E a ids ha hb
  have dy : ∀ {i : Nat}, (zDy i ∨ h.length ≤ i) → zDy i := fun z => by
    rcases z with z | z
    · exact z
    · unfold zDy zRg; omega
  have fresh : ∀ {i j : Nat} {e : va_E}, h[i]? = some e → h.length ≤ j → i ≠ j := fun q z w => by
    have := hp_lt q
    omega
  have hsw : (sw = nI 0 ∧ ln.2.2.1 = false) ∨ (sw = nI 1 ∧ SwO h' dk.1 rs ∧ ln.2.2.1 = true) := by
    rcases e6 with z | ⟨z1, ⟨a1, a2, a3, b1, b2, b3⟩, z3⟩
    · exact Or.inl z
    · exact Or.inr ⟨z1, ⟨a1, a2, a3, get b1 ⟨by simp [z_tg], by simp [z_tg], by simp [z_tg], fun _ => ⟨n1, n2⟩⟩, get b2 ⟨by simp [z_tg], by simp [z_tg], by simp [z_tg], fun _ => ⟨Ne.symm (sm y5).2.1, Ne.symm (sm y6).2.1⟩⟩, b3⟩, z3⟩
  refine ⟨Z, rt, ds, av', stk, rn, rs, sw, rmv, rmk, rkn, rks, C.ex (Ex.fr a (fun i hi => (ids i hi).1)), hV', ⟨d1, d2, ⟨f3, get e3 (by simp [z_tg])⟩, ⟨f4, grs⟩, ⟨f5, g18⟩, hsw, ⟨f7, get e7 (by simp [z_tg])⟩, ⟨f8, get e8 (by simp [z_tg])⟩, ⟨qd', k1⟩, ⟨fs', k2⟩, ⟨fq', k3⟩, k4, ⟨fw', k5⟩, ⟨fa', k6⟩, ⟨y1, y2, y3, y4, ?_, ?_, ?_, ?_⟩, ⟨?_, ?_, w3, w6⟩, fun r hr => ?_, fun r hr => ?_, e19.1, e19.2.1, l1, l2⟩, J, k1, k2, k3, k5, k6⟩
  · exact dy (w1.elim (fun z => Or.inl (z ▸ y5)) Or.inr)
  · exact dy (w2.elim (fun z => Or.inl (z ▸ y6)) Or.inr)
  · refine dy ?_
    rcases w4 with z | z | z
    · exact Or.inl (z ▸ y7)
    · exact Or.inl (z ▸ y8)
    · exact Or.inr z
  · refine dy ?_
    rcases w5 with z | z | z
    · exact Or.inl (z ▸ y8)
    · exact Or.inl (z ▸ y7)
    · exact Or.inr z
  · rcases w1 with z | z
    · rw [z]; exact n1
    · exact fresh e4 z
  · rcases w2 with z | z
    · rw [z]; exact n2
    · exact fresh e4 z
  · obtain ⟨t1, t2, t3, t4, t5, H, sk, t6⟩ := e17 r hr
    refine ⟨t1, hb _ t2, t3, ?_, ?_, d3 r hr⟩
    · rcases w1 with z | z
      · rw [z]; exact t4
      · exact fresh t6 z
    · rcases w2 with z | z
      · rw [z]; exact t5
      · exact fresh t6 z
  · simp only [List.mem_cons, List.mem_nil_iff, or_false] at hr
    rcases hr with z | z | z
    · rw [z]; exact (e18 rs (by simp)).imp_right (hb _)
    · rw [z]; exact hc
    · rw [z]; exact hc2
theorem GE.tne {i j : Nat} {e e' : va_E} (a : h[i]? = some e) (b : h[j]? = some e') (c : z_tg e ≠ z_tg e') : i ≠ j := fun z => by
  subst z
  rw [a] at b
  exact c (by rw [Option.some.inj b])
theorem GE.sqd {qd' : Int32} (G : GE h0 h dk st un tp tr pi fl ln sb sj dr wst wqu wwe wla qd fs fq fw fa) : GE h0 (h.set 26 (waysE wst wqu qd')) dk st un tp tr pi fl ln sb sj dr wst wqu wwe wla qd' fs fq fw fa := by
  obtain ⟨o1, o2, o3, o4, o5, o6, o7, o8, o9, o10, p1, p2, p3, p4, p5, p6, p7, p8⟩ := G.o
  exact G.up (Fr.set (by simp)) (hs_eq o1) (by rw [hs_ne (Ne.symm p1)]; exact o3) (by rw [hs_ne (Ne.symm p3)]; exact o4) (by rw [hs_ne (by decide)]; exact o2) (by rw [hs_ne (Ne.symm p5)]; exact o5) (by rw [hs_ne (Ne.symm p7)]; exact o6) (Or.inl rfl) (Or.inl rfl) o9 (Or.inl rfl) (Or.inl rfl) o10 o7 o8
theorem GE.sfs {fs' : Nat → Int32} (G : GE h0 h dk st un tp tr pi fl ln sb sj dr wst wqu wwe wla qd fs fq fw fa) : GE h0 (h.set wst (inA ln.2.2.2.2.2.1 fs')) dk st un tp tr pi fl ln sb sj dr wst wqu wwe wla qd fs' fq fw fa := by
  obtain ⟨o1, o2, o3, o4, o5, o6, o7, o8, o9, o10, p1, p2, p3, p4, p5, p6, p7, p8⟩ := G.o
  have t1 := GE.tne o3 o5 (by simp [z_tg])
  have t2 := GE.tne o3 o6 (by simp [z_tg])
  exact G.up (Fr.set (by simp)) (by rw [hs_ne p1]; exact o1) (hs_eq o3) (by rw [hs_ne o9]; exact o4) (by rw [hs_ne p2]; exact o2) (by rw [hs_ne t1]; exact o5) (by rw [hs_ne t2]; exact o6) (Or.inl rfl) (Or.inl rfl) o9 (Or.inl rfl) (Or.inl rfl) o10 o7 o8
theorem GE.sfq {fq' : Nat → Int32} (G : GE h0 h dk st un tp tr pi fl ln sb sj dr wst wqu wwe wla qd fs fq fw fa) : GE h0 (h.set wqu (inA ln.2.2.2.2.2.1 fq')) dk st un tp tr pi fl ln sb sj dr wst wqu wwe wla qd fs fq' fw fa := by
  obtain ⟨o1, o2, o3, o4, o5, o6, o7, o8, o9, o10, p1, p2, p3, p4, p5, p6, p7, p8⟩ := G.o
  have t1 := GE.tne o4 o5 (by simp [z_tg])
  have t2 := GE.tne o4 o6 (by simp [z_tg])
  exact G.up (Fr.set (by simp)) (by rw [hs_ne p3]; exact o1) (by rw [hs_ne (Ne.symm o9)]; exact o3) (hs_eq o4) (by rw [hs_ne p4]; exact o2) (by rw [hs_ne t1]; exact o5) (by rw [hs_ne t2]; exact o6) (Or.inl rfl) (Or.inl rfl) o9 (Or.inl rfl) (Or.inl rfl) o10 o7 o8
theorem GE.sfw {fw' : Nat → Int64} (G : GE h0 h dk st un tp tr pi fl ln sb sj dr wst wqu wwe wla qd fs fq fw fa) : GE h0 (h.set wwe (lnA ln.2.2.2.2.2.2 fw')) dk st un tp tr pi fl ln sb sj dr wst wqu wwe wla qd fs fq fw' fa := by
  obtain ⟨o1, o2, o3, o4, o5, o6, o7, o8, o9, o10, p1, p2, p3, p4, p5, p6, p7, p8⟩ := G.o
  have t1 := GE.tne o5 o3 (by simp [z_tg])
  have t2 := GE.tne o5 o4 (by simp [z_tg])
  exact G.up (Fr.set (by simp)) (by rw [hs_ne p5]; exact o1) (by rw [hs_ne t1]; exact o3) (by rw [hs_ne t2]; exact o4) (by rw [hs_ne p6]; exact o2) (hs_eq o5) (by rw [hs_ne o10]; exact o6) (Or.inl rfl) (Or.inl rfl) o9 (Or.inl rfl) (Or.inl rfl) o10 o7 o8
theorem GE.sfa {fa' : Nat → Int64} (G : GE h0 h dk st un tp tr pi fl ln sb sj dr wst wqu wwe wla qd fs fq fw fa) : GE h0 (h.set wla (lnA ln.2.2.2.2.2.2 fa')) dk st un tp tr pi fl ln sb sj dr wst wqu wwe wla qd fs fq fw fa' := by
  obtain ⟨o1, o2, o3, o4, o5, o6, o7, o8, o9, o10, p1, p2, p3, p4, p5, p6, p7, p8⟩ := G.o
  have t1 := GE.tne o6 o3 (by simp [z_tg])
  have t2 := GE.tne o6 o4 (by simp [z_tg])
  exact G.up (Fr.set (by simp)) (by rw [hs_ne p7]; exact o1) (by rw [hs_ne t1]; exact o3) (by rw [hs_ne t2]; exact o4) (by rw [hs_ne p8]; exact o2) (by rw [hs_ne (Ne.symm o10)]; exact o5) (hs_eq o6) (Or.inl rfl) (Or.inl rfl) o9 (Or.inl rfl) (Or.inl rfl) o10 o7 o8
/-- the two rows of weights change places -/
theorem GE.s29 (G : GE h0 h dk st un tp tr pi fl ln sb sj dr wst wqu wwe wla qd fs fq fw fa) : GE h0 (h.set 29 (sprE wla wwe)) dk st un tp tr pi fl ln sb sj dr wst wqu wla wwe qd fs fq fa fw := by
  obtain ⟨o1, o2, o3, o4, o5, o6, o7, o8, o9, o10, p1, p2, p3, p4, p5, p6, p7, p8⟩ := G.o
  exact G.up (Fr.set (by simp)) (by rw [hs_ne (by decide)]; exact o1) (by rw [hs_ne (Ne.symm p2)]; exact o3) (by rw [hs_ne (Ne.symm p4)]; exact o4) (hs_eq o2) (by rw [hs_ne (Ne.symm p8)]; exact o6) (by rw [hs_ne (Ne.symm p6)]; exact o5) (Or.inl rfl) (Or.inl rfl) o9 (Or.inr (Or.inl rfl)) (Or.inr (Or.inl rfl)) (Ne.symm o10) o7 o8
theorem g_maskOf {row c : Nat} (G : GE h0 h dk st un tp tr pi fl ln sb sj dr wst wqu wwe wla qd fs fq fw fa) (hr : row < fct dk.1) (hc : c < 10) : Zm g (d + 5) 0 0 mX9_maskOf [.ref 20, .int (nI row), .int (nI c)] h (rIp (fun r h' => r = nI (mskK dk row c) ∧ GE h0 h' dk st un tp tr pi fl ln sb sj dr wst wqu wwe wla qd fs fq fw fa)) := by
  obtain ⟨Z, rt, ds, av, stk, rn, rs, sw, rmv, rmk, rkn, rks, C, hV, E, J, g1, g2, g3, g4, g5⟩ := G
  refine Zm.mono (c_maskOf hV hc hr) (fun v h' hq => ?_)
  obtain ⟨r, rfl, q1, q2⟩ := hq
  obtain ⟨w1, w2⟩ := EW.gv' hV E q2.1
  obtain ⟨-, -, -, -, -, -, -, -, -, -, -, -, -, -, ⟨y1, y2, y3, y4, y5, y6, y7, y8⟩, -, e17, -⟩ := id E
  exact ⟨r, rfl, q1, Z, rt, ds, av, stk, rn, rs, sw, rmv, rmk, rkn, rks, C.ex w2, q2.2, w1, J, q2.1.1.get g1 (vI_no hV E g1 (by simp [z_tg]) (by simp [z_tg]) (Or.inl (by simp [z_tg])) (Or.inl (by simp [z_tg]))), q2.1.1.get g2 (vI_no hV E g2 (by simp [z_tg]) (by simp [z_tg]) (Or.inl (by simp [z_tg])) (Or.inr ⟨y5.2.2.2.2.2.2.1, y5.2.2.2.2.2.2.2.1, fun z => (e17 _ z).2.2.2.1 rfl⟩)), q2.1.1.get g3 (vI_no hV E g3 (by simp [z_tg]) (by simp [z_tg]) (Or.inl (by simp [z_tg])) (Or.inr ⟨y6.2.2.2.2.2.2.1, y6.2.2.2.2.2.2.2.1, fun z => (e17 _ z).2.2.2.2.1 rfl⟩)), q2.1.1.get g4 (vI_no hV E g4 (by simp [z_tg]) (by simp [z_tg]) (Or.inl (by simp [z_tg])) (Or.inl (by simp [z_tg]))), q2.1.1.get g5 (vI_no hV E g5 (by simp [z_tg]) (by simp [z_tg]) (Or.inl (by simp [z_tg])) (Or.inl (by simp [z_tg])))⟩
end ZGE

