/-! the class's engine: cells that it may change -/
section ZRm
variable {m : zMe} {g : zG} {d κ σ pc : Nat} {ls : List (Option Value)} {h : zH} {Q : Option Value → zH → Prop}
theorem x_cv0Vr {mz : zMe} {n κ1 σ1 κ2 σ2 : Nat} {rest : List Value} {P : zH → Prop} {i ci : Nat} {fs : List Value} (hM : zMV mz 0) (hL : zLk m.1.cls n mz) (hcl : vwCl[ci]?.map (fun q => q.1) = some mz.1.cls) (hfl : (z_fl [.ref i]).length ≤ mz.2.2.1) (hr : (rest.map fun v => v.category).sum ≤ 8) (hd : decode m.2.1 pc = .ok (.invokevirtual n, 3)) (he : h[i]? = some (.inr (ci, fs))) (h1 : κ1 + κ2 ≤ κ) (h2 : σ1 + σ2 ≤ σ) (C : Zm g d κ1 σ1 mz [.ref i] h (rVp P)) (kk : ∀ (h' : zH), P h' → Zw g (d + 1) κ2 σ2 m (pc + 3) ls (rest) h' Q) : Zw g (d + 1) κ σ m pc ls (.ref i :: rest) h Q := x_callV (as := []) hM hL hcl rfl hfl hr hd he h1 h2 C (fun _ _ q => by obtain ⟨rfl, q⟩ := q; exact kk _ q)
theorem x_cv1Vr {v1 : Value} {mz : zMe} {n κ1 σ1 κ2 σ2 : Nat} {rest : List Value} {P : zH → Prop} {i ci : Nat} {fs : List Value} (hM : zMV mz 1) (hL : zLk m.1.cls n mz) (hcl : vwCl[ci]?.map (fun q => q.1) = some mz.1.cls) (hfl : (z_fl [.ref i, v1]).length ≤ mz.2.2.1) (hr : (rest.map fun v => v.category).sum ≤ 8) (hd : decode m.2.1 pc = .ok (.invokevirtual n, 3)) (he : h[i]? = some (.inr (ci, fs))) (h1 : κ1 + κ2 ≤ κ) (h2 : σ1 + σ2 ≤ σ) (C : Zm g d κ1 σ1 mz [.ref i, v1] h (rVp P)) (kk : ∀ (h' : zH), P h' → Zw g (d + 1) κ2 σ2 m (pc + 3) ls (rest) h' Q) : Zw g (d + 1) κ σ m pc ls (v1 :: .ref i :: rest) h Q := x_callV (as := [v1]) hM hL hcl rfl hfl hr hd he h1 h2 C (fun _ _ q => by obtain ⟨rfl, q⟩ := q; exact kk _ q)
theorem x_cv2Vr {v1 v2 : Value} {mz : zMe} {n κ1 σ1 κ2 σ2 : Nat} {rest : List Value} {P : zH → Prop} {i ci : Nat} {fs : List Value} (hM : zMV mz 2) (hL : zLk m.1.cls n mz) (hcl : vwCl[ci]?.map (fun q => q.1) = some mz.1.cls) (hfl : (z_fl [.ref i, v1, v2]).length ≤ mz.2.2.1) (hr : (rest.map fun v => v.category).sum ≤ 8) (hd : decode m.2.1 pc = .ok (.invokevirtual n, 3)) (he : h[i]? = some (.inr (ci, fs))) (h1 : κ1 + κ2 ≤ κ) (h2 : σ1 + σ2 ≤ σ) (C : Zm g d κ1 σ1 mz [.ref i, v1, v2] h (rVp P)) (kk : ∀ (h' : zH), P h' → Zw g (d + 1) κ2 σ2 m (pc + 3) ls (rest) h' Q) : Zw g (d + 1) κ σ m pc ls (v2 :: v1 :: .ref i :: rest) h Q := x_callV (as := [v1, v2]) hM hL hcl rfl hfl hr hd he h1 h2 C (fun _ _ q => by obtain ⟨rfl, q⟩ := q; exact kk _ q)
theorem x_cv1Ir {v1 : Value} {mz : zMe} {n κ1 σ1 κ2 σ2 : Nat} {rest : List Value} {P : Int32 → zH → Prop} {i ci : Nat} {fs : List Value} (hM : zMV mz 1) (hL : zLk m.1.cls n mz) (hcl : vwCl[ci]?.map (fun q => q.1) = some mz.1.cls) (hfl : (z_fl [.ref i, v1]).length ≤ mz.2.2.1) (hr : (rest.map fun v => v.category).sum ≤ 8) (hd : decode m.2.1 pc = .ok (.invokevirtual n, 3)) (he : h[i]? = some (.inr (ci, fs))) (h1 : κ1 + κ2 ≤ κ) (h2 : σ1 + σ2 ≤ σ) (C : Zm g d κ1 σ1 mz [.ref i, v1] h (rIp P)) (kk : ∀ (r : Int32) (h' : zH), P r h' → Zw g (d + 1) κ2 σ2 m (pc + 3) ls (.int r :: rest) h' Q) : Zw g (d + 1) κ σ m pc ls (v1 :: .ref i :: rest) h Q := x_callV (as := [v1]) hM hL hcl rfl hfl hr hd he h1 h2 C (fun _ _ q => by obtain ⟨r, rfl, q⟩ := q; exact kk r _ q)
end ZRm
/-- a cell of the engine's that neither laws nor visits have -/
def Eg (h : zH) (av stk : List Nat) (i : Nat) : Prop := zRg i ∧ i ∉ stk ∧ i ≠ 24 ∧ i ≠ 25 ∧ ∀ e, h[i]? = some e → z_tg e ≠ 1000 ∧ z_tg e ≠ 1002 ∧ z_tg e ≠ 1009 ∧ z_tg e ≠ 1 ∧ z_tg e ≠ 3 ∧ (z_tg e = 0 → i < 83 ∨ i ∈ av)
section ZEg
variable {h h' : zH} {n op ng li rt rn rs rmv rmk rkn rks wst wqu wwe wla : Nat} {sw : Int32} {nx sp : Option (List Nat)} {ds : List (Nat × zDk)} {ln : zLn} {av stk ids : List Nat}
theorem KD.eg (a : Fr ids h h') (he : ∀ i ∈ ids, Eg h av stk i) : KD av stk h h' := by
  refine ⟨a.1, fun i e t q => a.get q (fun z => ?_), fun i e t n1 n2 q => a.get q (fun z => ?_), fun r hr H sk q => ⟨sk, a.get q (fun z => (he r z).2.1 hr)⟩⟩
  · obtain ⟨-, -, -, -, k⟩ := he i z
    have := k e q
    omega
  · obtain ⟨-, -, -, -, k⟩ := he i z
    have := (k e q).2.2.2.2.2 t
    rcases this with y | y
    · omega
    · exact n1 y
theorem VC.eg {rs' : Nat} {sw' : Int32} (hV : VC h n rn rs sw rt rmv rmk rkn rks op nx sp) (E : EWr h n op ng li nx sp rt ds ln av stk rn rs sw rmv rmk rkn rks wst wqu wwe wla) (a : Fr ids h h') (he : ∀ i ∈ ids, Eg h av stk i) (hT : RT h' n rn rs' sw') : VC h' n rn rs' sw' rt rmv rmk rkn rks op nx sp := by
  have k := KD.eg a he
  obtain ⟨-, -, ⟨len, fr', a5⟩, a6, a7, ⟨lm, fm, lk, fk, kp, b1, b2, b3, b4⟩, ⟨w, a9⟩, ⟨pa, a10⟩, a11, a12, a13, a14, a15⟩ := hV
  obtain ⟨⟨⟨fc, fr, vn, vs, c1, c2, c3⟩, r1, r2, -⟩, -, -, -, -, -, -, -, -, -, -, -, -, -, -, -, e17, -⟩ := E
  have sub : ∀ i ∈ [rkn, rks], i ∈ av ∨ h'.length ≤ i ∨ i < 83 := fun i hi => by
    have rr : ∀ {code : Option (List Nat)} {r : Nat}, RkS stk code r → r ∈ av ∨ h'.length ≤ r ∨ r < 83 := fun z => by
      rcases z with z | ⟨-, z⟩
      · exact Or.inl (e17 _ z).2.1
      · rw [z]; exact Or.inr (Or.inr (by decide))
    simp only [List.mem_cons, List.mem_nil_iff, or_false] at hi
    rcases hi with rfl | rfl
    · exact rr r1
    · exact rr r2
  have no : ∀ {i : Nat} {e : va_E}, h[i]? = some e → (z_tg e = 1009 ∨ z_tg e = 1 ∨ z_tg e = 3) → h'[i]? = some e := fun q t => a.get q (fun z => by
    obtain ⟨-, -, -, -, y⟩ := he _ z
    have := y _ q
    omega)
  exact ⟨hT, ⟨fc, fr, _, _, vn, vs, k.2.1 _ _ (Or.inl rfl) c1, (c2.kd k r1).sub sub, (c3.kd k r2).sub sub⟩, ⟨len, fr', no a5 (Or.inl rfl)⟩, a6, a7, ⟨lm, fm, lk, fk, kp, no b1 (Or.inr (Or.inl rfl)), no b2 (Or.inr (Or.inl rfl)), no b3 (Or.inr (Or.inr rfl)), b4⟩, ⟨w, a.get a9 (fun z => (he _ z).2.2.1 rfl)⟩, ⟨pa, a.get a10 (fun z => (he _ z).2.2.2.1 rfl)⟩, a11, a12, a13, a14, a15⟩
/-- each of the engine's own cells is one -/
theorem EWr.eg (hV : VC h n rn rs sw rt rmv rmk rkn rks op nx sp) (E : EWr h n op ng li nx sp rt ds ln av stk rn rs sw rmv rmk rkn rks wst wqu wwe wla) : ∀ i ∈ [15, 18, 19, 26, 29, rs, wst, wqu, wwe, wla], Eg h av stk i := by
  obtain ⟨-, -, -, ⟨f4, e4⟩, ⟨f5, e5⟩, -, -, -, ⟨q9, e9⟩, ⟨f10, e10⟩, ⟨f11, e11⟩, e12, ⟨f13, e13⟩, ⟨f14, e14⟩, ⟨y1, y2, y3, y4, y5, y6, y7, y8⟩, -, e17, e18, -⟩ := E
  have e15 := hV.1.2.2.2.2.1
  obtain ⟨f19, e19⟩ := hV.1.2.2.2.2.2.2
  have mk : ∀ {i : Nat} {e : va_E}, h[i]? = some e → zRg i → i ∉ stk → i ≠ 24 → i ≠ 25 → (z_tg e ≠ 1000 ∧ z_tg e ≠ 1002 ∧ z_tg e ≠ 1009 ∧ z_tg e ≠ 1 ∧ z_tg e ≠ 3 ∧ (z_tg e = 0 → i < 83 ∨ i ∈ av)) → Eg h av stk i := fun q z1 z2 z3 z4 t => ⟨z1, z2, z3, z4, fun e' q' => by rw [q] at q'; rw [← Option.some.inj q']; exact t⟩
  have lo : ∀ {i : Nat}, i < 83 → i ∉ stk := fun hi z => absurd (e17 _ z).1 (by omega)
  have tg : ∀ {i t : Nat} {e : va_E}, h[i]? = some e → z_tg e = t → t ≠ 0 → i ∉ stk := fun q ht h0 z => by
    obtain ⟨-, -, -, -, -, H, sk, y⟩ := e17 _ z
    rw [q] at y
    rw [Option.some.inj y] at ht
    exact h0 ht.symm
  have zr : ∀ i, 15 ≤ i → i < 32 → zRg i := fun i a b => Or.inl ⟨a, b⟩
  intro i hi
  simp only [List.mem_cons, List.mem_nil_iff, or_false] at hi
  rcases hi with rfl | rfl | rfl | rfl | rfl | rfl | rfl | rfl | rfl | rfl
  · exact mk e15 (zr _ (by decide) (by decide)) (lo (by decide)) (by decide) (by decide) (by simp [z_tg])
  · exact mk e5 (zr _ (by decide) (by decide)) (lo (by decide)) (by decide) (by decide) (by simp [z_tg])
  · exact mk e19 (zr _ (by decide) (by decide)) (lo (by decide)) (by decide) (by decide) (by simp [z_tg])
  · exact mk e9 (zr _ (by decide) (by decide)) (lo (by decide)) (by decide) (by decide) (by simp [z_tg])
  · exact mk e12 (zr _ (by decide) (by decide)) (lo (by decide)) (by decide) (by decide) (by simp [z_tg])
  · exact mk e4 y2.1 (fun z => (e17 _ z).2.2.1 rfl) y2.2.2.2.2.2.2.1 y2.2.2.2.2.2.2.2.1 ⟨by simp [z_tg], by simp [z_tg], by simp [z_tg], by simp [z_tg], by simp [z_tg], fun _ => e18 _ (by simp)⟩
  · exact mk e10 y5.1 (fun z => (e17 _ z).2.2.2.1 rfl) y5.2.2.2.2.2.2.1 y5.2.2.2.2.2.2.2.1 ⟨by simp [z_tg], by simp [z_tg], by simp [z_tg], by simp [z_tg], by simp [z_tg], fun _ => e18 _ (by simp)⟩
  · exact mk e11 y6.1 (fun z => (e17 _ z).2.2.2.2.1 rfl) y6.2.2.2.2.2.2.1 y6.2.2.2.2.2.2.2.1 ⟨by simp [z_tg], by simp [z_tg], by simp [z_tg], by simp [z_tg], by simp [z_tg], fun _ => e18 _ (by simp)⟩
  · exact mk e13 y7.1 (tg e13 rfl (by simp [z_tg])) y7.2.2.2.2.2.2.1 y7.2.2.2.2.2.2.2.1 (by simp [z_tg])
  · exact mk e14 y8.1 (tg e14 rfl (by simp [z_tg])) y8.2.2.2.2.2.2.1 y8.2.2.2.2.2.2.2.1 (by simp [z_tg])
/-- the desks and the rows of laws stand, also with new numbers beside -/
theorem EWr.dks {av' : List Nat} (E : EWr h n op ng li nx sp rt ds ln av stk rn rs sw rmv rmk rkn rks wst wqu wwe wla) (a : Fr ids h h') (he : ∀ i ∈ ids, Eg h av stk i) (ha : ∀ i ∈ av', i ∈ av ∨ h.length ≤ i) (hb : ∀ i ∈ av, i ∈ av') : DkP h' av' stk rt (n, op, ng, li, nx, sp) rkn rks ∧ (∀ q ∈ ds, ∃ a b, DkP h' av' stk q.1 q.2 a b) ∧ ∀ r ∈ stk, ∃ H sk, h'[r]? = some (.inl (0, H, .inl sk)) := by
  have k : KD av' stk h h' := KD.eg a (fun i hi => by
    obtain ⟨z1, z2, z3, z4, z5⟩ := he i hi
    refine ⟨z1, z2, z3, z4, fun e q => ?_⟩
    obtain ⟨y1, y2, y3, y4, y5, y6⟩ := z5 e q
    exact ⟨y1, y2, y3, y4, y5, fun t => (y6 t).imp_right (hb i)⟩)
  have sb : ∀ i ∈ av', i ∈ av ∨ h.length ≤ i ∨ i < 83 := fun i hi => (ha i hi).elim Or.inl (fun z => Or.inr (Or.inl z))
  obtain ⟨e1, e2, -, -, -, -, -, -, -, -, -, -, -, -, -, -, e17, -⟩ := E
  refine ⟨?_, fun q hq => ?_, fun r hr => ?_⟩
  · exact (e1.sub sb (fun _ z => z)).kd k
  · obtain ⟨x, y, z⟩ := e2 q hq
    exact ⟨x, y, (z.sub sb (fun _ z => z)).kd k⟩
  · obtain ⟨-, -, -, -, -, H, sk, t6⟩ := e17 r hr
    exact ⟨H, sk, a.get t6 (fun z => (he r z).2.1 hr)⟩
end ZEg
/-- lengths behind prepareSwaps; its room -/
def pS (n : Nat) (ln : zLn) : zLn := (ln.1, bif ln.2.2.1 then ln.2.1 else max ln.2.1 (fct n * np n), true, ln.2.2.2)
def sS (n : Nat) (ln : zLn) : Nat := bif ln.2.2.1 then 0 else grw ln.2.1 (fct n * np n)
section ZPs
variable {h0 h : zH} {g : zG} {d : Nat} {dk : zDk} {st : zSt} {un : List zSt} {tp : List Nat} {tr : Nat → zTr} {pi : Nat → zPi} {fl : Nat × Nat} {ln : zLn} {sb sj : zS3} {dr : Int32}
theorem k_prepareSwaps (I : CI h0 h dk st un tp tr pi fl ln sb sj dr) : Zm g (d + 3) 1 (sS dk.1 ln) mX5_prepareSwaps [.ref 15] h (rVp (fun h' => CI h0 h' dk st un tp tr pi fl (pS dk.1 ln) sb sj dr)) := by
  obtain ⟨Z, rt, ds, C, ⟨av, stk, rn, rs, sw, rmv, rmk, rkn, rks, wst, wqu, wwe, wla, hV, E⟩, J⟩ := I
  have eg := EWr.eg hV E
  have hT := hV.1
  have nf := npf hT.2.1
  obtain ⟨-, -, ⟨f3, e3⟩, ⟨f4, e4⟩, ⟨f5, e5⟩, e6, ⟨f7, e7⟩, ⟨f8, e8⟩, ⟨q9, e9⟩, ⟨f10, e10⟩, ⟨f11, e11⟩, e12, ⟨f13, e13⟩, ⟨f14, e14⟩, e15, e16, e17, e18, e19⟩ := id E
  obtain ⟨y1, y2, y3, y4, y5, y6, y7, y8⟩ := id e15
  have cost : sS dk.1 ln = if sw = nI 1 then 0 else grw ln.2.1 (fct dk.1 * np dk.1) := by
    unfold sS
    rcases e6 with ⟨z1, z2⟩ | ⟨z1, -, z2⟩
    · rw [z2, z1, if_neg (by decide)]; rfl
    · rw [z2, z1, if_pos rfl]; rfl
  have lens : (pS dk.1 ln).2.1 = if sw = nI 1 then ln.2.1 else max ln.2.1 (fct dk.1 * np dk.1) := by
    unfold pS
    rcases e6 with ⟨z1, z2⟩ | ⟨z1, -, z2⟩
    · rw [z2, z1, if_neg (by decide)]; rfl
    · rw [z2, z1, if_pos rfl]; rfl
  rw [cost]
  refine Zm.mono (c_prepareSwaps hT (e6.imp And.left (fun z => ⟨z.1, z.2.1⟩)) e4 e5 e19.2.1 y2.2.2.1 y2.2.2.2.1) (fun v h' hq => ?_)
  obtain ⟨rfl, rs', hT', hO, hF, ⟨fs', hs'⟩, hr⟩ := hq
  rw [← lens] at hs'
  have ids : ∀ i ∈ [15, 18, 19, rs], Eg h av stk i := fun i hi => eg i (by
    simp only [List.mem_cons, List.mem_nil_iff, or_false] at hi ⊢
    omega)
  have hne : ∀ {i : Nat} {e : va_E}, h[i]? = some e → i ≠ 15 → i ≠ 18 → i ≠ 19 → i ≠ rs → h'[i]? = some e := fun q a1 a2 a3 a4 => hF.get q (by simp only [List.mem_cons, List.mem_nil_iff, or_false]; omega)
  have hl83 := C.2.1
  have fresh : ∀ {i : Nat} {e : va_E}, h[i]? = some e → i ≠ rs → i ≠ rs' := fun q z w => by
    have := hp_lt q
    omega
  have ex : Ex h h' := Ex.fr hF (fun i hi => (ids i hi).1)
  have tgne : ∀ {i j : Nat} {e e' : va_E}, h[i]? = some e → h[j]? = some e' → z_tg e ≠ z_tg e' → i ≠ j := fun a b c z => by
    subst z
    rw [a] at b
    exact c (by rw [Option.some.inj b])
  have hV' := VC.eg hV E hF ids hT'
  obtain ⟨av', ha, hb, hc⟩ : ∃ av', (∀ i ∈ av', i ∈ av ∨ h.length ≤ i) ∧ (∀ i ∈ av, i ∈ av') ∧ (rs' < 83 ∨ rs' ∈ av') := by
    rcases hr with z | z
    · exact ⟨av, fun i hi => Or.inl hi, fun i hi => hi, e18 rs' (by rw [List.mem_cons]; exact Or.inl z)⟩
    · refine ⟨rs' :: av, fun i hi => ?_, fun i hi => List.mem_cons_of_mem _ hi, Or.inr (by simp)⟩
      simp only [List.mem_cons] at hi
      rcases hi with y | y
      · exact Or.inr (by omega)
      · exact Or.inl y
  obtain ⟨d1, d2, d3⟩ := EWr.dks (av' := av') E hF ids ha hb
  have dy : zDy rs' := by
    rcases hr with z | z
    · rw [z]; exact y2
    · unfold zDy zRg; omega
  obtain ⟨n1, n2, n3, n4⟩ := e16
  obtain ⟨len', f0, r6, -⟩ := hT.2.2.2.2.2.1
  have u15 : ∀ {i : Nat}, zDy i → i ≠ 15 ∧ i ≠ 18 ∧ i ≠ 19 := fun z => by unfold zDy at z; omega
  have un : ∀ {i : Nat} {e : va_E}, h[i]? = some e → zDy i → i ≠ rs → h'[i]? = some e := fun q z w => hne q (u15 z).1 (u15 z).2.1 (u15 z).2.2 w
  have O18 : ∃ f, h'[18]? = some (.inl (0, 15, .inl f)) := by obtain ⟨_, _, fc, _, z, -⟩ := hO; exact ⟨fc, z⟩
  have l31 : (pS dk.1 ln).2.1 < 2 ^ 31 := by
    rw [lens]
    have := e19.2.1
    split
    · exact this
    · have : max ln.2.1 (fct dk.1 * np dk.1) ≤ ln.2.1 + fct dk.1 * np dk.1 := by omega
      have p31 : (2 : Nat) ^ 31 = 2147483648 := rfl
      omega
  refine ⟨rfl, Z, rt, ds, C.ex ex, ⟨av', stk, rn, rs', nI 1, rmv, rmk, rkn, rks, wst, wqu, wwe, wla, hV', d1, d2, ⟨f3, un e3 y1 (tgne e3 e4 (by simp [z_tg]))⟩, ⟨fs', hs'⟩, O18, Or.inr ⟨rfl, hO, rfl⟩, ⟨f7, un e7 y3 (tgne e7 e4 (by simp [z_tg]))⟩, ⟨f8, un e8 y4 (tgne e8 e4 (by simp [z_tg]))⟩, ⟨q9, hne e9 (by decide) (by decide) (by decide) (tgne e9 e4 (by simp [z_tg]))⟩, ⟨f10, un e10 y5 (Ne.symm n1)⟩, ⟨f11, un e11 y6 (Ne.symm n2)⟩, hne e12 (by decide) (by decide) (by decide) (tgne e12 e4 (by simp [z_tg])), ⟨f13, un e13 y7 (tgne e13 e4 (by simp [z_tg]))⟩, ⟨f14, un e14 y8 (tgne e14 e4 (by simp [z_tg]))⟩, ⟨y1, dy, y3, y4, y5, y6, y7, y8⟩, ⟨Ne.symm (fresh e10 (Ne.symm n1)), Ne.symm (fresh e11 (Ne.symm n2)), n3, n4⟩, fun r hr => ?_, fun r hr => ?_, e19.1, l31, e19.2.2⟩, J⟩
  · obtain ⟨t1, t2, t3, t4, t5, H, sk, t6⟩ := e17 r hr
    exact ⟨t1, hb _ t2, fresh t6 t3, t4, t5, d3 r hr⟩
  · simp only [List.mem_cons, List.mem_nil_iff, or_false] at hr
    rcases hr with z | z | z
    · rw [z]; exact hc
    · rw [z]; exact (e18 wst (by simp)).imp_right (hb _)
    · rw [z]; exact (e18 wqu (by simp)).imp_right (hb _)
/-- swaps stand -/
theorem CI.sw (I : CI h0 h dk st un tp tr pi fl ln sb sj dr) (hs : ln.2.2.1 = true) : ∃ rn rs sw, RT h dk.1 rn rs sw ∧ SwO h dk.1 rs := by
  obtain ⟨Z, rt, ds, C, ⟨av, stk, rn, rs, sw, rmv, rmk, rkn, rks, wst, wqu, wwe, wla, hV, E⟩, J⟩ := I
  rcases E.2.2.2.2.2.1 with ⟨-, z⟩ | ⟨-, z, -⟩
  · rw [hs] at z; cases z
  · exact ⟨rn, rs, sw, hV.1, z⟩
theorem k_bySwap {q k : Nat} (I : CI h0 h dk st un tp tr pi fl ln sb sj dr) (hs : ln.2.2.1 = true) (hq : q < fct dk.1) (hk : k < np dk.1) : Zm g d 0 0 mX5_bySwap [.ref 15, .int (nI q), .int (nI k)] h (rI (nI (swp dk.1 q k)) h) := by
  obtain ⟨rn, rs, sw, a, b⟩ := I.sw hs
  exact c_bySwap a b hq hk
theorem k_codeOf {k : Nat} (I : CI h0 h dk st un tp tr pi fl ln sb sj dr) (hs : ln.2.2.1 = true) (hk : k < np dk.1) : Zm g d 0 0 mX5_codeOf [.ref 15, .int (nI k)] h (rI (nI (10 * pr1 dk.1 k + pr2 dk.1 k)) h) := by
  obtain ⟨rn, rs, sw, a, b⟩ := I.sw hs
  exact c_codeOf a b hk
end ZPs

