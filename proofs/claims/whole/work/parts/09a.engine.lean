/-! the world of the engine: rows, visits, ways, spread, desks -/
def zRg (i : Nat) : Prop := (15 ≤ i ∧ i < 32) ∨ (56 ≤ i ∧ i < 59) ∨ 83 ≤ i
/-- outside of the engine nothing has changed -/
def Ex (h h' : zH) : Prop := h.length ≤ h'.length ∧ ∀ i, i < h.length → ¬ zRg i → h'[i]? = h[i]?
theorem Ex.rf {h : zH} : Ex h h := ⟨Nat.le_refl _, fun _ _ _ => rfl⟩
theorem Ex.tr {h h' h2 : zH} (a : Ex h h') (b : Ex h' h2) : Ex h h2 := ⟨Nat.le_trans a.1 b.1, fun i hi hn => (b.2 i (Nat.lt_of_lt_of_le hi a.1) hn).trans (a.2 i hi hn)⟩
theorem Ex.fr {ids : List Nat} {h h' : zH} (a : Fr ids h h') (hr : ∀ i ∈ ids, zRg i) : Ex h h' := ⟨a.1, fun i hi hn => a.2 i hi (fun q => hn (hr i q))⟩
theorem Ex.set {h : zH} {i : Nat} {e : va_E} (hr : zRg i) : Ex h (h.set i e) := ⟨by simp, fun j _ hn => hs_ne (fun q => hn (q ▸ hr))⟩
theorem Ex.push {h : zH} {e : va_E} : Ex h (h ++ [e]) := ⟨by simp, fun j hj _ => List.getElem?_append_left hj⟩
theorem Ex.get {h h' : zH} {i : Nat} {e : va_E} (a : Ex h h') (he : h[i]? = some e) (hn : ¬ zRg i) : h'[i]? = some e := (a.2 i (hp_lt he) hn).trans he
abbrev zDk : Type := Nat × Nat × Nat × Nat × Option (List Nat) × Option (List Nat)
abbrev zLn : Type := Nat × Nat × Bool × Nat × Nat × Nat × Nat
/-- the desks' cells stand -/
def KD (av stk : List Nat) (h h' : zH) : Prop := h.length ≤ h'.length ∧ (∀ (i : Nat) (e : va_E), (z_tg e = 1000 ∨ z_tg e = 1002) → h[i]? = some e → h'[i]? = some e) ∧ (∀ (i : Nat) (e : va_E), z_tg e = 0 → i ∉ av → 83 ≤ i → h[i]? = some e → h'[i]? = some e) ∧ ∀ r ∈ stk, Kh 0 h h' r
theorem KD.rf {av stk : List Nat} {h : zH} : KD av stk h h := ⟨Nat.le_refl _, fun _ _ _ e => e, fun _ _ _ _ _ e => e, fun _ _ => Kh.rf⟩
theorem KD.tr {av stk : List Nat} {h h' h2 : zH} (a : KD av stk h h') (b : KD av stk h' h2) : KD av stk h h2 := ⟨Nat.le_trans a.1 b.1, fun i e t q => b.2.1 i e t (a.2.1 i e t q), fun i e t n1 n2 q => b.2.2.1 i e t n1 n2 (a.2.2.1 i e t n1 n2 q), fun r hr => (a.2.2.2 r hr).tr (b.2.2.2 r hr)⟩
theorem KD.push {av stk : List Nat} {h : zH} {e : va_E} : KD av stk h (h ++ [e]) := ⟨by simp, fun _ _ _ q => hp_old q, fun _ _ _ _ _ q => hp_old q, fun _ _ _ sk q => ⟨sk, hp_old q⟩⟩
/-- a cell of no int row, nor of a desk nor a law -/
theorem KD.setT {av stk : List Nat} {h : zH} {i : Nat} {e0 e : va_E} (hi : h[i]? = some e0) (h1 : z_tg e0 ≠ 1000) (h2 : z_tg e0 ≠ 1002) (h3 : z_tg e0 ≠ 0) : KD av stk h (h.set i e) := ⟨by simp, fun j e1 t q => hs_t hi q (by omega), fun j e1 t _ _ q => hs_t hi q (by omega), fun _ _ => Kh.setT hi h3⟩
theorem KD.setA {av stk : List Nat} {h : zH} {i H : Nat} {f f' : Nat → Int32} (hi : h[i]? = some (.inl (0, H, .inl f))) (ha : i < 83 ∨ i ∈ av) : KD av stk h (h.set i (.inl (0, H, .inl f'))) := by
  refine ⟨by simp, fun j e1 t q => hs_t hi q ?_, fun j e1 t n1 n2 q => ?_, fun _ _ => Kh.setA hi⟩
  · show 0 ≠ _
    omega
  · have : i ≠ j := fun z => by
      subst z
      rcases ha with z | z
      · omega
      · exact n1 z
    rw [hs_ne this]
    exact q
def RkS (stk : List Nat) (code : Option (List Nat)) (rk : Nat) : Prop := rk ∈ stk ∨ (code = none ∧ rk = 20)
def DkP (h : zH) (av stk : List Nat) (rt : Nat) (dk : zDk) (rkn rks : Nat) : Prop := (∃ fc fr vn vs, h[rt]? = some (deskE dk.1 dk.2.1 fc fr (nI dk.2.2.1) (nI dk.2.2.2.1) vn vs) ∧ LawC h vn false rkn av dk.2.2.2.2.1 ∧ LawC h vs true rks av dk.2.2.2.2.2) ∧ RkS stk dk.2.2.2.2.1 rkn ∧ RkS stk dk.2.2.2.2.2 rks ∧ 0 < dk.1 ∧ dk.1 ≤ 6 ∧ 0 < dk.2.1 ∧ dk.2.1 ≤ 9 ∧ dk.2.2.1 < fct dk.1 ∧ dk.2.2.2.1 < 2 ^ 31
theorem LawC.kd {h h' : zH} {v : Value} {b : Bool} {rk : Nat} {av stk : List Nat} {code : Option (List Nat)} (a : LawC h v b rk av code) (k : KD av stk h h') (hr : RkS stk code rk) : LawC h' v b rk av code := by
  cases code with
  | none => exact a
  | some cs =>
    rcases hr with z | ⟨z, -⟩
    · exact a.keep (fun i e t q => k.2.1 i e (Or.inr t) q) (fun i e t n1 n2 q => k.2.2.1 i e t n1 n2 q) (fun H sk q => k.2.2.2 rk z H sk q)
    · cases z
theorem DkP.kd {h h' : zH} {av stk : List Nat} {rt rkn rks : Nat} {dk : zDk} (a : DkP h av stk rt dk rkn rks) (k : KD av stk h h') : DkP h' av stk rt dk rkn rks := by
  obtain ⟨⟨fc, fr, vn, vs, a1, a2, a3⟩, a4, a5, a6⟩ := a
  exact ⟨⟨fc, fr, vn, vs, k.2.1 rt _ (Or.inl rfl) a1, a2.kd k a4, a3.kd k a5⟩, a4, a5, a6⟩
theorem LawC.sub {h : zH} {v : Value} {b : Bool} {rk : Nat} {av av' : List Nat} {code : Option (List Nat)} (a : LawC h v b rk av code) (hs : ∀ i ∈ av', i ∈ av ∨ h.length ≤ i ∨ i < 83) : LawC h v b rk av' code := by
  cases code with
  | none => exact a
  | some cs =>
    obtain ⟨rl, rs, H, fs, sk, e1, e2, e3, e4, e5, e6, e7, e8, e9, e10, e11⟩ := a
    refine ⟨rl, rs, H, fs, sk, e1, e2, e3, e4, e5, e6, e7, e8, fun q => ?_, e10, e11⟩
    have := hp_lt e3
    rcases hs rs q with z | z | z
    · exact e9 z
    · omega
    · exact absurd e10 (Nat.not_le_of_lt z)
theorem DkP.sub {h : zH} {av stk av' stk' : List Nat} {rt rkn rks : Nat} {dk : zDk} (a : DkP h av stk rt dk rkn rks) (hs : ∀ i ∈ av', i ∈ av ∨ h.length ≤ i ∨ i < 83) (hk : ∀ i ∈ stk, i ∈ stk') : DkP h av' stk' rt dk rkn rks := by
  obtain ⟨⟨fc, fr, vn, vs, a1, a2, a3⟩, a4, a5, a6⟩ := a
  exact ⟨⟨fc, fr, vn, vs, a1, a2.sub hs, a3.sub hs⟩, a4.imp_left (hk _), a5.imp_left (hk _), a6⟩
/-- a number of a row of the engine's that can be replaced -/
def zDy (i : Nat) : Prop := zRg i ∧ i ≠ 15 ∧ i ≠ 18 ∧ i ≠ 19 ∧ i ≠ 20 ∧ i ≠ 23 ∧ i ≠ 24 ∧ i ≠ 25 ∧ i ≠ 26 ∧ i ≠ 29
abbrev waysE (wst wqu : Nat) (qd : Int32) : va_E := .inr (10, [.ref 15, .ref 20, .ref wst, .ref wqu, .int qd])
abbrev sprE (wwe wla : Nat) : va_E := .inr (6, [.ref 15, .ref wwe, .ref wla])
/-- what the engine has beside visits -/
def EWr (h : zH) (n op ng li : Nat) (nx sp : Option (List Nat)) (rt : Nat) (ds : List (Nat × zDk)) (ln : zLn) (av stk : List Nat) (rn rs : Nat) (sw : Int32) (rmv rmk rkn rks wst wqu wwe wla : Nat) : Prop :=
  DkP h av stk rt (n, op, ng, li, nx, sp) rkn rks ∧ (∀ q ∈ ds, ∃ a b, DkP h av stk q.1 q.2 a b) ∧
  (∃ f, h[rn]? = some (.inl (1, ln.1, .inl f))) ∧ (∃ f, h[rs]? = some (.inl (0, ln.2.1, .inl f))) ∧ (∃ f, h[18]? = some (.inl (0, 15, .inl f))) ∧
  ((sw = nI 0 ∧ ln.2.2.1 = false) ∨ (sw = nI 1 ∧ SwO h n rs ∧ ln.2.2.1 = true)) ∧
  (∃ f, h[rmv]? = some (.inl (1, ln.2.2.2.1, .inl f))) ∧ (∃ f, h[rmk]? = some (.inl (1, ln.2.2.2.2.1, .inl f))) ∧
  (∃ qd, h[26]? = some (waysE wst wqu qd)) ∧ (∃ f, h[wst]? = some (.inl (0, ln.2.2.2.2.2.1, .inl f))) ∧ (∃ f, h[wqu]? = some (.inl (0, ln.2.2.2.2.2.1, .inl f))) ∧
  h[29]? = some (sprE wwe wla) ∧ (∃ f, h[wwe]? = some (.inl (2, ln.2.2.2.2.2.2, .inr (.inl f)))) ∧ (∃ f, h[wla]? = some (.inl (2, ln.2.2.2.2.2.2, .inr (.inl f)))) ∧
  (zDy rn ∧ zDy rs ∧ zDy rmv ∧ zDy rmk ∧ zDy wst ∧ zDy wqu ∧ zDy wwe ∧ zDy wla) ∧ (rs ≠ wst ∧ rs ≠ wqu ∧ wst ≠ wqu ∧ wwe ≠ wla) ∧
  (∀ r ∈ stk, 83 ≤ r ∧ r ∈ av ∧ r ≠ rs ∧ r ≠ wst ∧ r ≠ wqu ∧ ∃ H sk, h[r]? = some (.inl (0, H, .inl sk))) ∧ (∀ r ∈ [rs, wst, wqu], r < 83 ∨ r ∈ av) ∧ (ln.1 < 2 ^ 31 ∧ ln.2.1 < 2 ^ 31 ∧ ln.2.2.2.2.2.1 < 2 ^ 31 ∧ ln.2.2.2.2.2.2 < 2 ^ 31)
def EW (h : zH) (n op ng li : Nat) (nx sp : Option (List Nat)) (rt : Nat) (ds : List (Nat × zDk)) (ln : zLn) : Prop := ∃ av stk rn rs sw rmv rmk rkn rks wst wqu wwe wla, VC h n rn rs sw rt rmv rmk rkn rks op nx sp ∧ EWr h n op ng li nx sp rt ds ln av stk rn rs sw rmv rmk rkn rks wst wqu wwe wla
section ZE
variable {h h' : zH} {n op ng li rt rn rs rmv rmk rkn rks wst wqu wwe wla : Nat} {sw : Int32} {nx sp : Option (List Nat)} {ds : List (Nat × zDk)} {ln : zLn} {av stk : List Nat}
theorem EWr.kd (E : EWr h n op ng li nx sp rt ds ln av stk rn rs sw rmv rmk rkn rks wst wqu wwe wla) (k : KD av stk h h') (hu : ∀ i ∈ [rn, rs, 18, 26, wst, wqu, 29, wwe, wla], h'[i]? = h[i]?) (k1 : Kh 1 h h' rmv) (k2 : Kh 1 h h' rmk) : EWr h' n op ng li nx sp rt ds ln av stk rn rs sw rmv rmk rkn rks wst wqu wwe wla := by
  simp only [List.mem_cons, List.mem_nil_iff, or_false, forall_eq_or_imp, forall_eq] at hu
  obtain ⟨u1, u2, u3, u4, u5, u6, u7, u8, u9⟩ := hu
  obtain ⟨e1, e2, e3, e4, e5, e6, ⟨f7, e7⟩, ⟨f8, e8⟩, e9, e10, e11, e12, e13, e14, e15, e16, e17, e18, e19⟩ := E
  refine ⟨e1.kd k, fun q hq => ?_, by rw [u1]; exact e3, by rw [u2]; exact e4, by rw [u3]; exact e5, ?_, k1 _ _ e7, k2 _ _ e8, by rw [u4]; exact e9, by rw [u5]; exact e10, by rw [u6]; exact e11, by rw [u7]; exact e12, by rw [u8]; exact e13, by rw [u9]; exact e14, e15, e16, fun r hr => ?_, e18, e19⟩
  · obtain ⟨a, b, z⟩ := e2 q hq
    exact ⟨a, b, z.kd k⟩
  · rcases e6 with z | ⟨z1, z2, z3⟩
    · exact Or.inl z
    · refine Or.inr ⟨z1, ?_, z3⟩
      unfold SwO
      rw [u2, u3]
      exact z2
  · obtain ⟨t1, t2, t3, t4, t5, H, sk, t6⟩ := e17 r hr
    obtain ⟨sk', t7⟩ := k.2.2.2 r hr H sk t6
    exact ⟨t1, t2, t3, t4, t5, H, sk', t7⟩
/-- cells that visits don't touch -/
theorem vI_no (hV : VC h n rn rs sw rt rmv rmk rkn rks op nx sp) (E : EWr h n op ng li nx sp rt ds ln av stk rn rs sw rmv rmk rkn rks wst wqu wwe wla) {i : Nat} {e : va_E} (hi : h[i]? = some e) (h1 : z_tg e ≠ 1009) (h3 : z_tg e ≠ 3) (h4 : z_tg e ≠ 1 ∨ (i ≠ rmv ∧ i ≠ rmk)) (h0 : z_tg e ≠ 0 ∨ (i ≠ 24 ∧ i ≠ 25 ∧ i ∉ stk)) : i ∉ vIds rmv rmk rkn rks := by
  obtain ⟨-, -, ⟨len, fr, b20⟩, -, -, ⟨lm, fm, lk, fk, kp, bmv, bmk, b23, -⟩, ⟨w, b24⟩, ⟨pa, b25⟩, -⟩ := hV
  obtain ⟨⟨-, r1, r2, -⟩, -, -, -, -, -, -, -, -, -, -, -, -, -, -, -, e17, -⟩ := E
  have key : ∀ {j : Nat} {e' : va_E}, h[j]? = some e' → i = j → z_tg e = z_tg e' := fun hj q => by
    subst q
    rw [hi] at hj
    rw [Option.some.inj hj]
  have rk : ∀ {code : Option (List Nat)} {r : Nat}, RkS stk code r → i ≠ r := fun hr q => by
    rcases hr with z | ⟨-, z⟩
    · obtain ⟨-, -, -, -, -, H, sk, t⟩ := e17 _ z
      rcases h0 with y | ⟨-, -, y⟩
      · exact y (key t q)
      · exact y (q ▸ z)
    · exact h1 (key b20 (q.trans z))
  simp only [List.mem_cons, List.mem_nil_iff, or_false, not_or]
  refine ⟨fun q => h1 (key b20 q), fun q => h3 (key b23 q), fun q => ?_, fun q => ?_, fun q => ?_, fun q => ?_, rk r1, rk r2⟩
  · rcases h0 with y | ⟨y, -, -⟩
    · exact y (key b24 q)
    · exact y q
  · rcases h0 with y | ⟨-, y, -⟩
    · exact y (key b25 q)
    · exact y q
  · rcases h4 with y | ⟨y, -⟩
    · exact y (key bmv q)
    · exact y q
  · rcases h4 with y | ⟨-, y⟩
    · exact y (key bmk q)
    · exact y q
theorem KD.gv (hV : VC h n rn rs sw rt rmv rmk rkn rks op nx sp) (E : EWr h n op ng li nx sp rt ds ln av stk rn rs sw rmv rmk rkn rks wst wqu wwe wla) (g : Gv rmv rmk rkn rks h h') : KD av stk h h' := by
  refine ⟨g.1.1, fun i e t q => g.1.get q (vI_no hV E q (by omega) (by omega) (by omega) (by omega)), fun i e t n1 n2 q => g.1.get q (vI_no hV E q (by omega) (by omega) (by omega) (Or.inr ⟨by omega, by omega, fun z => n1 (E.2.2.2.2.2.2.2.2.2.2.2.2.2.2.2.2.1 i z).2.1⟩)), fun r hr => ?_⟩
  by_cases q1 : r = rkn
  · subst q1; exact g.2.1
  · by_cases q2 : r = rks
    · subst q2; exact g.2.2.1
    · intro H sk e
      obtain ⟨t1, -⟩ := E.2.2.2.2.2.2.2.2.2.2.2.2.2.2.2.2.1 r hr
      refine ⟨sk, g.1.get e ?_⟩
      obtain ⟨-, -, ⟨len, fr, b20⟩, -, -, ⟨lm, fm, lk, fk, kp, bmv, bmk, b23, -⟩, -⟩ := hV
      simp only [List.mem_cons, List.mem_nil_iff, or_false, not_or]
      refine ⟨by omega, by omega, by omega, by omega, fun q => ?_, fun q => ?_, q1, q2⟩
      · rw [q, bmv] at e; cases e
      · rw [q, bmk] at e; cases e
/-- behind visits the whole engine stands -/
theorem EW.gv' (hV : VC h n rn rs sw rt rmv rmk rkn rks op nx sp) (E : EWr h n op ng li nx sp rt ds ln av stk rn rs sw rmv rmk rkn rks wst wqu wwe wla) (g : Gv rmv rmk rkn rks h h') : EWr h' n op ng li nx sp rt ds ln av stk rn rs sw rmv rmk rkn rks wst wqu wwe wla ∧ Ex h h' := by
  have k := KD.gv hV E g
  obtain ⟨-, -, ⟨f3, e3⟩, ⟨f4, e4⟩, ⟨f5, e5⟩, -, -, -, ⟨q9, e9⟩, ⟨f10, e10⟩, ⟨f11, e11⟩, e12, ⟨f13, e13⟩, ⟨f14, e14⟩, e15, e16, e17, -⟩ := id E
  obtain ⟨-, -, -, -, -, -, -, -, n1, n2, -⟩ := id hV
  obtain ⟨y1, y2, y3, y4, y5, y6, y7, y8⟩ := e15
  have st : ∀ i ∈ [rs, wst, wqu], i ∉ stk := fun i hi z => by
    obtain ⟨-, -, t3, t4, t5, -⟩ := e17 i z
    simp at hi
    omega
  refine ⟨E.kd k (fun i hi => ?_) g.2.2.2.1 g.2.2.2.2, ?_⟩
  · have un : ∀ {e : va_E}, h[i]? = some e → i ∉ vIds rmv rmk rkn rks → h'[i]? = h[i]? := fun q z => g.1.2 i (hp_lt q) z
    simp only [List.mem_cons, List.mem_nil_iff, or_false] at hi
    rcases hi with rfl | rfl | rfl | rfl | rfl | rfl | rfl | rfl | rfl
    · exact un e3 (vI_no hV E e3 (by simp [z_tg]) (by simp [z_tg]) (Or.inr ⟨n1, n2⟩) (Or.inl (by simp [z_tg])))
    · exact un e4 (vI_no hV E e4 (by simp [z_tg]) (by simp [z_tg]) (Or.inl (by simp [z_tg])) (Or.inr ⟨y2.2.2.2.2.2.2.1, y2.2.2.2.2.2.2.2.1, st _ (by simp)⟩))
    · exact un e5 (vI_no hV E e5 (by simp [z_tg]) (by simp [z_tg]) (Or.inl (by simp [z_tg])) (Or.inr ⟨by decide, by decide, fun z => absurd (e17 _ z).1 (by decide)⟩))
    · exact un e9 (vI_no hV E e9 (by simp [z_tg]) (by simp [z_tg]) (Or.inl (by simp [z_tg])) (Or.inl (by simp [z_tg])))
    · exact un e10 (vI_no hV E e10 (by simp [z_tg]) (by simp [z_tg]) (Or.inl (by simp [z_tg])) (Or.inr ⟨y5.2.2.2.2.2.2.1, y5.2.2.2.2.2.2.2.1, st _ (by simp)⟩))
    · exact un e11 (vI_no hV E e11 (by simp [z_tg]) (by simp [z_tg]) (Or.inl (by simp [z_tg])) (Or.inr ⟨y6.2.2.2.2.2.2.1, y6.2.2.2.2.2.2.2.1, st _ (by simp)⟩))
    · exact un e12 (vI_no hV E e12 (by simp [z_tg]) (by simp [z_tg]) (Or.inl (by simp [z_tg])) (Or.inl (by simp [z_tg])))
    · exact un e13 (vI_no hV E e13 (by simp [z_tg]) (by simp [z_tg]) (Or.inl (by simp [z_tg])) (Or.inl (by simp [z_tg])))
    · exact un e14 (vI_no hV E e14 (by simp [z_tg]) (by simp [z_tg]) (Or.inl (by simp [z_tg])) (Or.inl (by simp [z_tg])))
  · refine Ex.fr g.1 (fun i hi => ?_)
    have rk : ∀ {code : Option (List Nat)} {r : Nat}, RkS stk code r → zRg r := fun hr => by
      rcases hr with z | ⟨-, z⟩
      · exact Or.inr (Or.inr (e17 _ z).1)
      · rw [z]; exact Or.inl ⟨by decide, by decide⟩
    simp only [List.mem_cons, List.mem_nil_iff, or_false] at hi
    rcases hi with rfl | rfl | rfl | rfl | rfl | rfl | rfl | rfl
    · exact Or.inl ⟨by decide, by decide⟩
    · exact Or.inl ⟨by decide, by decide⟩
    · exact Or.inl ⟨by decide, by decide⟩
    · exact Or.inl ⟨by decide, by decide⟩
    · exact y3.1
    · exact y4.1
    · exact rk E.1.2.1
    · exact rk E.1.2.2.1
theorem VC.s19 {f : Nat → Int32} (a : VC h n rn rs sw rt rmv rmk rkn rks op nx sp) : VC (h.set 19 (.inl (0, 6, .inl f))) n rn rs sw rt rmv rmk rkn rks op nx sp := by
  obtain ⟨a1, ⟨fc, fr, nr, li, vn, vs, a2, a3, a4⟩, ⟨len, fr', a5⟩, a6, a7, a8, ⟨w, a9⟩, ⟨pa, a10⟩, a11, a12, a13, a14, a15⟩ := a
  obtain ⟨fm, m⟩ := a1.2.2.2.2.2.2
  exact ⟨a1.made, ⟨fc, fr, nr, li, vn, vs, hs_t m a2 (by simp [z_tg]), a3.set m (by simp [z_tg]) (Or.inr (by simp [z_tg])) a14, a4.set m (by simp [z_tg]) (Or.inr (by simp [z_tg])) a15⟩, ⟨len, fr', hs_t m a5 (by simp [z_tg])⟩, a6, a7, a8.setT m (by simp [z_tg]) (by simp [z_tg]), ⟨w, by rw [hs_ne (by simp [z_tg])]; exact a9⟩, ⟨pa, by rw [hs_ne (by simp [z_tg])]; exact a10⟩, a11, a12, a13, a14, a15⟩
theorem EW.gv (hV : VC h n rn rs sw rt rmv rmk rkn rks op nx sp) (E : EWr h n op ng li nx sp rt ds ln av stk rn rs sw rmv rmk rkn rks wst wqu wwe wla) (q : MkP h h' n rn rs sw rt rmv rmk rkn rks op nx sp) : EW h' n op ng li nx sp rt ds ln ∧ Ex h h' := by
  obtain ⟨z1, z2⟩ := EW.gv' hV E q.1
  exact ⟨⟨av, stk, rn, rs, sw, rmv, rmk, rkn, rks, wst, wqu, wwe, wla, q.2, z1⟩, z2⟩
theorem EW.md (W : EW h n op ng li nx sp rt ds ln) (q : Md h h') : EW h' n op ng li nx sp rt ds ln ∧ Ex h h' := by
  obtain ⟨av, stk, rn, rs, sw, rmv, rmk, rkn, rks, wst, wqu, wwe, wla, hV, E⟩ := W
  obtain ⟨f, rfl⟩ := q
  obtain ⟨fm, m⟩ := hV.1.2.2.2.2.2.2
  obtain ⟨y1, y2, y3, y4, y5, y6, y7, y8⟩ := E.2.2.2.2.2.2.2.2.2.2.2.2.2.2.1
  refine ⟨⟨av, stk, rn, rs, sw, rmv, rmk, rkn, rks, wst, wqu, wwe, wla, hV.s19, E.kd (KD.setA m (Or.inl (by decide))) (fun i hi => ?_) (Kh.setA m) (Kh.setA m)⟩, Ex.set (Or.inl ⟨by decide, by decide⟩)⟩
  refine hs_ne (fun z => ?_)
  subst z
  simp only [List.mem_cons, List.mem_nil_iff, or_false] at hi
  unfold zDy at y1 y2 y5 y6 y7 y8
  omega
end ZE

