/-! the class's world: its cells beside the engine's, by a partial map Z; its state -/
abbrev zS3 : Type := Int32 × Int32 × Int32
abbrev s3E (t : zS3) : va_E := .inr (7, [.int t.1, .int t.2.1, .int t.2.2])
abbrev s3 (st : zSt) : zS3 := (nI st.1, nI st.2.1, st.2.2)
abbrev xE (tl : Int32) (rt : Nat) (ud dr : Int32) : va_E := .inr (11, [.ref 1, .int tl, .ref 2, .ref rt, .ref 9, .ref 10, .ref 11, .ref 12, .int ud, .int dr, .ref 13, .ref 14, .ref 15, .ref 20, .ref 26, .ref 29, .ref 32, .ref 33])
abbrev trE (so sz : Int32) (v : Nat) : va_E := .inr (8, [.int so, .int sz, .ref v])
abbrev rfA (t n : Nat) (u : Nat → Option Nat) : va_E := .inl (t, n, .inr (.inr (.inr (.inr u))))
abbrev lnA (n : Nat) (f : Nat → Int64) : va_E := .inl (2, n, .inr (.inl f))
abbrev inA (n : Nat) (f : Nat → Int32) : va_E := .inl (0, n, .inl f)
abbrev drE (a : Nat) (l he hi : Int32) : va_E := .inr (1, [.ref a, .int l, .int he, .int hi])
abbrev rdE (fa pl dw op cu li : Int32) (tx : Value) (le hd tk st va de : Int32) (dr : Nat) : va_E := .inr (4, [.int fa, .int pl, .int dw, .int op, .int cu, .int li, .ref 3, .ref 4, .ref 5, .ref 7, tx, .int le, .int hd, .int tk, .int st, .int va, .int de, .ref dr])
abbrev stOk (n : Nat) (st : zSt) : Prop := st.1 < fct n ∧ st.2.1 < 10
/-- the model's cells stand -/
def Co (h0 h : zH) : Prop := h0.length ≤ h.length ∧ ∀ i, 59 ≤ i → i < 83 → h[i]? = h0[i]?
theorem Co.rf {h : zH} : Co h h := ⟨Nat.le_refl _, fun _ _ _ => rfl⟩
theorem Co.tr {h h' h2 : zH} (a : Co h h') (b : Co h' h2) : Co h h2 := ⟨Nat.le_trans a.1 b.1, fun i h1 h2 => (b.2 i h1 h2).trans (a.2 i h1 h2)⟩
theorem EW.upd {h h' : zH} {n op ng li rt : Nat} {nx sp : Option (List Nat)} {ds : List (Nat × zDk)} {ln : zLn} (W : EW h n op ng li nx sp rt ds ln) (hl : h.length ≤ h'.length) (hz : ∀ i, zRg i → i < h.length → h'[i]? = h[i]?) (ht : ∀ (i : Nat) (e : va_E), (z_tg e = 1000 ∨ z_tg e = 1002) → h[i]? = some e → h'[i]? = some e) : EW h' n op ng li nx sp rt ds ln := by
  obtain ⟨av, stk, rn, rs, sw, rmv, rmk, rkn, rks, wst, wqu, wwe, wla, hV, E⟩ := W
  have get : ∀ {i : Nat} {e : va_E}, zRg i → h[i]? = some e → h'[i]? = some e := fun hi q => (hz _ hi (hp_lt q)).trans q
  have E17 := E.2.2.2.2.2.2.2.2.2.2.2.2.2.2.2.2.1
  have k : KD av stk h h' := ⟨hl, ht, fun i e _ _ q83 q => get (Or.inr (Or.inr q83)) q, fun r hr H sk q => ⟨sk, get (Or.inr (Or.inr (E17 r hr).1)) q⟩⟩
  obtain ⟨-, -, ⟨f3, e3⟩, ⟨f4, e4⟩, ⟨f5, e5⟩, -, -, -, ⟨q9, e9⟩, ⟨f10, e10⟩, ⟨f11, e11⟩, e12, ⟨f13, e13⟩, ⟨f14, e14⟩, ⟨y1, y2, y3, y4, y5, y6, y7, y8⟩, -⟩ := id E
  have zr : ∀ i, 15 ≤ i → i < 32 → zRg i := fun i a b => Or.inl ⟨a, b⟩
  refine ⟨av, stk, rn, rs, sw, rmv, rmk, rkn, rks, wst, wqu, wwe, wla, ?_, E.kd k (fun i hi => ?_) (fun H sk q => ⟨sk, get y3.1 q⟩) (fun H sk q => ⟨sk, get y4.1 q⟩)⟩
  · obtain ⟨a1, ⟨fc, fr, nr, li', vn, vs, a2, a3, a4⟩, ⟨len, fr', a5⟩, a6, a7, ⟨lm, fm, lk, fk, kp, b1, b2, b3, b4⟩, ⟨w, a9⟩, ⟨pa, a10⟩, a11, a12, a13, a14, a15⟩ := hV
    obtain ⟨r1, r2, r3, r4, r5, ⟨len', f0, r6, r7⟩, fm', r8⟩ := a1
    have rk : ∀ {code : Option (List Nat)} {r : Nat}, Rk code r → zRg r := fun z => by
      rcases z with z | ⟨-, z⟩
      · exact Or.inr (Or.inr z)
      · rw [z]; exact zr 20 (by decide) (by decide)
    exact ⟨⟨r1, r2, r3, r4, get (zr 15 (by decide) (by decide)) r5, ⟨len', f0, get y1.1 r6, r7⟩, fm', get (zr 19 (by decide) (by decide)) r8⟩, ⟨fc, fr, nr, li', vn, vs, ht _ _ (Or.inl rfl) a2, a3.keep (fun i e t q => ht i e (Or.inr t) q) (fun i e _ _ q83 q => get (Or.inr (Or.inr q83)) q) (fun H sk q => ⟨sk, get (rk a14) q⟩), a4.keep (fun i e t q => ht i e (Or.inr t) q) (fun i e _ _ q83 q => get (Or.inr (Or.inr q83)) q) (fun H sk q => ⟨sk, get (rk a15) q⟩)⟩, ⟨len, fr', get (zr 20 (by decide) (by decide)) a5⟩, a6, a7, ⟨lm, fm, lk, fk, kp, get y3.1 b1, get y4.1 b2, get (zr 23 (by decide) (by decide)) b3, b4⟩, ⟨w, get (zr 24 (by decide) (by decide)) a9⟩, ⟨pa, get (zr 25 (by decide) (by decide)) a10⟩, a11, a12, a13, a14, a15⟩
  · simp only [List.mem_cons, List.mem_nil_iff, or_false] at hi
    rcases hi with rfl | rfl | rfl | rfl | rfl | rfl | rfl | rfl | rfl
    · exact hz _ y1.1 (hp_lt e3)
    · exact hz _ y2.1 (hp_lt e4)
    · exact hz _ (zr 18 (by decide) (by decide)) (hp_lt e5)
    · exact hz _ (zr 26 (by decide) (by decide)) (hp_lt e9)
    · exact hz _ y5.1 (hp_lt e10)
    · exact hz _ y6.1 (hp_lt e11)
    · exact hz _ (zr 29 (by decide) (by decide)) (hp_lt e12)
    · exact hz _ y7.1 (hp_lt e13)
    · exact hz _ y8.1 (hp_lt e14)
def CW (h0 h : zH) (Z : Nat → Option va_E) : Prop := (∀ i e, Z i = some e → h[i]? = some e ∧ i < 59 ∧ ¬ zRg i ∧ z_tg e ≠ 1000 ∧ z_tg e ≠ 1002) ∧ 83 ≤ h.length ∧ Co h0 h
section ZCW
variable {h0 h h' : zH} {Z : Nat → Option va_E} {i : Nat} {e e0 : va_E}
theorem CW.get (C : CW h0 h Z) (hz : Z i = some e) : h[i]? = some e := (C.1 i e hz).1
theorem CW.set (C : CW h0 h Z) (hz : Z i = some e0) (ht : z_tg e = z_tg e0) : CW h0 (h.set i e) (upM Z i (some e)) := by
  obtain ⟨c1, c0, c2, c3⟩ := C
  obtain ⟨d1, d2, d3, d4, d5⟩ := c1 i e0 hz
  refine ⟨fun j e' hj => ?_, by rw [List.length_set]; exact c0, by rw [List.length_set]; exact c2, fun j a b => by rw [hs_ne (by omega)]; exact c3 j a b⟩
  by_cases q : j = i
  · subst q
    rw [upM_eq] at hj
    obtain rfl := Option.some.inj hj
    exact ⟨hs_eq d1, d2, d3, by rw [ht]; exact d4, by rw [ht]; exact d5⟩
  · rw [upM_ne q] at hj
    rw [hs_ne (Ne.symm q)]
    exact c1 j e' hj
theorem CW.ex (C : CW h0 h Z) (X : Ex h h') : CW h0 h' Z := by
  obtain ⟨c1, c0, c2, c3⟩ := C
  refine ⟨fun j e' hj => ?_, Nat.le_trans c0 X.1, Nat.le_trans c2 X.1, fun j a b => ?_⟩
  · obtain ⟨d1, d2⟩ := c1 j e' hj
    exact ⟨X.get d1 d2.2.1, d2⟩
  · rw [← c3 j a b]
    exact X.2 j (by omega) (by unfold zRg; omega)
variable {n op ng li rt : Nat} {nx sp : Option (List Nat)} {ds : List (Nat × zDk)} {ln : zLn}
theorem EW.set (W : EW h n op ng li nx sp rt ds ln) (C : CW h0 h Z) (hz : Z i = some e0) : EW (h.set i e) n op ng li nx sp rt ds ln := by
  obtain ⟨d1, d2, d3, d4, d5⟩ := C.1 i e0 hz
  refine W.upd (by simp) (fun j hj _ => hs_ne (fun q => d3 (q ▸ hj))) (fun j e1 ht hj => hs_t d1 hj ?_)
  intro q
  rcases ht with z | z
  · exact d4 (q.trans z)
  · exact d5 (q.trans z)
end ZCW
/-- tape, states to undo, trays, pictures, the reader as they stand in Z -/
def bsg (b : Nat) : Int32 := (nI b).toInt8.toInt32
def TpJ (Z : Nat → Option va_E) (tp : List Nat) : Prop := tp.length ≤ 900 ∧ ∃ f, Z 1 = some (.inl (1, 900, .inl f)) ∧ ∀ i, i < tp.length → f i = bsg (tp.getD i 0) ∧ tp.getD i 0 < 256
def UnJ (Z : Nat → Option va_E) (n : Nat) (un : List zSt) : Prop := un.length ≤ 10 ∧ ∃ off u, Z 12 = some (rfA 4 10 u) ∧ (∀ i, i < 10 → u i = some (34 + (off + i) % 10)) ∧ (∀ i, i < 10 → ∃ t, Z (34 + i) = some (s3E t)) ∧ ∀ i, i < un.length → Z (34 + (off + i) % 10) = some (s3E (s3 (un.getD i (0, 0, 0)))) ∧ stOk n (un.getD i (0, 0, 0))
def TrJ (Z : Nat → Option va_E) (t : Nat) (q : zTr) : Prop := match q with
  | none => ∃ so f, Z (44 + 2 * t) = some (trE so (-1) (45 + 2 * t)) ∧ Z (45 + 2 * t) = some (lnA 40 f)
  | some q => ∃ f, Z (44 + 2 * t) = some (trE (nI q.1) (nI q.2.length) (45 + 2 * t)) ∧ Z (45 + 2 * t) = some (lnA 40 f) ∧ q.1 < 4 ∧ q.2.length ≤ 40 ∧ ∀ i, i < q.2.length → f i = q.2.getD i 0
def TrsJ (Z : Nat → Option va_E) (tr : Nat → zTr) : Prop := (∃ u, Z 13 = some (rfA 5 4 u) ∧ ∀ t, t < 4 → u t = some (44 + 2 * t)) ∧ ∀ t, t < 4 → TrJ Z t (tr t)
def PiJ (Z : Nat → Option va_E) (ds : List (Nat × zDk)) (t : Nat) (q : zPi) : Prop := match q with
  | none => ∃ s, Z (52 + 2 * t) = some (.inr (3, [.null, .ref (53 + 2 * t)])) ∧ Z (53 + 2 * t) = some (s3E s)
  | some q => ∃ r, Z (52 + 2 * t) = some (.inr (3, [.ref r, .ref (53 + 2 * t)])) ∧ (r, q.1) ∈ ds ∧ Z (53 + 2 * t) = some (s3E (s3 q.2)) ∧ stOk q.1.1 q.2
def PisJ (Z : Nat → Option va_E) (ds : List (Nat × zDk)) (pi : Nat → zPi) : Prop := (∃ u, Z 14 = some (rfA 6 2 u) ∧ ∀ t, t < 2 → u t = some (52 + 2 * t)) ∧ ∀ t, t < 2 → PiJ Z ds t (pi t)
def LyJ (Z : Nat → Option va_E) : Prop := (∃ f, Z 32 = some (inA 36 f)) ∧ ∃ f, Z 33 = some (lnA 21 f)
def RJ (Z : Nat → Option va_E) (fl : Nat × Nat) : Prop := (∃ pl dw op cu li tx le hd tk st va de dr, Z 2 = some (rdE (nI fl.1) pl dw op cu li tx le hd tk st va de dr) ∧ (tx = .null ∨ tx = .ref 1) ∧ (dr = 5 ∨ dr = 7) ∧ (fl.1 ≠ 0 → pl = nI fl.2) ∧ fl.1 < 5) ∧ (∃ f, Z 3 = some (inA 6 f)) ∧ (∃ f, Z 4 = some (inA 6 f)) ∧ (∃ l he hi, Z 5 = some (drE 6 l he hi)) ∧ (∃ f, Z 6 = some (inA 900 f)) ∧ (∃ l he hi, Z 7 = some (drE 8 l he hi)) ∧ (∃ f, Z 8 = some (inA 900 f))
def CJ (Z : Nat → Option va_E) (rt : Nat) (ds : List (Nat × zDk)) (dk : zDk) (st : zSt) (un : List zSt) (tp : List Nat) (tr : Nat → zTr) (pi : Nat → zPi) (fl : Nat × Nat) (sb sj : zS3) (dr : Int32) : Prop := Z 0 = some (xE (nI tp.length) rt (nI un.length) dr) ∧ (Z 9 = some (s3E (s3 st)) ∧ stOk dk.1 st) ∧ Z 10 = some (s3E sb) ∧ Z 11 = some (s3E sj) ∧ TpJ Z tp ∧ UnJ Z dk.1 un ∧ TrsJ Z tr ∧ PisJ Z ds pi ∧ LyJ Z ∧ RJ Z fl
def EWk (h : zH) (dk : zDk) (rt : Nat) (ds : List (Nat × zDk)) (ln : zLn) : Prop := EW h dk.1 dk.2.1 dk.2.2.1 dk.2.2.2.1 dk.2.2.2.2.1 dk.2.2.2.2.2 rt ds ln
def CI (h0 h : zH) (dk : zDk) (st : zSt) (un : List zSt) (tp : List Nat) (tr : Nat → zTr) (pi : Nat → zPi) (fl : Nat × Nat) (ln : zLn) (sb sj : zS3) (dr : Int32) : Prop := ∃ Z rt ds, CW h0 h Z ∧ EWk h dk rt ds ln ∧ CJ Z rt ds dk st un tp tr pi fl sb sj dr
section ZCJ
variable {Z Z' : Nat → Option va_E} {rt : Nat} {ds : List (Nat × zDk)} {dk : zDk} {st : zSt} {un : List zSt} {tp : List Nat} {tr : Nat → zTr} {pi : Nat → zPi} {fl : Nat × Nat} {ln : zLn} {sb sj : zS3} {dr : Int32}
theorem TpJ.c (a : TpJ Z tp) (h : Z' 1 = Z 1) : TpJ Z' tp := by unfold TpJ; rw [h]; exact a
theorem UnJ.c {n : Nat} (a : UnJ Z n un) (h : Z' 12 = Z 12) (h2 : ∀ i, 34 ≤ i → i < 44 → Z' i = Z i) : UnJ Z' n un := by
  obtain ⟨a1, off, u, a2, a3, a4, a5⟩ := a
  refine ⟨a1, off, u, by rw [h]; exact a2, a3, fun i hi => by rw [h2 _ (by omega) (by omega)]; exact a4 i hi, fun i hi => by rw [h2 _ (by omega) (by omega)]; exact a5 i hi⟩
theorem TrJ.c {t : Nat} {q : zTr} (a : TrJ Z t q) (h1 : Z' (44 + 2 * t) = Z (44 + 2 * t)) (h2 : Z' (45 + 2 * t) = Z (45 + 2 * t)) : TrJ Z' t q := by unfold TrJ; rw [h1, h2]; exact a
theorem TrsJ.c (a : TrsJ Z tr) (h : Z' 13 = Z 13) (h2 : ∀ i, 44 ≤ i → i < 52 → Z' i = Z i) : TrsJ Z' tr := ⟨by rw [h]; exact a.1, fun t ht => (a.2 t ht).c (h2 _ (by omega) (by omega)) (h2 _ (by omega) (by omega))⟩
theorem PiJ.c {t : Nat} {q : zPi} (a : PiJ Z ds t q) (h1 : Z' (52 + 2 * t) = Z (52 + 2 * t)) (h2 : Z' (53 + 2 * t) = Z (53 + 2 * t)) : PiJ Z' ds t q := by unfold PiJ; rw [h1, h2]; exact a
theorem PisJ.c (a : PisJ Z ds pi) (h : Z' 14 = Z 14) (h2 : ∀ i, 52 ≤ i → i < 56 → Z' i = Z i) : PisJ Z' ds pi := ⟨by rw [h]; exact a.1, fun t ht => (a.2 t ht).c (h2 _ (by omega) (by omega)) (h2 _ (by omega) (by omega))⟩
theorem LyJ.c (a : LyJ Z) (h : Z' 32 = Z 32) (h2 : Z' 33 = Z 33) : LyJ Z' := by unfold LyJ; rw [h, h2]; exact a
theorem RJ.c (a : RJ Z fl) (h : ∀ i, 2 ≤ i → i < 9 → Z' i = Z i) : RJ Z' fl := by
  unfold RJ
  rw [h 2 (by decide) (by decide), h 3 (by decide) (by decide), h 4 (by decide) (by decide), h 5 (by decide) (by decide), h 6 (by decide) (by decide), h 7 (by decide) (by decide), h 8 (by decide) (by decide)]
  exact a
theorem upM_o {i j : Nat} {e : Option va_E} (h : j ≠ i) : upM Z i e j = Z j := upM_ne h
/-- now, before, judged, undoable, drawn become others -/
theorem CJ.n9 {st' : zSt} (a : CJ Z rt ds dk st un tp tr pi fl sb sj dr) (hs : stOk dk.1 st') : CJ (upM Z 9 (some (s3E (s3 st')))) rt ds dk st' un tp tr pi fl sb sj dr := by
  obtain ⟨a1, a2, a3, a4, a5, a6, a7, a8, a9, a10⟩ := a
  exact ⟨a1, ⟨upM_eq, hs⟩, a3, a4, a5, a6.c rfl (fun i _ _ => upM_o (by omega)), a7.c rfl (fun i _ _ => upM_o (by omega)), a8.c rfl (fun i _ _ => upM_o (by omega)), a9, a10.c (fun i _ _ => upM_o (by omega))⟩
theorem CJ.n10 {t : zS3} (a : CJ Z rt ds dk st un tp tr pi fl sb sj dr) : CJ (upM Z 10 (some (s3E t))) rt ds dk st un tp tr pi fl t sj dr := by
  obtain ⟨a1, a2, a3, a4, a5, a6, a7, a8, a9, a10⟩ := a
  exact ⟨a1, a2, upM_eq, a4, a5, a6.c rfl (fun i _ _ => upM_o (by omega)), a7.c rfl (fun i _ _ => upM_o (by omega)), a8.c rfl (fun i _ _ => upM_o (by omega)), a9, a10.c (fun i _ _ => upM_o (by omega))⟩
theorem CJ.n11 {t : zS3} (a : CJ Z rt ds dk st un tp tr pi fl sb sj dr) : CJ (upM Z 11 (some (s3E t))) rt ds dk st un tp tr pi fl sb t dr := by
  obtain ⟨a1, a2, a3, a4, a5, a6, a7, a8, a9, a10⟩ := a
  exact ⟨a1, a2, a3, upM_eq, a5, a6.c rfl (fun i _ _ => upM_o (by omega)), a7.c rfl (fun i _ _ => upM_o (by omega)), a8.c rfl (fun i _ _ => upM_o (by omega)), a9, a10.c (fun i _ _ => upM_o (by omega))⟩
theorem CJ.nx {dr' : Int32} (a : CJ Z rt ds dk st un tp tr pi fl sb sj dr) : CJ (upM Z 0 (some (xE (nI tp.length) rt (nI un.length) dr'))) rt ds dk st un tp tr pi fl sb sj dr' := by
  obtain ⟨a1, a2, a3, a4, a5, a6, a7, a8, a9, a10⟩ := a
  exact ⟨upM_eq, a2, a3, a4, a5, a6.c rfl (fun i _ _ => upM_o (by omega)), a7.c rfl (fun i _ _ => upM_o (by omega)), a8.c rfl (fun i _ _ => upM_o (by omega)), a9, a10.c (fun i _ _ => upM_o (by omega))⟩
theorem CJ.ly {f : Nat → Int32} (a : CJ Z rt ds dk st un tp tr pi fl sb sj dr) : CJ (upM Z 32 (some (inA 36 f))) rt ds dk st un tp tr pi fl sb sj dr := by
  obtain ⟨a1, a2, a3, a4, a5, a6, a7, a8, a9, a10⟩ := a
  exact ⟨a1, a2, a3, a4, a5, a6.c rfl (fun i _ _ => upM_o (by omega)), a7.c rfl (fun i _ _ => upM_o (by omega)), a8.c rfl (fun i _ _ => upM_o (by omega)), ⟨⟨f, upM_eq⟩, a9.2⟩, a10.c (fun i _ _ => upM_o (by omega))⟩
theorem CJ.bo {f : Nat → Int64} (a : CJ Z rt ds dk st un tp tr pi fl sb sj dr) : CJ (upM Z 33 (some (lnA 21 f))) rt ds dk st un tp tr pi fl sb sj dr := by
  obtain ⟨a1, a2, a3, a4, a5, a6, a7, a8, a9, a10⟩ := a
  exact ⟨a1, a2, a3, a4, a5, a6.c rfl (fun i _ _ => upM_o (by omega)), a7.c rfl (fun i _ _ => upM_o (by omega)), a8.c rfl (fun i _ _ => upM_o (by omega)), ⟨a9.1, ⟨f, upM_eq⟩⟩, a10.c (fun i _ _ => upM_o (by omega))⟩
end ZCJ
section ZCI
variable {h0 h h' : zH} {Z : Nat → Option va_E} {rt : Nat} {ds : List (Nat × zDk)} {dk : zDk} {st : zSt} {un : List zSt} {tp : List Nat} {tr : Nat → zTr} {pi : Nat → zPi} {fl : Nat × Nat} {ln : zLn} {sb sj : zS3} {dr : Int32}
theorem CI.en {ln' : zLn} (C : CW h0 h Z) (J : CJ Z rt ds dk st un tp tr pi fl sb sj dr) (W : EWk h' dk rt ds ln') (X : Ex h h') : CI h0 h' dk st un tp tr pi fl ln' sb sj dr := ⟨Z, rt, ds, C.ex X, W, J⟩
theorem CI.dkB (I : CI h0 h dk st un tp tr pi fl ln sb sj dr) : 0 < dk.1 ∧ dk.1 ≤ 6 ∧ 0 < dk.2.1 ∧ dk.2.1 ≤ 9 ∧ dk.2.2.1 < fct dk.1 ∧ dk.2.2.2.1 < 2 ^ 31 ∧ stOk dk.1 st := by
  obtain ⟨Z, rt, ds, C, ⟨av, stk, rn, rs, sw, rmv, rmk, rkn, rks, wst, wqu, wwe, wla, hV, E⟩, J⟩ := I
  obtain ⟨-, -, -, z⟩ := E.1
  exact ⟨z.1, z.2.1, z.2.2.1, z.2.2.2.1, z.2.2.2.2.1, z.2.2.2.2.2, J.2.1.2⟩
/-- what stands in the cells: x, now, the desk, rows, visits -/
theorem CI.o (I : CI h0 h dk st un tp tr pi fl ln sb sj dr) : ∃ rt rn rs sw rmv rmk moc len fre fc fr vn vs qd wst wqu wwe wla, h[0]? = some (xE (nI tp.length) rt (nI un.length) dr) ∧ h[9]? = some (s3E (s3 st)) ∧ h[rt]? = some (deskE dk.1 dk.2.1 fc fr (nI dk.2.2.1) (nI dk.2.2.2.1) vn vs) ∧ h[15]? = some (rowsE dk.1 sw rn rs) ∧ h[20]? = some (visE rt rmv rmk moc len fre) ∧ h[26]? = some (waysE wst wqu qd) ∧ h[29]? = some (sprE wwe wla) := by
  obtain ⟨Z, rt, ds, C, ⟨av, stk, rn, rs, sw, rmv, rmk, rkn, rks, wst, wqu, wwe, wla, hV, E⟩, J⟩ := I
  obtain ⟨⟨fc, fr, vn, vs, e1, -⟩, -⟩ := E.1
  obtain ⟨qd, e9⟩ := E.2.2.2.2.2.2.2.2.1
  obtain ⟨len, fre, e20⟩ := hV.2.2.1
  exact ⟨rt, rn, rs, sw, rmv, rmk, _, len, fre, fc, fr, vn, vs, qd, wst, wqu, wwe, wla, C.get J.1, C.get J.2.1.1, e1, hV.1.2.2.2.2.1, e20, e9, E.2.2.2.2.2.2.2.2.2.2.2.1⟩
theorem CI.s9 {st' : zSt} (I : CI h0 h dk st un tp tr pi fl ln sb sj dr) (hs : stOk dk.1 st') : CI h0 (h.set 9 (s3E (s3 st'))) dk st' un tp tr pi fl ln sb sj dr := by
  obtain ⟨Z, rt, ds, C, W, J⟩ := I
  exact ⟨_, rt, ds, C.set J.2.1.1 rfl, EW.set W C J.2.1.1, J.n9 hs⟩
theorem CI.s10 {t : zS3} (I : CI h0 h dk st un tp tr pi fl ln sb sj dr) : CI h0 (h.set 10 (s3E t)) dk st un tp tr pi fl ln t sj dr := by
  obtain ⟨Z, rt, ds, C, W, J⟩ := I
  exact ⟨_, rt, ds, C.set J.2.2.1 rfl, EW.set W C J.2.2.1, J.n10⟩
theorem CI.s11 {t : zS3} (I : CI h0 h dk st un tp tr pi fl ln sb sj dr) : CI h0 (h.set 11 (s3E t)) dk st un tp tr pi fl ln sb t dr := by
  obtain ⟨Z, rt, ds, C, W, J⟩ := I
  exact ⟨_, rt, ds, C.set J.2.2.2.1 rfl, EW.set W C J.2.2.2.1, J.n11⟩
theorem CI.i10 (I : CI h0 h dk st un tp tr pi fl ln sb sj dr) : h[10]? = some (s3E sb) := by
  obtain ⟨Z, rt, ds, C, W, J⟩ := I
  exact C.get J.2.2.1
theorem CI.i11 (I : CI h0 h dk st un tp tr pi fl ln sb sj dr) : h[11]? = some (s3E sj) := by
  obtain ⟨Z, rt, ds, C, W, J⟩ := I
  exact C.get J.2.2.2.1
theorem CI.sdr {rt : Nat} {a b dr0 dr' : Int32} (I : CI h0 h dk st un tp tr pi fl ln sb sj dr) (hx : h[0]? = some (xE a rt b dr0)) : CI h0 (h.set 0 (xE a rt b dr')) dk st un tp tr pi fl ln sb sj dr' := by
  obtain ⟨Z, rt', ds, C, W, J⟩ := I
  have e := C.get J.1
  rw [hx] at e
  simp only [Option.some.injEq, Sum.inr.injEq, Prod.mk.injEq, List.cons.injEq, Value.int.injEq, Value.ref.injEq] at e
  obtain ⟨-, -, rfl, -, rfl, -, -, -, -, rfl, -⟩ := e
  exact ⟨_, rt, ds, C.set J.1 rfl, EW.set W C J.1, J.nx⟩
end ZCI

