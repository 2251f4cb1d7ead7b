/-! the class's Visits: its world -/
def z_tg (e : va_E) : Nat := match e with
  | .inl a => a.1
  | .inr o => 1000 + o.1
theorem hs_t {h : zH} {i j : Nat} {a b e : va_E} (hi : h[i]? = some a) (hj : h[j]? = some b) (ht : z_tg a ≠ z_tg b) : (h.set i e)[j]? = some b := by
  rw [hs_ne]
  · exact hj
  · intro q
    subst q
    rw [hi] at hj
    exact ht (by rw [Option.some.inj hj])
abbrev visE (rt rmv rmk : Nat) (moc len fr : Int32) : va_E := .inr (9, [.ref 15, .ref rt, .ref rmv, .ref rmk, .int moc, .ref 23, .ref 24, .ref 25, .int len, .int fr])
abbrev deskE (n op : Nat) (fc fr nr li : Int32) (vn vs : Value) : va_E := .inr (0, [.int (nI n), .int (nI op), .int fc, .int fr, .int nr, .int li, vn, vs])
/-- a law of the class; av: rows that laws reckon in -/
def LawC (h : zH) (v : Value) (b : Bool) (rk : Nat) (av : List Nat) (code : Option (List Nat)) : Prop := match code with
  | none => v = .null
  | some cs => ∃ rl rs H fs sk, v = .ref rl ∧ h[rl]? = some (.inr (2, [.ref rs, .ref rk])) ∧ h[rs]? = some (.inl (0, cs.length, .inl fs)) ∧ h[rk]? = some (.inl (0, H, .inl sk)) ∧ H < 2 ^ 31 ∧ cs.length < 2 ^ 31 ∧ 0 < H ∧ (∀ j c, cs[j]? = some c → fs j = cl c) ∧ rs ∉ av ∧ 83 ≤ rs ∧ okc cs [] b ∧ hok H cs 0
/-- where a law has its row; without a law it is of no account -/
def Rk (code : Option (List Nat)) (rk : Nat) : Prop := 83 ≤ rk ∨ (code = none ∧ rk = 20)
theorem Rk.some {cs : List Nat} {rk : Nat} (a : Rk (some cs) rk) : 83 ≤ rk := by
  rcases a with z | ⟨z, -⟩
  · exact z
  · cases z
/-- a move as it is kept: 1 gives up, 2 + d opens d -/
def enc (m : Option Nat) : Nat := match m with
  | none => 1
  | some dd => 2 + dd
def mix (n op p fo la tr c : Nat) : Nat := (((c * n + p) * n + fo) * n + la) * op + tr
/-- what is kept is right, for the clues that are kept -/
def Memo (n op : Nat) (nx sp : Option (List Nat)) (fm fk kp : Nat → Int32) : Prop := ∀ c, c < 10 → (kp c = 0 ∨ kp c = 1) ∧ (kp c = 1 → (∀ p fo la tr, p < n → fo < n → la < n → tr < op → fm (mix n op p fo la tr c) = 0 ∨ fm (mix n op p fo la tr c) = nI (enc (mvs n nx sp p fo la tr c))) ∧ ∀ row, row < fct n → fk (c * fct n + row) = 0 ∨ fk (c * fct n + row) = nI (1 + msk n op nx sp row c))
/-- the arrays of visits -/
def VA (h : zH) (n op : Nat) (nx sp : Option (List Nat)) (rmv rmk : Nat) : Prop := ∃ lm fm lk fk kp, h[rmv]? = some (.inl (1, lm, .inl fm)) ∧ h[rmk]? = some (.inl (1, lk, .inl fk)) ∧ h[23]? = some (.inl (3, 10, .inl kp)) ∧ 10 * (n * n * n * op) ≤ lm ∧ lm < 2 ^ 31 ∧ 10 * fct n ≤ lk ∧ lk < 2 ^ 31 ∧ Memo n op nx sp fm fk kp
/-- the class, ready for visits: ids: table of rows rn, desk rt, moves rmv, masks rmk, rows of the laws rkn, rks -/
def VC (h : zH) (n rn rs : Nat) (sw : Int32) (rt rmv rmk rkn rks op : Nat) (nx sp : Option (List Nat)) : Prop :=
  RT h n rn rs sw ∧ (∃ fc fr nr li vn vs, h[rt]? = some (deskE n op fc fr nr li vn vs) ∧ LawC h vn false rkn [rkn, rks] nx ∧ LawC h vs true rks [rkn, rks] sp) ∧ (∃ len fr, h[20]? = some (visE rt rmv rmk (nI (n * n * n * op)) len fr)) ∧ 0 < op ∧ op ≤ 9 ∧ VA h n op nx sp rmv rmk ∧ (∃ w, h[24]? = some (.inl (0, 5, .inl w))) ∧ (∃ pa, h[25]? = some (.inl (0, 9, .inl pa))) ∧ rn ≠ rmv ∧ rn ≠ rmk ∧ rmv ≠ rmk ∧ Rk nx rkn ∧ Rk sp rks
section ZX
variable {h : zH} {n rn rs rt rmv rmk rkn rks op : Nat} {sw : Int32} {nx sp : Option (List Nat)}
theorem LawC.keep {h h' : zH} {v : Value} {b : Bool} {rk : Nat} {av : List Nat} {code : Option (List Nat)} (a : LawC h v b rk av code) (h1 : ∀ (i : Nat) (e : va_E), z_tg e = 1002 → h[i]? = some e → h'[i]? = some e) (h2 : ∀ (i : Nat) (e : va_E), z_tg e = 0 → i ∉ av → 83 ≤ i → h[i]? = some e → h'[i]? = some e) (h3 : ∀ (H : Nat) (sk : Nat → Int32), h[rk]? = some (.inl (0, H, .inl sk)) → ∃ sk', h'[rk]? = some (.inl (0, H, .inl sk'))) : LawC h' v b rk av code := by
  cases code with
  | none => exact a
  | some cs =>
    obtain ⟨rl, rs, H, fs, sk, e1, e2, e3, e4, e5, e6, e7, e8, e9, e10, e11⟩ := a
    obtain ⟨sk', e4'⟩ := h3 H sk e4
    exact ⟨rl, rs, H, fs, sk', e1, h1 rl _ rfl e2, h2 rs _ rfl e9 e10 e3, e4', e5, e6, e7, e8, e9, e10, e11⟩
/-- a change of one cell that isn't of the rows' nor of the laws' -/
theorem LawC.set {v : Value} {b : Bool} {rk i : Nat} {av : List Nat} {code : Option (List Nat)} {e0 e : va_E} (a : LawC h v b rk av code) (hi : h[i]? = some e0) (ht : z_tg e0 ≠ 1002) (hz : z_tg e0 ≠ 0 ∨ i < 83) (hrk : Rk code rk) : LawC (h.set i e) v b rk av code := by
  cases code with
  | none => exact a
  | some cs =>
  have hrk := hrk.some
  refine a.keep (fun j e1 ht1 hj => hs_t hi hj (fun q => ht (q.trans ht1))) (fun j e1 ht1 _ hj83 hj => ?_) (fun H sk hj => ⟨sk, ?_⟩)
  · rcases hz with z | z
    · exact hs_t hi hj (fun q => z (q.trans ht1))
    · rw [hs_ne (by omega)]; exact hj
  · rcases hz with z | z
    · exact hs_t hi hj z
    · rw [hs_ne (by omega)]; exact hj
theorem LawC.setK {v : Value} {b : Bool} {rk rk' H : Nat} {av : List Nat} {code : Option (List Nat)} {sk f : Nat → Int32} (a : LawC h v b rk av code) (hi : h[rk']? = some (.inl (0, H, .inl sk))) (hav : rk' ∈ av) : LawC (h.set rk' (.inl (0, H, .inl f))) v b rk av code := by
  refine a.keep (fun j e1 ht1 hj => hs_t hi hj (by rw [ht1]; simp [z_tg])) (fun j e1 ht1 hn _ hj => ?_) (fun H' sk' hj => ?_)
  · have hne : rk' ≠ j := fun q => hn (by rw [← q]; exact hav)
    rw [hs_ne hne]; exact hj
  · by_cases q : rk' = rk
    · subst q
      rw [hi] at hj
      cases hj
      exact ⟨f, hs_eq hi⟩
    · exact ⟨sk', by rw [hs_ne q]; exact hj⟩
theorem RT.setT {i : Nat} {e0 e : va_E} (a : RT h n rn rs sw) (hi : h[i]? = some e0) (h1 : z_tg e0 ≠ 1005) (h2 : z_tg e0 ≠ 1 ∨ i ≠ rn) (h3 : i ≠ 19) : RT (h.set i e) n rn rs sw := by
  obtain ⟨a1, a2, a3, a4, a5, ⟨len, f0, a6, a7⟩, fm, a8⟩ := a
  refine ⟨a1, a2, a3, a4, hs_t hi a5 h1, ⟨len, f0, ?_, a7⟩, fm, by rw [hs_ne h3]; exact a8⟩
  rcases h2 with z | z
  · exact hs_t hi a6 z
  · rw [hs_ne z]; exact a6
theorem VA.setT {i : Nat} {e0 e : va_E} (a : VA h n op nx sp rmv rmk) (hi : h[i]? = some e0) (h1 : z_tg e0 ≠ 1) (h2 : z_tg e0 ≠ 3) : VA (h.set i e) n op nx sp rmv rmk := by
  obtain ⟨lm, fm, lk, fk, kp, b1, b2, b3, b4⟩ := a
  exact ⟨lm, fm, lk, fk, kp, hs_t hi b1 h1, hs_t hi b2 h1, hs_t hi b3 h2, b4⟩
/-- facts (24), path (25) or the laws' rows change -/
theorem VC.s24 {f : Nat → Int32} (a : VC h n rn rs sw rt rmv rmk rkn rks op nx sp) : VC (h.set 24 (.inl (0, 5, .inl f))) n rn rs sw rt rmv rmk rkn rks op nx sp := by
  obtain ⟨a1, ⟨fc, fr, nr, li, vn, vs, a2, a3, a4⟩, ⟨len, fr', a5⟩, a6, a7, a8, ⟨w, a9⟩, ⟨pa, a10⟩, a11, a12, a13, a14, a15⟩ := a
  exact ⟨a1.setT a9 (by simp [z_tg]) (Or.inl (by simp [z_tg])) (by simp [z_tg]), ⟨fc, fr, nr, li, vn, vs, hs_t a9 a2 (by simp [z_tg]), a3.set a9 (by simp [z_tg]) (Or.inr (by simp [z_tg])) a14, a4.set a9 (by simp [z_tg]) (Or.inr (by simp [z_tg])) a15⟩, ⟨len, fr', hs_t a9 a5 (by simp [z_tg])⟩, a6, a7, a8.setT a9 (by simp [z_tg]) (by simp [z_tg]), ⟨f, hs_eq a9⟩, ⟨pa, by rw [hs_ne (by simp [z_tg])]; exact a10⟩, a11, a12, a13, a14, a15⟩
theorem VC.s25 {f : Nat → Int32} (a : VC h n rn rs sw rt rmv rmk rkn rks op nx sp) : VC (h.set 25 (.inl (0, 9, .inl f))) n rn rs sw rt rmv rmk rkn rks op nx sp := by
  obtain ⟨a1, ⟨fc, fr, nr, li, vn, vs, a2, a3, a4⟩, ⟨len, fr', a5⟩, a6, a7, a8, ⟨w, a9⟩, ⟨pa, a10⟩, a11, a12, a13, a14, a15⟩ := a
  exact ⟨a1.setT a10 (by simp [z_tg]) (Or.inl (by simp [z_tg])) (by simp [z_tg]), ⟨fc, fr, nr, li, vn, vs, hs_t a10 a2 (by simp [z_tg]), a3.set a10 (by simp [z_tg]) (Or.inr (by simp [z_tg])) a14, a4.set a10 (by simp [z_tg]) (Or.inr (by simp [z_tg])) a15⟩, ⟨len, fr', hs_t a10 a5 (by simp [z_tg])⟩, a6, a7, a8.setT a10 (by simp [z_tg]) (by simp [z_tg]), ⟨w, by rw [hs_ne (by simp [z_tg])]; exact a9⟩, ⟨f, hs_eq a10⟩, a11, a12, a13, a14, a15⟩
theorem VC.s20 {len fr : Int32} (a : VC h n rn rs sw rt rmv rmk rkn rks op nx sp) : VC (h.set 20 (visE rt rmv rmk (nI (n * n * n * op)) len fr)) n rn rs sw rt rmv rmk rkn rks op nx sp := by
  obtain ⟨a1, ⟨fc, fr0, nr, li, vn, vs, a2, a3, a4⟩, ⟨len0, fr', a5⟩, a6, a7, a8, ⟨w, a9⟩, ⟨pa, a10⟩, a11, a12, a13, a14, a15⟩ := a
  exact ⟨a1.setT a5 (by simp [z_tg]) (Or.inl (by simp [z_tg])) (by simp [z_tg]), ⟨fc, fr0, nr, li, vn, vs, hs_t a5 a2 (by simp [z_tg]), a3.set a5 (by simp [z_tg]) (Or.inr (by simp [z_tg])) a14, a4.set a5 (by simp [z_tg]) (Or.inr (by simp [z_tg])) a15⟩, ⟨len, fr, hs_eq a5⟩, a6, a7, a8.setT a5 (by simp [z_tg]) (by simp [z_tg]), ⟨w, by rw [hs_ne (by simp [z_tg])]; exact a9⟩, ⟨pa, by rw [hs_ne (by simp [z_tg])]; exact a10⟩, a11, a12, a13, a14, a15⟩
theorem VC.sK {rk H : Nat} {sk f : Nat → Int32} (a : VC h n rn rs sw rt rmv rmk rkn rks op nx sp) (hi : h[rk]? = some (.inl (0, H, .inl sk))) (hav : rk ∈ [rkn, rks]) : VC (h.set rk (.inl (0, H, .inl f))) n rn rs sw rt rmv rmk rkn rks op nx sp := by
  obtain ⟨a1, ⟨fc, fr0, nr, li, vn, vs, a2, a3, a4⟩, ⟨len0, fr', a5⟩, a6, a7, a8, ⟨w, a9⟩, ⟨pa, a10⟩, a11, a12, a13, a14, a15⟩ := a
  have h83 : 83 ≤ rk := by
    simp at hav
    rcases hav with rfl | rfl
    · rcases a14 with z | ⟨-, z⟩
      · exact z
      · rw [z, a5] at hi; cases hi
    · rcases a15 with z | ⟨-, z⟩
      · exact z
      · rw [z, a5] at hi; cases hi
  exact ⟨a1.setT hi (by simp [z_tg]) (Or.inl (by simp [z_tg])) (by omega), ⟨fc, fr0, nr, li, vn, vs, hs_t hi a2 (by simp [z_tg]), a3.setK hi hav, a4.setK hi hav⟩, ⟨len0, fr', hs_t hi a5 (by simp [z_tg])⟩, a6, a7, a8.setT hi (by simp [z_tg]) (by simp [z_tg]), ⟨w, by rw [hs_ne (by omega)]; exact a9⟩, ⟨pa, by rw [hs_ne (by omega)]; exact a10⟩, a11, a12, a13, a14, a15⟩
/-- one of the arrays of visits changes, and what is kept stays right -/
theorem VC.sA {i : Nat} {e0 e : va_E} (a : VC h n rn rs sw rt rmv rmk rkn rks op nx sp) (hi : h[i]? = some e0) (h1 : z_tg e0 = 1 ∨ z_tg e0 = 3) (h2 : i ≠ rn) (hv : VA (h.set i e) n op nx sp rmv rmk) : VC (h.set i e) n rn rs sw rt rmv rmk rkn rks op nx sp := by
  obtain ⟨a1, ⟨fc, fr0, nr, li, vn, vs, a2, a3, a4⟩, ⟨len0, fr', a5⟩, a6, a7, -, ⟨w, a9⟩, ⟨pa, a10⟩, a11, a12, a13, a14, a15⟩ := a
  have k : ∀ t, t ≠ 1 → t ≠ 3 → z_tg e0 ≠ t := fun t q1 q2 q => by rcases h1 with z | z <;> omega
  have h19 : i ≠ 19 := by
    obtain ⟨-, -, -, -, -, -, fm, b⟩ := a1
    intro q
    subst q
    rw [hi] at b
    have := congrArg (Option.map z_tg) b
    simp [z_tg] at this
    rcases h1 with z | z <;> simp [z_tg] at z <;> omega
  exact ⟨a1.setT hi (k _ (by simp [z_tg]) (by simp [z_tg])) (Or.inr h2) h19, ⟨fc, fr0, nr, li, vn, vs, hs_t hi a2 (k _ (by simp [z_tg]) (by simp [z_tg])), a3.set hi (k _ (by simp [z_tg]) (by simp [z_tg])) (Or.inl (k _ (by simp [z_tg]) (by simp [z_tg]))) a14, a4.set hi (k _ (by simp [z_tg]) (by simp [z_tg])) (Or.inl (k _ (by simp [z_tg]) (by simp [z_tg]))) a15⟩, ⟨len0, fr', hs_t hi a5 (k _ (by simp [z_tg]) (by simp [z_tg]))⟩, a6, a7, hv, ⟨w, hs_t hi a9 (k _ (by simp [z_tg]) (by simp [z_tg]))⟩, ⟨pa, hs_t hi a10 (k _ (by simp [z_tg]) (by simp [z_tg]))⟩, a11, a12, a13, a14, a15⟩
end ZX
/-- the cells that visits change -/
abbrev vIds (rmv rmk rkn rks : Nat) : List Nat := [20, 23, 24, 25, rmv, rmk, rkn, rks]
/-- a row stays a row of its length -/
def Kh (t : Nat) (h h' : zH) (r : Nat) : Prop := ∀ (H : Nat) (sk : Nat → Int32), h[r]? = some (.inl (t, H, .inl sk)) → ∃ sk', h'[r]? = some (.inl (t, H, .inl sk'))
theorem Kh.rf {t : Nat} {h : zH} {r : Nat} : Kh t h h r := fun _ sk e => ⟨sk, e⟩
theorem Kh.tr {t : Nat} {h h' h2 : zH} {r : Nat} (a : Kh t h h' r) (b : Kh t h' h2 r) : Kh t h h2 r := fun H sk e => by
  obtain ⟨sk', e'⟩ := a H sk e
  exact b H sk' e'
theorem Kh.setT {t : Nat} {h : zH} {i r : Nat} {e0 e : va_E} (hi : h[i]? = some e0) (ht : z_tg e0 ≠ t) : Kh t h (h.set i e) r := fun H sk hr => ⟨sk, hs_t hi hr ht⟩
theorem Kh.setA {t u : Nat} {h : zH} {i r H : Nat} {f f' : Nat → Int32} (hi : h[i]? = some (.inl (u, H, .inl f))) : Kh t h (h.set i (.inl (u, H, .inl f'))) r := fun H' sk hr => by
  by_cases q : i = r
  · subst q
    rw [hi] at hr
    cases hr
    exact ⟨f', hs_eq hi⟩
  · exact ⟨sk, by rw [hs_ne q]; exact hr⟩
def Gv (rmv rmk rkn rks : Nat) (h h' : zH) : Prop := Fr (vIds rmv rmk rkn rks) h h' ∧ Kh 0 h h' rkn ∧ Kh 0 h h' rks ∧ Kh 1 h h' rmv ∧ Kh 1 h h' rmk
theorem Gv.rf {rmv rmk rkn rks : Nat} {h : zH} : Gv rmv rmk rkn rks h h := ⟨Fr.rf, Kh.rf, Kh.rf, Kh.rf, Kh.rf⟩
theorem Gv.tr {rmv rmk rkn rks : Nat} {h h' h2 : zH} (a : Gv rmv rmk rkn rks h h') (b : Gv rmv rmk rkn rks h' h2) : Gv rmv rmk rkn rks h h2 := ⟨a.1.tr b.1, a.2.1.tr b.2.1, a.2.2.1.tr b.2.2.1, a.2.2.2.1.tr b.2.2.2.1, a.2.2.2.2.tr b.2.2.2.2⟩
theorem Gv.setT {rmv rmk rkn rks i : Nat} {h : zH} {e0 e : va_E} (hm : i ∈ vIds rmv rmk rkn rks) (hi : h[i]? = some e0) (ht : 2 ≤ z_tg e0) : Gv rmv rmk rkn rks h (h.set i e) := ⟨Fr.set hm, Kh.setT hi (by omega), Kh.setT hi (by omega), Kh.setT hi (by omega), Kh.setT hi (by omega)⟩
theorem Gv.setA {rmv rmk rkn rks i H t : Nat} {h : zH} {f f' : Nat → Int32} (hm : i ∈ vIds rmv rmk rkn rks) (hi : h[i]? = some (.inl (t, H, .inl f))) : Gv rmv rmk rkn rks h (h.set i (.inl (t, H, .inl f'))) := ⟨Fr.set hm, Kh.setA hi, Kh.setA hi, Kh.setA hi, Kh.setA hi⟩

