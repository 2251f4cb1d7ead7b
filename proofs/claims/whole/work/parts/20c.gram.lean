/-! the grammar: what a text tells, by places; an answer is a fault (kind, place) or a place and codes -/
abbrev zR : Type := Sum (Nat × Nat) (Nat × List Nat)
def sqR (r : zR) (f : Nat → zR) : zR := match r with
  | .inl e => .inl e
  | .inr q => match f q.1 with
    | .inl e => .inl e
    | .inr q2 => .inr (q2.1, q.2 ++ q2.2)
def emR (c p : Nat) : zR := .inr (p, [c])
def erK (X : zX) (p : Nat) : Nat := if tkK X p = 25 then 1 else 2
def erR (X : zX) (p : Nat) : zR := .inl (erK X p, tkA X p)
def waR (X : zX) (k p : Nat) : zR := if tkK X p = k then .inr (tkB X p, []) else erR X p
def lpR (X : zX) (op : Nat → Nat) (f : Nat → zR) : Nat → Nat → zR
  | 0, p => .inr (p, [])
  | k + 1, p => if op (tkK X p) = 0 then .inr (p, []) else sqR (f (tkB X p)) (fun p1 => sqR (emR (op (tkK X p)) p1) (lpR X op f k))
def opT (k : Nat) : Nat := if k = 34 then 3002 else 0
def opS (k : Nat) : Nat := if k = 32 then 3000 else if k = 33 then 3001 else 0
def opA (k : Nat) : Nat := if k = 16 then 3007 else 0
def opO (k : Nat) : Nat := if k = 17 then 3008 else 0
def opC (k : Nat) : Nat := if k = 39 then 3003 else if k = 40 then 3004 else if k = 41 then 3005 else 0
def fTm (X : zX) (f : Nat → zR) (p : Nat) : zR := sqR (f p) (lpR X opT f 901)
def fSm (X : zX) (f : Nat → zR) (p : Nat) : zR := sqR (fTm X f p) (lpR X opS (fTm X f) 901)
def fBo (X : zX) (f : Nat → zR) (p : Nat) : zR := sqR (f p) (lpR X opA f 901)
def fTr (X : zX) (f : Nat → zR) (p : Nat) : zR := sqR (fBo X f p) (lpR X opO (fBo X f) 901)
def fCm (X : zX) (f : Nat → zR) (p : Nat) : zR := sqR (fSm X f p) (fun p1 => if opC (tkK X p1) = 0 then erR X p1 else sqR (fSm X f (tkB X p1)) (emR (opC (tkK X p1))))
def fIf (X : zX) (f u : Nat → zR) (p : Nat) : zR := sqR (fTr X u p) (fun p => sqR (waR X 9 p) (fun p => sqR (fSm X f p) (fun p => sqR (waR X 10 p) (fun p => sqR (fSm X f p) (fun p => sqR (waR X 11 p) (emR 3009))))))
def leaf (X : zX) (p : Nat) : Nat := if tkK X p = 23 then tkV X p else if tkK X p = 5 then 1004 else 1000 + (tkK X p - 12)
def isLf (k : Nat) : Prop := k = 23 ∨ k = 5 ∨ (12 ≤ k ∧ k ≤ 15)
/-- a sum's part, and a truth's unit, where k more may stand within one another -/
def fAt0 (X : zX) (p : Nat) : zR := if tkK X p = 23 ∨ tkK X p = 5 ∨ (12 ≤ tkK X p ∧ tkK X p ≤ 15) then .inr (tkB X p, [leaf X p]) else if tkK X p = 35 ∨ tkK X p = 8 then .inl (4, tkA X p) else erR X p
def fAt1 (X : zX) (f u : Nat → zR) (p : Nat) : zR := if tkK X p = 23 ∨ tkK X p = 5 ∨ (12 ≤ tkK X p ∧ tkK X p ≤ 15) then .inr (tkB X p, [leaf X p]) else if tkK X p = 35 then sqR (fSm X f (tkB X p)) (waR X 36) else if tkK X p = 8 then fIf X f u (tkB X p) else erR X p
def fUn0 (X : zX) (p : Nat) : zR := if tkK X p = 18 ∨ tkK X p = 37 then .inl (4, tkA X p) else fCm X (fAt0 X) p
def fUn1 (X : zX) (f u : Nat → zR) (p : Nat) : zR := if tkK X p = 18 then sqR (u (tkB X p)) (emR 3006) else if tkK X p = 37 then sqR (fTr X u (tkB X p)) (waR X 38) else fCm X (fAt1 X f u) p
def fLv (X : zX) : Nat → (Nat → zR) × (Nat → zR)
  | 0 => (fAt0 X, fUn0 X)
  | k + 1 => (fAt1 X (fLv X k).1 (fLv X k).2, fUn1 X (fLv X k).1 (fLv X k).2)
/-- what holds of an answer: codes are no more than letters read; fault kinds and places -/
def Gl (X : zX) (p : Nat) (r : zR) : Prop := match r with
  | .inl e => 0 < e.1 ∧ e.1 < 5 ∧ e.2 ≤ X.2
  | .inr q => q.1 ≤ X.2 ∧ q.2.length + tkA X p ≤ tkA X q.1
section ZGr
variable {X : zX} {p : Nat} {f u : Nat → zR}
theorem sqR_l {e : Nat × Nat} : sqR (.inl e) f = .inl e := rfl
theorem sqR_r {q : Nat × List Nat} : sqR (.inr q) f = match f q.1 with
    | .inl e => .inl e
    | .inr q2 => .inr (q2.1, q.2 ++ q2.2) := rfl
theorem sqR_n : sqR (.inr (p, [])) f = f p := by
  rw [sqR_r]
  cases f p <;> rfl
theorem sqR_a (r : zR) (f h : Nat → zR) : sqR (sqR r f) h = sqR r (fun p => sqR (f p) h) := by
  cases r with
  | inl e => rfl
  | inr q =>
    simp only [sqR]
    cases f q.1 with
    | inl e => rfl
    | inr q2 =>
      simp only
      cases h q2.1 with
      | inl e => rfl
      | inr q3 => simp only [List.append_assoc]
theorem erK_r : 0 < erK X p ∧ erK X p < 5 := by
  unfold erK
  split <;> omega
theorem tkA_B (hp : p ≤ X.2) (hk : tkK X p ≠ 24) : tkA X p + 1 ≤ tkA X (tkB X p) ∧ tkB X p ≤ X.2 := by
  obtain ⟨h1, h2, h3, h4, h5⟩ := tk_le hp
  have := (tk_le h3).1
  have := h4 hk
  exact ⟨by omega, h3⟩
theorem tkA_le (hp : p ≤ X.2) : tkA X p ≤ X.2 := by
  obtain ⟨h1, h2, h3, h4, h5⟩ := tk_le hp
  omega
theorem Gl.er (hp : p ≤ X.2) {p0 : Nat} : Gl X p0 (erR X p) := ⟨erK_r.1, erK_r.2, tkA_le hp⟩
/-- an answer from a later place, of at most k codes more -/
theorem Gl.sq {r : zR} (h : Gl X p r) (hf : ∀ p1, p1 ≤ X.2 → tkA X p ≤ tkA X p1 → Gl X p1 (f p1)) : Gl X p (sqR r f) := by
  cases r with
  | inl e => exact h
  | inr q =>
    obtain ⟨h1, h2⟩ := h
    have := hf q.1 h1 (by omega)
    rw [sqR_r]
    cases hq : f q.1 with
    | inl e => rw [hq] at this; exact this
    | inr q2 =>
      rw [hq] at this
      refine ⟨this.1, ?_⟩
      have h3 := this.2
      simp only [List.length_append]
      omega
/-- a token is taken, and one code comes behind -/
theorem Gl.bump {r : zR} {c p1 : Nat} (h : Gl X p1 r) (h1 : tkA X p + 1 ≤ tkA X p1) : Gl X p (sqR r (emR c)) := by
  cases r with
  | inl e => exact h
  | inr q =>
    refine ⟨h.1, ?_⟩
    have := h.2
    simp only [List.length_append, List.length_cons, List.length_nil]
    omega
theorem Gl.mono {r : zR} {p1 : Nat} (h : Gl X p1 r) (h1 : tkA X p ≤ tkA X p1) : Gl X p r := by
  cases r with
  | inl e => exact h
  | inr q => exact ⟨h.1, by have := h.2; omega⟩
theorem Gl.wa {k : Nat} (hk : k ≠ 24) (hp : p ≤ X.2) : Gl X p (waR X k p) := by
  unfold waR
  split
  · next q =>
    have := tkA_B hp (by omega)
    exact ⟨this.2, by simp only [List.length_nil]; omega⟩
  · exact Gl.er hp
theorem lpR_a {op : Nat → Nat} {k : Nat} (h : ¬ op (tkK X p) = 0) : lpR X op f (k + 1) p = sqR (sqR (f (tkB X p)) (emR (op (tkK X p)))) (lpR X op f k) := by
  rw [lpR, if_neg h, sqR_a]
theorem Gl.lp {op : Nat → Nat} (h24 : op 24 = 0) (hf : ∀ p, p ≤ X.2 → Gl X p (f p)) : ∀ (k p : Nat), p ≤ X.2 → Gl X p (lpR X op f k p) := by
  intro k
  induction k with
  | zero => intro p hp; exact ⟨hp, by simp⟩
  | succ k ih =>
    intro p hp
    by_cases q : op (tkK X p) = 0
    · rw [lpR, if_pos q]
      exact ⟨hp, by simp⟩
    · rw [lpR_a q]
      have b := tkA_B hp (fun z => q (by rw [z]; exact h24))
      exact ((hf _ b.2).bump b.1).sq (fun p1 h1 _ => ih p1 h1)
theorem Gl.tm (hf : ∀ p, p ≤ X.2 → Gl X p (f p)) (hp : p ≤ X.2) : Gl X p (fTm X f p) := (hf p hp).sq (fun p1 h1 _ => Gl.lp rfl hf 901 p1 h1)
theorem Gl.sm (hf : ∀ p, p ≤ X.2 → Gl X p (f p)) (hp : p ≤ X.2) : Gl X p (fSm X f p) := (Gl.tm hf hp).sq (fun p1 h1 _ => Gl.lp rfl (fun p hp => Gl.tm hf hp) 901 p1 h1)
theorem Gl.bo (hf : ∀ p, p ≤ X.2 → Gl X p (f p)) (hp : p ≤ X.2) : Gl X p (fBo X f p) := (hf p hp).sq (fun p1 h1 _ => Gl.lp rfl hf 901 p1 h1)
theorem Gl.tr (hf : ∀ p, p ≤ X.2 → Gl X p (f p)) (hp : p ≤ X.2) : Gl X p (fTr X f p) := (Gl.bo hf hp).sq (fun p1 h1 _ => Gl.lp rfl (fun p hp => Gl.bo hf hp) 901 p1 h1)
theorem Gl.cm (hf : ∀ p, p ≤ X.2 → Gl X p (f p)) (hp : p ≤ X.2) : Gl X p (fCm X f p) := (Gl.sm hf hp).sq (fun p1 h1 _ => by
  by_cases q : opC (tkK X p1) = 0
  · rw [if_pos q]; exact Gl.er h1
  · rw [if_neg q]
    have b := tkA_B h1 (fun z => q (by rw [z]; rfl))
    exact (Gl.sm hf b.2).bump b.1)
theorem Gl.fi (hf : ∀ p, p ≤ X.2 → Gl X p (f p)) (hu : ∀ p, p ≤ X.2 → Gl X p (u p)) (hp : p ≤ X.2) (hk : tkK X p ≠ 24) : Gl X p (fIf X f u (tkB X p)) := by
  have b := tkA_B hp hk
  have e : fIf X f u (tkB X p) = sqR (sqR (fTr X u (tkB X p)) (fun p => sqR (waR X 9 p) (fun p => sqR (fSm X f p) (fun p => sqR (waR X 10 p) (fun p => sqR (fSm X f p) (waR X 11)))))) (emR 3009) := by
    unfold fIf
    simp only [sqR_a]
  rw [e]
  refine Gl.bump ?_ b.1
  refine (Gl.tr hu b.2).sq (fun p1 h1 _ => ?_)
  refine (Gl.wa (by decide) h1).sq (fun p1 h1 _ => ?_)
  refine (Gl.sm hf h1).sq (fun p1 h1 _ => ?_)
  refine (Gl.wa (by decide) h1).sq (fun p1 h1 _ => ?_)
  exact (Gl.sm hf h1).sq (fun p1 h1 _ => Gl.wa (by decide) h1)
theorem Gl.lf {c : Nat} (hp : p ≤ X.2) (hk : tkK X p ≠ 24) : Gl X p (.inr (tkB X p, [c])) := by
  have b := tkA_B hp hk
  exact ⟨b.2, by simp only [List.length_cons, List.length_nil]; omega⟩
theorem Gl.lv : ∀ (k : Nat) (p : Nat), p ≤ X.2 → Gl X p ((fLv X k).1 p) ∧ Gl X p ((fLv X k).2 p) := by
  intro k
  induction k with
  | zero =>
    have ha : ∀ p, p ≤ X.2 → Gl X p (fAt0 X p) := by
      intro p hp
      unfold fAt0
      split
      · next q => exact Gl.lf hp (by omega)
      · split
        · exact ⟨Nat.succ_pos 3, Nat.lt_succ_self 4, tkA_le hp⟩
        · exact Gl.er hp
    intro p hp
    refine ⟨ha p hp, ?_⟩
    show Gl X p (fUn0 X p)
    unfold fUn0
    split
    · exact ⟨Nat.succ_pos 3, Nat.lt_succ_self 4, tkA_le hp⟩
    · exact Gl.cm ha hp
  | succ k ih =>
    have i1 : ∀ p, p ≤ X.2 → Gl X p ((fLv X k).1 p) := fun p hp => (ih p hp).1
    have i2 : ∀ p, p ≤ X.2 → Gl X p ((fLv X k).2 p) := fun p hp => (ih p hp).2
    have ha : ∀ p, p ≤ X.2 → Gl X p (fAt1 X (fLv X k).1 (fLv X k).2 p) := by
      intro p hp
      unfold fAt1
      split
      · next q => exact Gl.lf hp (by omega)
      · split
        · next q =>
          have b := tkA_B hp (by omega)
          exact ((Gl.sm i1 b.2).sq (fun p1 h1 _ => Gl.wa (by decide) h1)).mono (by omega)
        · split
          · exact Gl.fi i1 i2 hp (by omega)
          · exact Gl.er hp
    intro p hp
    refine ⟨ha p hp, ?_⟩
    show Gl X p (fUn1 X (fLv X k).1 (fLv X k).2 p)
    unfold fUn1
    split
    · have b := tkA_B hp (by omega)
      exact (i2 _ b.2).bump b.1
    · split
      · have b := tkA_B hp (by omega)
        exact ((Gl.tr i2 b.2).sq (fun p1 h1 _ => Gl.wa (by decide) h1)).mono (by omega)
      · exact Gl.cm ha hp
theorem Gl.a1 {k : Nat} (hp : p ≤ X.2) : Gl X p ((fLv X k).1 p) := (Gl.lv k p hp).1
theorem Gl.u1 {k : Nat} (hp : p ≤ X.2) : Gl X p ((fLv X k).2 p) := (Gl.lv k p hp).2
end ZGr

