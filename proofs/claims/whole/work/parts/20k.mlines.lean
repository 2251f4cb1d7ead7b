/-! a desk's lines: what they tell; the model reads them -/
abbrev zDd : Type := Nat × Nat × (Nat → Nat) × (Nat → Nat) × Nat × Option (List Nat) × Option (List Nat)
def fNm (X : zX) (lo hi p : Nat) : Sum (Nat × Nat) (Nat × Nat) := if tkK X p ≠ 23 then .inl (erK X p, tkA X p) else if tkV X p < lo ∨ hi < tkV X p then .inl (3, tkA X p) else .inr (tkB X p, tkV X p)
def fNd (X : zX) (k lo hi p : Nat) : Sum (Nat × Nat) (Nat × Nat) := if tkK X p = k then fNm X lo hi (tkB X p) else .inl (erK X p, tkA X p)
def fDr (X : zX) (n p : Nat) : Sum (Nat × Nat) (Nat × Nat × Nat) := match fNm X 0 (n - 1) (tkB X p) with
  | .inl e => .inl e
  | .inr q => match fNm X 0 (n - 1) q.1 with
    | .inl e => .inl e
    | .inr q2 => .inr (q2.1, q.2, q2.2)
def fLw (X : zX) (b : Bool) (p : Nat) : zR := sqR (waR X 31 (tkB X p)) (fun p => if b = true then fTr X (fLv X 6).2 p else fSm X (fLv X 6).1 p)
def upn (f : Nat → Nat) (k v : Nat) : Nat → Nat := fun i => if i = k then v else f i
def fLn (X : zX) (D : zDd) (p : Nat) : Sum (Nat × Nat) (Nat × zDd) :=
  if tkK X p = 3 then (match fDr X D.1 p with
    | .inl e => .inl e
    | .inr q => .inr (q.1, D.1, D.2.1, upn D.2.2.1 q.2.1 q.2.2, D.2.2.2))
  else if tkK X p = 4 then (match fDr X D.1 p with
    | .inl e => .inl e
    | .inr q => .inr (q.1, D.1, D.2.1, D.2.2.1, upn D.2.2.2.1 q.2.1 q.2.2, D.2.2.2.2))
  else if tkK X p = 5 then (match fNm X 0 9 (tkB X p) with
    | .inl e => .inl e
    | .inr q => .inr (q.1, D.1, D.2.1, D.2.2.1, D.2.2.2.1, q.2, D.2.2.2.2.2))
  else if tkK X p = 6 then (match fLw X false p with
    | .inl e => .inl e
    | .inr q => .inr (q.1, D.1, D.2.1, D.2.2.1, D.2.2.2.1, D.2.2.2.2.1, some q.2, D.2.2.2.2.2.2))
  else if tkK X p = 7 then (match fLw X true p with
    | .inl e => .inl e
    | .inr q => .inr (q.1, D.1, D.2.1, D.2.2.1, D.2.2.2.1, D.2.2.2.2.1, D.2.2.2.2.2.1, some q.2))
  else .inl (erK X p, tkA X p)
def fLns (X : zX) : Nat → zDd → Nat → Nat → Sum (Nat × Nat) (Nat × Nat × zDd)
  | 0, D, li, p => .inr (p, li, D)
  | k + 1, D, li, p => if tkK X p = 24 then .inr (p, li, D) else match fLn X D p with
    | .inl e => .inl e
    | .inr q => if tkK X q.1 = 30 then fLns X k q.2 (li + 1) (tkB X q.1) else .inl (erK X q.1, tkA X q.1)
def bts (f : Nat → Nat) : Nat → Nat
  | 0 => 0
  | k + 1 => bts f k ||| 2 ^ f k
abbrev whl (n : Nat) (f : Nat → Nat) : Prop := bts f n = 2 ^ n - 1
def fHd (X : zX) : Sum (Nat × Nat) (Nat × zDd) := if tkK X 0 = 0 then (match fNd X 1 1 6 (tkB X 0) with
    | .inl e => .inl e
    | .inr q => match fNd X 2 1 9 q.1 with
      | .inl e => .inl e
      | .inr q2 => if tkK X q2.1 = 30 then .inr (tkB X q2.1, q.2, q2.2, id, id, 0, none, none) else .inl (erK X q2.1, tkA X q2.1)) else .inl (erK X 0, tkA X 0)
def fDk (X : zX) : Sum (Nat × Nat) (Nat × zDd) := match fHd X with
  | .inl e => .inl e
  | .inr q => match fLns X 901 q.2 1 q.1 with
    | .inl e => .inl e
    | .inr q2 => if whl q2.2.2.1 q2.2.2.2.2.1 ∧ whl q2.2.2.1 q2.2.2.2.2.2.1 then .inr (q2.2.1, q2.2.2) else .inl (3, tkA X q2.1)
def LwK (b : Bool) (c : Option (List Nat)) : Prop := match c with
  | none => True
  | some cs => okc cs [] b ∧ cs.length < 900
def zDok (D : zDd) : Prop := 0 < D.1 ∧ D.1 ≤ 6 ∧ 0 < D.2.1 ∧ D.2.1 ≤ 9 ∧ (∀ i, i < D.1 → D.2.2.1 i < D.1) ∧ (∀ i, i < D.1 → D.2.2.2.1 i < D.1) ∧ D.2.2.2.2.1 < 10 ∧ LwK false D.2.2.2.2.2.1 ∧ LwK true D.2.2.2.2.2.2
section ZLi
variable {X : zX} {p n : Nat}
theorem fNm_o {lo hi : Nat} {q : Nat × Nat} (hp : p ≤ X.2) (h : fNm X lo hi p = .inr q) : q.1 = tkB X p ∧ q.1 ≤ X.2 ∧ tkA X p + 1 ≤ tkA X q.1 ∧ lo ≤ q.2 ∧ q.2 ≤ hi ∧ q.2 < 1000 ∧ tkK X p = 23 := by
  unfold fNm at h
  by_cases z : tkK X p ≠ 23
  · rw [if_pos z] at h; cases h
  · rw [if_neg z] at h
    split at h
    · cases h
    · next y =>
      obtain rfl := Sum.inr.inj h
      have b := tkA_B hp (by omega)
      have := tkV_lt (X := X) (p := p)
      exact ⟨rfl, b.2, b.1, by omega, by omega, this, by omega⟩
theorem fNm_e {lo hi : Nat} {e : Nat × Nat} (hp : p ≤ X.2) (h : fNm X lo hi p = .inl e) : 0 < e.1 ∧ e.1 < 5 ∧ e.2 ≤ X.2 := by
  unfold fNm at h
  have a := tkA_le hp
  split at h
  · obtain rfl := Sum.inl.inj h
    exact ⟨erK_r.1, erK_r.2, a⟩
  · split at h
    · obtain rfl := Sum.inl.inj h
      exact ⟨Nat.succ_pos 2, Nat.le_of_ble_eq_true rfl, a⟩
    · cases h
theorem fDr_o {q : Nat × Nat × Nat} (hp : p ≤ X.2) (hK : tkK X p ≠ 24) (h0 : 0 < n) (h : fDr X n p = .inr q) : q.1 ≤ X.2 ∧ tkA X p ≤ tkA X q.1 ∧ q.2.1 < n ∧ q.2.2 < n := by
  unfold fDr at h
  have b := tkA_B hp hK
  cases e1 : fNm X 0 (n - 1) (tkB X p) with
  | inl e => rw [e1] at h; cases h
  | inr q1 =>
    rw [e1] at h
    simp only at h
    have o1 := fNm_o b.2 e1
    cases e2 : fNm X 0 (n - 1) q1.1 with
    | inl e => rw [e2] at h; cases h
    | inr q2 =>
      rw [e2] at h
      obtain rfl := Sum.inr.inj h
      have o2 := fNm_o o1.2.1 e2
      exact ⟨o2.2.1, by simp only; omega, by simp only; omega, by simp only; omega⟩
theorem Gl.lw {b : Bool} (hp : p ≤ X.2) (hK : tkK X p ≠ 24) : Gl X p (fLw X b p) := by
  have t := tkA_B hp hK
  refine Gl.mono (p1 := tkB X p) ?_ (by omega)
  refine (Gl.wa (by decide) t.2).sq (fun p1 h1 _ => ?_)
  split
  · exact Gl.tr (fun p hp => Gl.u1 hp) h1
  · exact Gl.sm (fun p hp => Gl.a1 hp) h1
theorem Gt.lw {b : Bool} : Gt [] [b] (fLw X b p) := by
  refine Gt.wa.sq (fun p1 => ?_)
  cases b with
  | true => rw [if_pos rfl]; exact Gt.tr (fun p => (Gt.lv 6 p).2)
  | false => rw [if_neg (by decide)]; exact Gt.sm (fun p => (Gt.lv 6 p).1)
/-- a law's code is whole, and shorter than the text -/
theorem fLw_o {b : Bool} {q : Nat × List Nat} (hX : X.2 ≤ 900) (hp : p ≤ X.2) (hK : tkK X p ≠ 24) (h : fLw X b p = .inr q) : q.1 ≤ X.2 ∧ q.2.length + tkA X p ≤ tkA X q.1 ∧ LwK b (some q.2) := by
  have g1 := Gl.lw (b := b) hp hK
  have g2 := Gt.lw (X := X) (p := p) (b := b)
  have t := tkA_B hp hK
  rw [h] at g1 g2
  refine ⟨g1.1, g1.2, g2.ok, ?_⟩
  have e : sqR (waR X 31 (tkB X p)) (fun p => if b = true then fTr X (fLv X 6).2 p else fSm X (fLv X 6).1 p) = .inr q := h
  by_cases z : tkK X (tkB X p) = 31
  · rw [waR, if_pos z, sqR_n] at e
    have t2 := tkA_B t.2 (by omega)
    have g3 : Gl X (tkB X (tkB X p)) (.inr q) := by
      rw [← e]
      split
      · exact Gl.tr (fun p hp => Gl.u1 hp) t2.2
      · exact Gl.sm (fun p hp => Gl.a1 hp) t2.2
    have := g3.2
    have := tkA_le g3.1
    omega
  · rw [waR, if_neg z] at e
    cases e
theorem fLn_o {D : zDd} {q : Nat × zDd} (hX : X.2 ≤ 900) (hp : p ≤ X.2) (hK : tkK X p ≠ 24) (hD : zDok D) (h : fLn X D p = .inr q) : q.1 ≤ X.2 ∧ tkA X p ≤ tkA X q.1 ∧ zDok q.2 := by
  obtain ⟨a1, a2, a3, a4, a5, a6, a7, a8, a9⟩ := hD
  unfold fLn at h
  have b := tkA_B hp hK
  split at h
  · cases e1 : fDr X D.1 p with
    | inl e => rw [e1] at h; cases h
    | inr q1 =>
      rw [e1] at h
      obtain rfl := Sum.inr.inj h
      have o := fDr_o hp hK a1 e1
      refine ⟨o.1, o.2.1, a1, a2, a3, a4, fun i hi => ?_, a6, a7, a8, a9⟩
      simp only [upn]
      split
      · exact o.2.2.2
      · exact a5 i hi
  · split at h
    · cases e1 : fDr X D.1 p with
      | inl e => rw [e1] at h; cases h
      | inr q1 =>
        rw [e1] at h
        obtain rfl := Sum.inr.inj h
        have o := fDr_o hp hK a1 e1
        refine ⟨o.1, o.2.1, a1, a2, a3, a4, a5, fun i hi => ?_, a7, a8, a9⟩
        simp only [upn]
        split
        · exact o.2.2.2
        · exact a6 i hi
    · split at h
      · cases e1 : fNm X 0 9 (tkB X p) with
        | inl e => rw [e1] at h; cases h
        | inr q1 =>
          rw [e1] at h
          obtain rfl := Sum.inr.inj h
          have o := fNm_o b.2 e1
          exact ⟨o.2.1, by simp only; omega, a1, a2, a3, a4, a5, a6, by simp only; omega, a8, a9⟩
      · split at h
        · cases e1 : fLw X false p with
          | inl e => rw [e1] at h; cases h
          | inr q1 =>
            rw [e1] at h
            obtain rfl := Sum.inr.inj h
            have o := fLw_o hX hp hK e1
            exact ⟨o.1, by simp only; omega, a1, a2, a3, a4, a5, a6, a7, o.2.2, a9⟩
        · split at h
          · cases e1 : fLw X true p with
            | inl e => rw [e1] at h; cases h
            | inr q1 =>
              rw [e1] at h
              obtain rfl := Sum.inr.inj h
              have o := fLw_o hX hp hK e1
              exact ⟨o.1, by simp only; omega, a1, a2, a3, a4, a5, a6, a7, a8, o.2.2⟩
          · cases h
end ZLi

