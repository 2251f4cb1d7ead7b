/-! codes of the grammar are whole; how high their values stand -/
def Gt (a b : List Bool) (r : zR) : Prop := match r with
  | .inl _ => True
  | .inr q => ∀ (rest : List Nat) (ts : List Bool) (c : Bool), okc rest (b ++ ts) c → okc (q.2 ++ rest) (a ++ ts) c
section ZKi
variable {X : zX} {p : Nat} {f u : Nat → zR} {a b c : List Bool} {r : zR}
theorem Gt.sq (h : Gt a b r) (hf : ∀ p, Gt b c (f p)) : Gt a c (sqR r f) := by
  cases r with
  | inl e => trivial
  | inr q =>
    rw [sqR_r]
    have h2 := hf q.1
    cases hq : f q.1 with
    | inl e => trivial
    | inr q2 =>
      rw [hq] at h2
      intro rest ts x k
      simp only [List.append_assoc]
      exact h _ ts x (h2 rest ts x k)
theorem Gt.fr (t : List Bool) (h : Gt a b r) : Gt (a ++ t) (b ++ t) r := by
  cases r with
  | inl e => trivial
  | inr q =>
    intro rest ts x k
    rw [List.append_assoc] at k ⊢
    exact h rest (t ++ ts) x k
theorem Gt.er : Gt a b (erR X p) := trivial
theorem Gt.nl {p : Nat} : Gt a a (.inr (p, [])) := fun _ _ _ k => k
theorem Gt.wa {k : Nat} : Gt a a (waR X k p) := by
  unfold waR
  split
  · exact Gt.nl
  · exact Gt.er
theorem Gt.emN : Gt [true] [true] (emR 3006 p) := fun rest ts x k => Or.inr (Or.inl ⟨rfl, ts, rfl, k⟩)
theorem Gt.emI : Gt [false, false, true] [false] (emR 3009 p) := fun rest ts x k => Or.inr (Or.inr (Or.inl ⟨rfl, ts, rfl, k⟩))
theorem Gt.emT {k : Nat} (h : ¬ opT k = 0) : Gt [false, false] [false] (emR (opT k) p) := fun rest ts x kk => Or.inr (Or.inr (Or.inr (Or.inl ⟨by unfold opT at h ⊢; split <;> simp_all, ts, rfl, kk⟩)))
theorem Gt.emS {k : Nat} (h : ¬ opS k = 0) : Gt [false, false] [false] (emR (opS k) p) := fun rest ts x kk => Or.inr (Or.inr (Or.inr (Or.inl ⟨by unfold opS at h ⊢; (repeat' split) <;> simp_all, ts, rfl, kk⟩)))
theorem Gt.emC {k : Nat} (h : ¬ opC k = 0) : Gt [false, false] [true] (emR (opC k) p) := fun rest ts x kk => Or.inr (Or.inr (Or.inr (Or.inr (Or.inl ⟨by unfold opC at h ⊢; (repeat' split) <;> simp_all, ts, rfl, kk⟩))))
theorem Gt.emA {k : Nat} (h : ¬ opA k = 0) : Gt [true, true] [true] (emR (opA k) p) := fun rest ts x kk => Or.inr (Or.inr (Or.inr (Or.inr (Or.inr ⟨by unfold opA at h ⊢; (repeat' split) <;> simp_all, ts, rfl, kk⟩))))
theorem Gt.emO {k : Nat} (h : ¬ opO k = 0) : Gt [true, true] [true] (emR (opO k) p) := fun rest ts x kk => Or.inr (Or.inr (Or.inr (Or.inr (Or.inr ⟨by unfold opO at h ⊢; (repeat' split) <;> simp_all, ts, rfl, kk⟩))))
theorem Gt.lp {op : Nat → Nat} {v : Bool} (he : ∀ k p, ¬ op k = 0 → Gt [v, v] [v] (emR (op k) p)) (hf : ∀ p, Gt [] [v] (f p)) : ∀ (k p : Nat), Gt [v] [v] (lpR X op f k p) := by
  intro k
  induction k with
  | zero => intro p; exact Gt.nl
  | succ k ih =>
    intro p
    by_cases q : op (tkK X p) = 0
    · rw [lpR, if_pos q]
      exact Gt.nl
    · rw [lpR_a q]
      exact (((hf _).fr [v]).sq (fun p1 => he _ p1 q)).sq (fun p1 => ih p1)
theorem Gt.tm (hf : ∀ p, Gt [] [false] (f p)) : Gt [] [false] (fTm X f p) := (hf p).sq (fun p1 => Gt.lp (fun _ _ h => Gt.emT h) hf 901 p1)
theorem Gt.sm (hf : ∀ p, Gt [] [false] (f p)) : Gt [] [false] (fSm X f p) := (Gt.tm hf).sq (fun p1 => Gt.lp (fun _ _ h => Gt.emS h) (fun p => Gt.tm hf) 901 p1)
theorem Gt.bo (hf : ∀ p, Gt [] [true] (f p)) : Gt [] [true] (fBo X f p) := (hf p).sq (fun p1 => Gt.lp (fun _ _ h => Gt.emA h) hf 901 p1)
theorem Gt.tr (hf : ∀ p, Gt [] [true] (f p)) : Gt [] [true] (fTr X f p) := (Gt.bo hf).sq (fun p1 => Gt.lp (fun _ _ h => Gt.emO h) (fun p => Gt.bo hf) 901 p1)
theorem Gt.cm (hf : ∀ p, Gt [] [false] (f p)) : Gt [] [true] (fCm X f p) := (Gt.sm hf).sq (fun p1 => by
  by_cases q : opC (tkK X p1) = 0
  · rw [if_pos q]; exact Gt.er
  · rw [if_neg q]
    exact ((Gt.sm hf).fr [false]).sq (fun p1 => Gt.emC q))
theorem Gt.fi (hf : ∀ p, Gt [] [false] (f p)) (hu : ∀ p, Gt [] [true] (u p)) : Gt [] [false] (fIf X f u p) :=
  (Gt.tr hu).sq (fun p1 => Gt.wa.sq (fun p1 => ((Gt.sm hf).fr [true]).sq (fun p1 => Gt.wa.sq (fun p1 => ((Gt.sm hf).fr [false, true]).sq (fun p1 => Gt.wa.sq (fun p1 => Gt.emI))))))
theorem Gt.lf {q : Nat} (h : tkK X p = 23 ∨ tkK X p = 5 ∨ (12 ≤ tkK X p ∧ tkK X p ≤ 15)) : Gt [] [false] (.inr (q, [leaf X p])) := fun rest ts x k => Or.inl ⟨by
  have := tkV_lt (X := X) (p := p)
  unfold leaf
  (repeat' split) <;> omega, k⟩
theorem Gt.lv : ∀ (k : Nat) (p : Nat), Gt [] [false] ((fLv X k).1 p) ∧ Gt [] [true] ((fLv X k).2 p) := by
  intro k
  induction k with
  | zero =>
    have ha : ∀ p, Gt [] [false] (fAt0 X p) := by
      intro p
      unfold fAt0
      split
      · next q => exact Gt.lf q
      · split
        · trivial
        · exact Gt.er
    intro p
    refine ⟨ha p, ?_⟩
    show Gt [] [true] (fUn0 X p)
    unfold fUn0
    split
    · trivial
    · exact Gt.cm ha
  | succ k ih =>
    have i1 : ∀ p, Gt [] [false] ((fLv X k).1 p) := fun p => (ih p).1
    have i2 : ∀ p, Gt [] [true] ((fLv X k).2 p) := fun p => (ih p).2
    have ha : ∀ p, Gt [] [false] (fAt1 X (fLv X k).1 (fLv X k).2 p) := by
      intro p
      unfold fAt1
      split
      · next q => exact Gt.lf q
      · split
        · exact (Gt.sm i1).sq (fun p1 => Gt.wa)
        · split
          · exact Gt.fi i1 i2
          · exact Gt.er
    intro p
    refine ⟨ha p, ?_⟩
    show Gt [] [true] (fUn1 X (fLv X k).1 (fLv X k).2 p)
    unfold fUn1
    split
    · exact (i2 _).sq (fun p1 => Gt.emN)
    · split
      · exact (Gt.tr i2).sq (fun p1 => Gt.wa)
      · exact Gt.cm ha
theorem Gt.ok {v : Bool} {q : Nat × List Nat} (h : Gt [] [v] (.inr q)) : okc q.2 [] v := by
  have := h [] [] v rfl
  rwa [List.append_nil] at this
/-- how high values stand, as a draft counts it -/
def gr (c : Nat) : Int := if c < 1005 then 1 else if c = 3006 then 0 else if c = 3009 then -2 else -1
def dfs (q : Int × Int) (c : Nat) : Int × Int := (q.1 + gr c, max q.2 (q.1 + gr c))
def dft (cs : List Nat) : Int × Int := cs.foldl dfs (0, 0)
theorem dft_s {cs : List Nat} {c : Nat} : dft (cs ++ [c]) = dfs (dft cs) c := by
  unfold dft
  rw [List.foldl_append]
  rfl
theorem gr_r {c : Nat} : -2 ≤ gr c ∧ gr c ≤ 1 := by
  unfold gr
  (repeat' split) <;> omega
theorem dfs_b : ∀ (cs : List Nat) (q : Int × Int) (k : Nat), -2 * (k : Int) ≤ q.1 → q.1 ≤ k → 0 ≤ q.2 → q.2 ≤ k → -2 * ((k + cs.length : Nat) : Int) ≤ (cs.foldl dfs q).1 ∧ (cs.foldl dfs q).1 ≤ ((k + cs.length : Nat) : Int) ∧ q.2 ≤ (cs.foldl dfs q).2 ∧ (cs.foldl dfs q).2 ≤ ((k + cs.length : Nat) : Int) := by
  intro cs
  induction cs with
  | nil => intro q k h1 h2 h3 h4; simp only [List.foldl_nil, List.length_nil, Nat.add_zero]; omega
  | cons c cs ih =>
    intro q k h1 h2 h3 h4
    have := gr_r (c := c)
    have := ih (dfs q c) (k + 1) (by simp only [dfs]; omega) (by simp only [dfs]; omega) (by simp only [dfs]; omega) (by simp only [dfs]; omega)
    simp only [List.foldl_cons, List.length_cons]
    simp only [dfs] at this ⊢
    omega
theorem dft_b {cs : List Nat} : -2 * (cs.length : Int) ≤ (dft cs).1 ∧ (dft cs).1 ≤ cs.length ∧ 0 ≤ (dft cs).2 ∧ (dft cs).2 ≤ cs.length := by
  have := dfs_b cs (0, 0) 0 (by decide) (by decide) (by decide) (by decide)
  simpa [dft] using this
theorem dfs_m : ∀ (cs : List Nat) (q : Int × Int), q.2 ≤ (cs.foldl dfs q).2 := by
  intro cs
  induction cs with
  | nil => intro q; exact Int.le_refl _
  | cons c cs ih =>
    intro q
    have := ih (dfs q c)
    rw [List.foldl_cons]
    simp only [dfs] at this ⊢
    omega
theorem hok_of {H : Nat} : ∀ (cs : List Nat) (ts : List Bool) (v : Bool) (q : Int × Int), okc cs ts v → q.1 = (ts.length : Int) → (cs.foldl dfs q).2 ≤ (H : Int) → hok H cs ts.length := by
  intro cs
  induction cs with
  | nil => intro ts v q _ _ _; trivial
  | cons c cs ih =>
    intro ts v q k h1 h2
    have hm := dfs_m cs (dfs q c)
    rw [List.foldl_cons] at h2
    have g0 : ∀ {ts' : List Bool}, okc cs ts' v → q.1 + gr c = (ts'.length : Int) → hok H cs ts'.length := fun k' h' => ih _ v (dfs q c) k' h' h2
    rw [hok]
    rcases k with ⟨a1, a2⟩ | ⟨rfl, r, rfl, a2⟩ | ⟨rfl, r, rfl, a2⟩ | ⟨a1, r, rfl, a2⟩ | ⟨a1, r, rfl, a2⟩ | ⟨a1, r, rfl, a2⟩
    · rw [if_pos a1]
      have e : gr c = 1 := by unfold gr; rw [if_pos a1]
      have z : (dfs q c).2 = max q.2 (q.1 + gr c) := rfl
      refine ⟨by omega, ?_⟩
      have := g0 a2 (by rw [e, h1]; simp)
      simpa using this
    · have e : gr 3006 = 0 := by decide
      simp only [show ¬ 3006 < 1005 by decide, if_false, if_true]
      have := g0 a2 (by rw [e, h1]; simp)
      simpa using this
    · have e : gr 3009 = -2 := by decide
      simp only [show ¬ 3009 < 1005 by decide, show ¬ (3009 : Nat) = 3006 by decide, if_false, if_true]
      have := g0 a2 (by rw [e, h1]; simp; omega)
      simpa using this
    · have e : gr c = -1 := by unfold gr; rw [if_neg (by omega), if_neg (by omega), if_neg (by omega)]
      rw [if_neg (by omega), if_neg (by omega), if_neg (by omega)]
      have := g0 a2 (by rw [e, h1]; simp; omega)
      simpa using this
    · have e : gr c = -1 := by unfold gr; rw [if_neg (by omega), if_neg (by omega), if_neg (by omega)]
      rw [if_neg (by omega), if_neg (by omega), if_neg (by omega)]
      have := g0 a2 (by rw [e, h1]; simp; omega)
      simpa using this
    · have e : gr c = -1 := by unfold gr; rw [if_neg (by omega), if_neg (by omega), if_neg (by omega)]
      rw [if_neg (by omega), if_neg (by omega), if_neg (by omega)]
      have := g0 a2 (by rw [e, h1]; simp; omega)
      simpa using this
theorem okc_lt {cs : List Nat} : ∀ {ts : List Bool} {v : Bool}, okc cs ts v → ∀ c ∈ cs, c < 4000 := by
  induction cs with
  | nil => intro ts v _ c hc; cases hc
  | cons x cs ih =>
    intro ts v k c hc
    have hx : x < 4000 ∧ ∃ ts', okc cs ts' v := by
      rcases k with ⟨a1, a2⟩ | ⟨rfl, r, rfl, a2⟩ | ⟨rfl, r, rfl, a2⟩ | ⟨a1, r, rfl, a2⟩ | ⟨a1, r, rfl, a2⟩ | ⟨a1, r, rfl, a2⟩ <;> exact ⟨by omega, _, a2⟩
    obtain ⟨h1, ts', h2⟩ := hx
    rcases List.mem_cons.mp hc with z | z
    · rw [z]; exact h1
    · exact ih h2 c z
theorem okc_ne {cs : List Nat} {v : Bool} (h : okc cs [] v) : cs ≠ [] := by
  intro z
  rw [z] at h
  cases h
end ZKi

