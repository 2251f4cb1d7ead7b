/-! the text: its tokens by places -/
abbrev zX : Type := (Nat → Nat) × Nat
def rnE (P : Nat → Bool) : Nat → Nat → Nat
  | 0, p => p
  | f + 1, p => if P p = true then rnE P f (p + 1) else p
def isWs (c : Nat) : Bool := decide (c = 10 ∨ c = 32)
def isLo (c : Nat) : Bool := decide (97 ≤ c ∧ c ≤ 122)
def isDg (c : Nat) : Bool := decide (48 ≤ c ∧ c ≤ 57)
def inX (X : zX) (F : Nat → Bool) (k : Nat) : Bool := decide (k < X.2) && F (X.1 k)
def rnX (X : zX) (F : Nat → Bool) (p : Nat) : Nat := rnE (inX X F) (X.2 - p) p
section ZTk
variable {X : zX} {F : Nat → Bool} {p a b : Nat}
theorem inX_t (h : p < X.2) (hf : F (X.1 p) = true) : inX X F p = true := by simp [inX, h, hf]
theorem inX_f (h : ¬ (p < X.2 ∧ F (X.1 p) = true)) : ¬ inX X F p = true := by
  intro q
  simp only [inX, Bool.and_eq_true, decide_eq_true_eq] at q
  exact h q
theorem rnX_t (h : p < X.2) (hf : F (X.1 p) = true) : rnX X F p = rnX X F (p + 1) := by
  unfold rnX
  rw [show X.2 - p = (X.2 - (p + 1)) + 1 by omega, rnE, if_pos (inX_t h hf)]
theorem rnX_f (h : ¬ (p < X.2 ∧ F (X.1 p) = true)) : rnX X F p = p := by
  unfold rnX
  cases X.2 - p with
  | zero => rfl
  | succ f => rw [rnE, if_neg (inX_f h)]
theorem rnE_le {P : Nat → Bool} : ∀ (f p : Nat), p ≤ rnE P f p ∧ rnE P f p ≤ p + f ∧ ∀ j, p ≤ j → j < rnE P f p → P j = true := by
  intro f
  induction f with
  | zero => intro p; exact ⟨Nat.le_refl _, Nat.le_refl _, fun j h1 h2 => absurd h2 (by rw [rnE]; omega)⟩
  | succ f ih =>
    intro p
    rw [rnE]
    by_cases q : P p = true
    · rw [if_pos q]
      obtain ⟨h1, h2, h3⟩ := ih (p + 1)
      refine ⟨by omega, by omega, fun j j1 j2 => ?_⟩
      by_cases z : j = p
      · rw [z]; exact q
      · exact h3 j (by omega) j2
    · rw [if_neg q]
      exact ⟨Nat.le_refl _, by omega, fun j h1 h2 => absurd h2 (by omega)⟩
theorem rnX_le (h : p ≤ X.2) : p ≤ rnX X F p ∧ rnX X F p ≤ X.2 ∧ ∀ j, p ≤ j → j < rnX X F p → F (X.1 j) = true := by
  obtain ⟨h1, h2, h3⟩ := rnE_le (P := inX X F) (X.2 - p) p
  refine ⟨h1, by unfold rnX; omega, fun j j1 j2 => ?_⟩
  have := h3 j j1 j2
  simp only [inX, Bool.and_eq_true] at this
  exact this.2
theorem rnX_end (h : p ≤ X.2) : ¬ (rnX X F p < X.2 ∧ F (X.1 (rnX X F p)) = true) := by
  generalize hk : X.2 - p = k
  induction k generalizing p with
  | zero =>
    rw [rnX_f (by omega)]
    omega
  | succ k ih =>
    by_cases q : p < X.2 ∧ F (X.1 p) = true
    · rw [rnX_t q.1 q.2]
      exact ih (by omega) (by omega)
    · rw [rnX_f q]
      exact q
def zSg : List Nat := [59, 58, 43, 45, 42, 40, 41, 91, 93, 61, 60, 62]
def sgN (c : Nat) : Nat → Nat
  | 0 => 25
  | k + 1 => if c = zSg.getD k 0 then 30 + k else sgN c k
abbrev sgK (c : Nat) : Nat := sgN c 12
def kc (i : Nat) : Nat := (zB2.getD i 0).toNatClampNeg
def kd (i : Nat) : Nat := (zB0.getD i 0).toNatClampNeg
def kwP (j : Nat) : Nat := [1, 6, 14, 20, 25, 31, 36, 41, 47, 50, 55, 60, 64, 67, 73, 78, 84, 88, 91, 95].getD j 95
def kwN (j : Nat) : Nat := kwP (j + 1) - kwP j - 1
abbrev kwE (X : zX) (a b j : Nat) : Prop := b = a + kwN j ∧ ∀ t, t < kwN j → X.1 (a + t) = kc (kwP j + t)
def kwF (X : zX) (a b : Nat) : Nat → Nat → Nat
  | 0, _ => 22
  | f + 1, j => if kwE X a b j then j else kwF X a b f (j + 1)
def keyX (X : zX) (a b : Nat) : Nat := kwF X a b 19 0
theorem kwF_t : ∀ (f i j : Nat), j < i + f → i ≤ j → (∀ t, i ≤ t → t < j → ¬ kwE X a b t) → kwE X a b j → kwF X a b f i = j := by
  intro f
  induction f with
  | zero => intro i j h1 h2; omega
  | succ f ih =>
    intro i j h1 h2 h3 h4
    rw [kwF]
    by_cases z : i = j
    · rw [z, if_pos h4]
    · rw [if_neg (h3 i (Nat.le_refl _) (by omega))]
      exact ih (i + 1) j (by omega) (by omega) (fun t t1 t2 => h3 t (by omega) t2) h4
theorem keyX_t {j : Nat} (hj : j < 19) (h : ∀ i, i < j → ¬ kwE X a b i) (e : kwE X a b j) : keyX X a b = j := kwF_t 19 0 j (by omega) (by omega) (fun t _ t2 => h t t2) e
theorem kwF_f : ∀ (f i : Nat), (∀ t, i ≤ t → t < i + f → ¬ kwE X a b t) → kwF X a b f i = 22 := by
  intro f
  induction f with
  | zero => intro i _; rfl
  | succ f ih =>
    intro i h
    rw [kwF, if_neg (h i (Nat.le_refl _) (by omega))]
    exact ih (i + 1) (fun t t1 t2 => h t (by omega) (by omega))
theorem keyX_f (h : ∀ i, i < 19 → ¬ kwE X a b i) : keyX X a b = 22 := kwF_f 19 0 (fun t _ t2 => h t (by omega))
theorem kwF_r : ∀ (f i : Nat), kwF X a b f i < i + f ∨ kwF X a b f i = 22 := by
  intro f
  induction f with
  | zero => intro i; exact Or.inr rfl
  | succ f ih =>
    intro i
    rw [kwF]
    split
    · exact Or.inl (by omega)
    · rcases ih (i + 1) with z | z
      · exact Or.inl (by omega)
      · exact Or.inr z
theorem keyX_r : keyX X a b < 19 ∨ keyX X a b = 22 := by
  rcases kwF_r (X := X) (a := a) (b := b) 19 0 with z | z
  · exact Or.inl (by unfold keyX; omega)
  · exact Or.inr z
theorem sgN_r {c : Nat} : ∀ k, sgN c k = 25 ∨ (30 ≤ sgN c k ∧ sgN c k < 30 + k) := by
  intro k
  induction k with
  | zero => exact Or.inl rfl
  | succ k ih =>
    rw [sgN]
    split
    · exact Or.inr ⟨by omega, by omega⟩
    · rcases ih with z | z
      · exact Or.inl z
      · exact Or.inr ⟨z.1, by omega⟩
theorem sgK_r {c : Nat} : sgK c = 25 ∨ (30 ≤ sgK c ∧ sgK c < 42) := sgN_r 12
def dgV (X : zX) (a : Nat) : Nat → Nat
  | 0 => 0
  | k + 1 => if k < 3 then dgV X a k * 10 + (X.1 (a + k) - 48) else dgV X a k
def tkA (X : zX) (p : Nat) : Nat := rnX X isWs p
def tkB (X : zX) (p : Nat) : Nat := if X.2 ≤ tkA X p then tkA X p else if isLo (X.1 (tkA X p)) = true then rnX X isLo (tkA X p) else if isDg (X.1 (tkA X p)) = true then rnX X isDg (tkA X p) else tkA X p + 1
def tkK (X : zX) (p : Nat) : Nat := if X.2 ≤ tkA X p then 24 else if isLo (X.1 (tkA X p)) = true then keyX X (tkA X p) (rnX X isLo (tkA X p)) else if isDg (X.1 (tkA X p)) = true then (if 3 < rnX X isDg (tkA X p) - tkA X p then 25 else 23) else sgK (X.1 (tkA X p))
def tkV (X : zX) (p : Nat) : Nat := dgV X (tkA X p) (rnX X isDg (tkA X p) - tkA X p)
theorem tk_le (h : p ≤ X.2) : p ≤ tkA X p ∧ tkA X p ≤ tkB X p ∧ tkB X p ≤ X.2 ∧ (tkK X p ≠ 24 → tkA X p < tkB X p) ∧ (tkK X p = 24 ↔ X.2 ≤ tkA X p) := by
  obtain ⟨h1, h2, -⟩ := rnX_le (F := isWs) h
  have h1' : p ≤ tkA X p := h1
  have h2' : tkA X p ≤ X.2 := h2
  refine ⟨h1, ?_⟩
  unfold tkB tkK
  generalize tkA X p = a at h1' h2'
  by_cases q : X.2 ≤ a
  · rw [if_pos q, if_pos q]
    exact ⟨Nat.le_refl _, h2', fun z => absurd rfl z, fun _ => q, fun _ => rfl⟩
  · rw [if_neg q, if_neg q]
    by_cases q1 : isLo (X.1 a) = true
    · rw [if_pos q1, if_pos q1, rnX_t (by omega) q1]
      obtain ⟨g1, g2, -⟩ := rnX_le (X := X) (F := isLo) (p := a + 1) (by omega)
      refine ⟨by omega, g2, fun _ => by omega, fun z => ?_, fun z => absurd z q⟩
      rcases keyX_r (X := X) (a := a) (b := rnX X isLo (a + 1)) with y | y <;> omega
    · rw [if_neg q1, if_neg q1]
      by_cases q2 : isDg (X.1 a) = true
      · rw [if_pos q2, if_pos q2, rnX_t (by omega) q2]
        obtain ⟨g1, g2, -⟩ := rnX_le (X := X) (F := isDg) (p := a + 1) (by omega)
        refine ⟨by omega, g2, fun _ => by omega, fun z => ?_, fun z => absurd z q⟩
        split at z <;> omega
      · rw [if_neg q2, if_neg q2]
        refine ⟨by omega, by omega, fun _ => by omega, fun z => ?_, fun z => absurd z q⟩
        rcases sgK_r (c := X.1 a) with y | y <;> omega
theorem dgV_lt : ∀ k, (∀ j, j < k → isDg (X.1 (a + j)) = true) → dgV X a k < 10 ^ (min k 3) := by
  intro k
  induction k with
  | zero => intro _; show 0 < 1; decide
  | succ k ih =>
    intro h
    have h1 := ih (fun j hj => h j (by omega))
    have h2 := h k (by omega)
    simp only [isDg, decide_eq_true_eq] at h2
    rw [dgV]
    split
    · next q =>
      rw [show min (k + 1) 3 = k + 1 by omega, Nat.pow_succ]
      rw [show min k 3 = k by omega] at h1
      omega
    · next q =>
      rw [show min (k + 1) 3 = 3 by omega]
      rw [show min k 3 = 3 by omega] at h1
      exact h1
theorem tkV_lt : tkV X p < 1000 := by
  unfold tkV
  generalize tkA X p = a
  obtain ⟨h1, h2, h3⟩ := rnE_le (P := inX X isDg) (X.2 - a) a
  have := dgV_lt (X := X) (a := a) (rnX X isDg a - a) (fun j hj => by
    have := h3 (a + j) (by omega) (by unfold rnX at hj; omega)
    simp only [inX, Bool.and_eq_true] at this
    exact this.2)
  have h3 : 10 ^ (min (rnX X isDg a - a) 3) ≤ 10 ^ 3 := Nat.pow_le_pow_right (by decide) (by omega)
  omega
end ZTk

