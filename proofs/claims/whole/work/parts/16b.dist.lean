/-! how far rows are from an aim: what it means, and two ways to know it -/
/-- within m swaps of a row that is so -/
def rch (n : Nat) (B : Nat → Bool) : Nat → Nat → Bool
  | 0, s => B s
  | m + 1, s => rch n B m s || (List.range (np n)).any (fun k => rch n B m (swp n s k))
theorem rch_s {n : Nat} {B : Nat → Bool} {m s : Nat} : rch n B (m + 1) s = true ↔ rch n B m s = true ∨ ∃ k, k < np n ∧ rch n B m (swp n s k) = true := by
  rw [rch, Bool.or_eq_true, List.any_eq_true]
  constructor
  · rintro (h | ⟨k, hk, h⟩)
    · exact Or.inl h
    · exact Or.inr ⟨k, List.mem_range.mp hk, h⟩
  · rintro (h | ⟨k, hk, h⟩)
    · exact Or.inl h
    · exact Or.inr ⟨k, List.mem_range.mpr hk, h⟩
theorem rch_mono {n : Nat} {B : Nat → Bool} {m s : Nat} (h : rch n B m s = true) : ∀ k, rch n B (m + k) s = true := by
  intro k
  induction k with
  | zero => exact h
  | succ k ih => exact rch_s.mpr (Or.inl ih)
/-- m is the distance of s -/
def isD (n : Nat) (B : Nat → Bool) (s m : Nat) : Prop := rch n B m s = true ∧ ∀ j, rch n B j s = true → m ≤ j
def noD (n : Nat) (B : Nat → Bool) (s : Nat) : Prop := ∀ j, rch n B j s = false
theorem isD_u {n : Nat} {B : Nat → Bool} {s m m' : Nat} (a : isD n B s m) (b : isD n B s m') : m = m' := Nat.le_antisymm (a.2 m' b.1) (b.2 m a.1)
theorem isD_no {n : Nat} {B : Nat → Bool} {s m : Nat} (a : isD n B s m) (b : noD n B s) : False := by
  have := b m
  rw [a.1] at this
  cases this
theorem isD_ex (n : Nat) (B : Nat → Bool) (s : Nat) : (∃ m, isD n B s m) ∨ noD n B s := by
  by_cases h : ∃ m, rch n B m s = true
  · obtain ⟨k, h1, h2⟩ := pk_least _ h
    refine Or.inl ⟨k, h1, fun j hj => ?_⟩
    rcases Nat.lt_or_ge j k with z | z
    · exact absurd hj (h2 j z)
    · exact z
  · exact Or.inr (fun j => Bool.eq_false_iff.mpr (fun z => h ⟨j, z⟩))
/-- from s, by swap k one comes nearer -/
theorem isD_step {n : Nat} {B : Nat → Bool} {s m : Nat} (h0 : 0 < n) (hn : n ≤ 6) (hs : s < fct n) (a : isD n B s (m + 1)) : ∃ k, k < np n ∧ isD n B (swp n s k) m := by
  rcases rch_s.mp a.1 with h | ⟨k, hk, h⟩
  · have := a.2 m h
    omega
  · refine ⟨k, hk, h, fun j hj => ?_⟩
    have z : rch n B (j + 1) s = true := rch_s.mpr (Or.inr ⟨k, hk, hj⟩)
    have := a.2 _ z
    omega
theorem isD_0 {n : Nat} {B : Nat → Bool} {s : Nat} (h : B s = true) : isD n B s 0 := ⟨h, fun _ _ => Nat.zero_le _⟩
theorem isD_0' {n : Nat} {B : Nat → Bool} {s : Nat} (h : isD n B s 0) : B s = true := h.1
/-- numbers that never say too little, and can't be made less, are the distances -/
def Snd (n : Nat) (B : Nat → Bool) (f : Nat → Option Nat) : Prop := ∀ s, s < fct n → (∀ m, f s = some m → rch n B m s = true) ∧ (B s = true → f s = some 0)
def Fix (n : Nat) (f : Nat → Option Nat) : Prop := ∀ s, s < fct n → ∀ k, k < np n → ∀ m, f (swp n s k) = some m → ∃ m', f s = some m' ∧ m' ≤ m + 1
theorem fix_le {n : Nat} {B : Nat → Bool} {f : Nat → Option Nat} (h0 : 0 < n) (hn : n ≤ 6) (a : Snd n B f) (b : Fix n f) : ∀ m s, s < fct n → rch n B m s = true → ∃ m', f s = some m' ∧ m' ≤ m := by
  intro m
  induction m with
  | zero => intro s hs h; exact ⟨0, (a s hs).2 h, Nat.le_refl _⟩
  | succ m ih =>
    intro s hs h
    rcases rch_s.mp h with h | ⟨k, hk, h⟩
    · obtain ⟨m', e, l⟩ := ih s hs h
      exact ⟨m', e, by omega⟩
    · obtain ⟨m', e, l⟩ := ih _ (swp_lt h0 hn hs hk) h
      obtain ⟨m2, e2, l2⟩ := b s hs k hk m' e
      exact ⟨m2, e2, by omega⟩
theorem fix_d {n : Nat} {B : Nat → Bool} {f : Nat → Option Nat} (h0 : 0 < n) (hn : n ≤ 6) (a : Snd n B f) (b : Fix n f) {s : Nat} (hs : s < fct n) : (∀ m, f s = some m → isD n B s m) ∧ (f s = none → noD n B s) := by
  refine ⟨fun m e => ⟨(a s hs).1 m e, fun j hj => ?_⟩, fun e j => ?_⟩
  · obtain ⟨m', e', l⟩ := fix_le h0 hn a b j s hs hj
    rw [e] at e'
    cases e'
    exact l
  · refine Bool.eq_false_iff.mpr (fun hj => ?_)
    obtain ⟨m', e', l⟩ := fix_le h0 hn a b j s hs hj
    rw [e] at e'
    cases e'
/-- an answer that tells the distance -/
def isA (n : Nat) (B : Nat → Bool) (s : Nat) (r : Int32) : Prop := (∃ m, isD n B s m ∧ r = nI m) ∨ (noD n B s ∧ r = -1)
theorem isA_u {n : Nat} {B : Nat → Bool} {s : Nat} {r r' : Int32} (a : isA n B s r) (b : isA n B s r') : r = r' := by
  rcases a with ⟨m, a1, a2⟩ | ⟨a1, a2⟩
  · rcases b with ⟨m', b1, b2⟩ | ⟨b1, b2⟩
    · rw [a2, b2, isD_u a1 b1]
    · exact (isD_no a1 b1).elim
  · rcases b with ⟨m', b1, b2⟩ | ⟨b1, b2⟩
    · exact (isD_no b1 a1).elim
    · rw [a2, b2]
def sumN (f : Nat → Nat) : Nat → Nat
  | 0 => 0
  | k + 1 => sumN f k + f k
theorem sumN_up {f : Nat → Nat} {s x : Nat} : ∀ n, s < n → sumN (fun t => if t = s then x else f t) n + f s = sumN f n + x := by
  have o : ∀ n, n ≤ s → sumN (fun t => if t = s then x else f t) n = sumN f n := by
    intro n
    induction n with
    | zero => intro _; rfl
    | succ n ih => intro h; rw [sumN, sumN, ih (by omega), if_neg (by omega)]
  intro n
  induction n with
  | zero => intro h; omega
  | succ n ih =>
    intro h
    rw [sumN, sumN]
    by_cases z : n = s
    · subst z
      rw [o n (Nat.le_refl _), if_pos rfl]
      omega
    · rw [if_neg z]
      have := ih (by omega)
      omega
theorem sumN_le {f : Nat → Nat} {b : Nat} (h : ∀ t, f t ≤ b) : ∀ n, sumN f n ≤ n * b := by
  intro n
  induction n with
  | zero => exact Nat.zero_le _
  | succ n ih => rw [sumN, Nat.succ_mul]; have := h n; omega

