/-! how it lies behind many nights: at, comesRound, first, often on both sides -/
def ordB (n t : Nat) : Bool := (List.range (ordr n t)).all (fun k => decide (k = 0) || !((List.range n).all (fun i => decide (nbk n t k i = i))))
theorem ordB_all : ∀ n, n < 7 → ∀ t, t < fct n → ordB n t = true := by decide +kernel
section ZNg
variable {n t q : Nat}
theorem nbk_ord {k i : Nat} (hn : n ≤ 6) (ht : t < fct n) (hi : i < n) : nbk n t (k % ordr n t) i = nbk n t k i := (pwk_ord hn ht hi).trans (pwk_nbk hn ht hi)
theorem ord_least {k : Nat} (hn : n ≤ 6) (ht : t < fct n) (hk : ∀ i, i < n → nbk n t k i = i) : k % ordr n t = 0 := by
  have of := rnd_facts hn ht
  have lt := Nat.mod_lt k of.2.2.1
  have h := ordB_all n (by omega) t ht
  unfold ordB at h
  rw [List.all_eq_true] at h
  have z := h (k % ordr n t) (List.mem_range.mpr lt)
  rw [Bool.or_eq_true] at z
  rcases z with z | z
  · exact of_decide_eq_true z
  · exfalso
    rw [Bool.not_eq_true'] at z
    have : (List.range n).all (fun i => decide (nbk n t (k % ordr n t) i = i)) = true := by
      rw [List.all_eq_true]
      intro i hi
      have hi := List.mem_range.mp hi
      exact decide_eq_true ((nbk_ord hn ht hi).trans (hk i hi))
    rw [this] at z
    cases z
theorem ngk_fix {k : Nat} (h0 : 0 < n) (hn : n ≤ 6) (ht : t < fct n) (hq : q < fct n) : ngk n t k q = q ↔ k % ordr n t = 0 := by
  have r := ngk_row h0 hn ht k q hq
  constructor
  · intro z
    refine ord_least hn ht (fun i hi => ?_)
    have e := r.2 i hi
    rw [z] at e
    exact nm_inj hn hq (nbk_lt hn ht k i hi) hi e
  · intro z
    refine row_ext hn r.1 hq (fun i hi => ?_)
    have e := r.2 i hi
    rw [← nbk_ord hn ht hi, z] at e
    exact e
theorem ngk_mod {k : Nat} (h0 : 0 < n) (hn : n ≤ 6) (ht : t < fct n) (hq : q < fct n) : ngk n t (k % ordr n t) q = ngk n t k q := by
  have r1 := ngk_row h0 hn ht k q hq
  have r2 := ngk_row h0 hn ht (k % ordr n t) q hq
  refine row_ext hn r2.1 r1.1 (fun j hj => ?_)
  have p := pow_row (K := k) h0 hn ht
  obtain ⟨i, hi, e⟩ := nm_sur hn p.1 hj
  rw [p.2 i hi] at e
  subst e
  rw [r1.2 i hi]
  have e2 := r2.2 i hi
  rw [nbk_ord hn ht hi] at e2
  exact e2
end ZNg
/-- the first below e at which P holds -/
def fstL (P : Nat → Bool) : Nat → Nat → Int32
  | 0, _ => -1
  | k + 1, j => if P j then nI j else fstL P k (j + 1)
/-- how many of 1 to N have B -/
def hit (B : Nat → Bool) (N : Nat) : Nat := cnt (fun i => B (i + 1)) N
theorem cntL_per {Q : Nat → Bool} {P : Nat} (hp : ∀ i, Q (P + i) = Q i) : ∀ k j, cntL Q k (P + j) = cntL Q k j := by
  intro k
  induction k with
  | zero => intro j; rfl
  | succ k ih => intro j; rw [cntL, cntL, hp, show P + j + 1 = P + (j + 1) by omega, ih]
theorem hit_per {B : Nat → Bool} {P : Nat} (hp : ∀ i, B (P + i) = B i) (m : Nat) : ∀ q, hit B (P * q + m) = q * hit B P + hit B m := by
  intro q
  induction q with
  | zero => rw [Nat.mul_zero, Nat.zero_add, Nat.zero_mul, Nat.zero_add]
  | succ q ih =>
    have e : hit B (P + (P * q + m)) = hit B P + hit B (P * q + m) := by
      unfold hit
      rw [cntL_add]
      have := cntL_per (Q := fun i => B (i + 1)) (P := P) (fun i => by show B (P + i + 1) = B (i + 1); rw [Nat.add_assoc, hp]) (P * q + m) 0
      rw [Nat.add_zero] at this
      rw [this, cntL_cnt]
    rw [Nat.mul_succ, show P * q + P + m = P + (P * q + m) by omega, e, ih, Nat.succ_mul]
    omega
def gk (P N k : Nat) : Nat := if k ≤ N then (N - k) / P + 1 else 0
def smk (B : Nat → Bool) (P N : Nat) : Nat → Nat
  | 0 => 0
  | m + 1 => smk B P N m + (if B (m + 1) then gk P N (m + 1) else 0)
theorem gk_s {P N k : Nat} (h1 : 1 ≤ k) (h2 : k ≤ P) : gk P (N + 1) k = gk P N k + (if k = N % P + 1 then 1 else 0) := by
  have hP : 0 < P := by omega
  unfold gk
  have ml := Nat.mod_lt N hP
  have dm := Nat.div_add_mod N P
  by_cases c1 : k ≤ N
  · rw [if_pos c1, if_pos (by omega), show N + 1 - k = (N - k) + 1 by omega, Nat.succ_div]
    by_cases c2 : k = N % P + 1
    · rw [if_pos c2, if_pos]
      refine ⟨N / P, ?_⟩
      omega
    · rw [if_neg c2, if_neg]
      intro ⟨w, hw⟩
      have e : N + 1 = k + P * w := by omega
      have e3 : N = P * w + (k - 1) := by omega
      have e4 : N % P = k - 1 := by rw [e3, Nat.mul_add_mod, Nat.mod_eq_of_lt (by omega)]
      omega
  · rw [if_neg c1]
    by_cases c2 : k ≤ N + 1
    · have e : k = N + 1 := by omega
      rw [if_pos c2, e, Nat.sub_self, Nat.zero_div, Nat.mod_eq_of_lt (by omega), if_pos rfl]
    · have : N % P = N := Nat.mod_eq_of_lt (by omega)
      rw [if_neg c2, if_neg (by omega)]
theorem smk_s {B : Nat → Bool} {P N : Nat} : ∀ m, m ≤ P → smk B P (N + 1) m = smk B P N m + (if N % P + 1 ≤ m ∧ B (N % P + 1) = true then 1 else 0) := by
  intro m
  induction m with
  | zero => intro _; rw [if_neg (by omega)]; rfl
  | succ m ih =>
    intro hm
    rw [smk, smk, ih (by omega), gk_s (by omega) hm]
    by_cases c : m + 1 = N % P + 1
    · rw [if_pos c, ← c, if_neg (show ¬ (m + 1 ≤ m ∧ _) by omega)]
      by_cases b : B (m + 1) = true
      · rw [if_pos b, if_pos b, if_pos ⟨Nat.le_refl _, b⟩]; omega
      · rw [if_neg b, if_neg b, if_neg (fun z => b z.2)]
    · rw [if_neg c, Nat.add_zero]
      have : (N % P + 1 ≤ m ∧ B (N % P + 1) = true) ↔ (N % P + 1 ≤ m + 1 ∧ B (N % P + 1) = true) := ⟨fun z => ⟨by omega, z.2⟩, fun z => ⟨by omega, z.2⟩⟩
      by_cases e : N % P + 1 ≤ m ∧ B (N % P + 1) = true
      · rw [if_pos e, if_pos (this.mp e)]
        exact Nat.add_right_comm _ _ _
      · rw [if_neg e, if_neg (fun z => e (this.mpr z))]
        rfl
theorem smk_hit {B : Nat → Bool} {P : Nat} (hP : 0 < P) (hp : ∀ i, B (i % P) = B i) : ∀ N, smk B P N P = hit B N := by
  have h0 : ∀ m, smk B P 0 m = 0 := by
    intro m
    induction m with
    | zero => rfl
    | succ m ih => rw [smk, ih, show gk P 0 (m + 1) = 0 from if_neg (by omega), ite_self]
  have hB : ∀ N, B (N % P + 1) = B (N + 1) := fun N => by rw [← hp (N % P + 1), Nat.mod_add_mod, hp]
  intro N
  induction N with
  | zero => exact h0 P
  | succ N ih =>
    rw [smk_s P (Nat.le_refl _), ih, hB]
    have := Nat.mod_lt N hP
    have c : hit B (N + 1) = hit B N + (if B (N + 1) = true then 1 else 0) := rfl
    rw [c]
    by_cases b : B (N + 1) = true
    · rw [if_pos b, if_pos ⟨by omega, b⟩]
    · rw [if_neg b, if_neg (fun z => b z.2)]
def nightB (dk : zDk) (st : zSt) (aim k : Nat) : Bool := soB dk st.2.1 aim (ngk dk.1 dk.2.2.1 k st.1)
def far15 (v : Int64) : Prop := 0 ≤ v.toInt ∧ v.toInt ≤ 1000000000000000
def F_at (dk : zDk) (st : zSt) (v : Int64) : Int32 := if 0 ≤ v.toInt ∧ v.toInt ≤ 1000000000000000 then nI (ngk dk.1 dk.2.2.1 v.toInt.toNat st.1) else -3
def F_first (dk : zDk) (st : zSt) (x : Int32) : Int32 := if oneOf x 2 then fstL (nightB dk st (tn x)) (ordr dk.1 dk.2.2.1) 0 else -2
def F_often (dk : zDk) (st : zSt) (x : Int32) (v : Int64) : Int64 := if oneOf x 2 then (if 0 ≤ v.toInt ∧ v.toInt ≤ 1000000000000000 then lN (hit (nightB dk st (tn x)) v.toInt.toNat) else -3) else -2
theorem v15 {v : Int64} (q : 0 ≤ v.toInt ∧ v.toInt ≤ 1000000000000000) : ∃ K : Nat, K ≤ 1000000000000000 ∧ v = lN K := ⟨v.toInt.toNat, by omega, Int64.toInt_inj.mp (by rw [pk_lT (by omega)]; omega)⟩
theorem e15 {v : Int64} : (0 : Int64) ≤ v ∧ v ≤ 1000000000000000 ↔ 0 ≤ v.toInt ∧ v.toInt ≤ 1000000000000000 := by
  rw [Int64.le_iff_toInt_le, Int64.le_iff_toInt_le]; exact Iff.rfl

