/-! what the calls do: rows behind swaps and nights, deeds -/
def pow (n s K : Nat) : Nat := rnk n (pwk n s K)
section ZPM
variable {n : Nat}
theorem row_ext {s s' : Nat} (hn : n ≤ 6) (hs : s < fct n) (hs' : s' < fct n) (h : ∀ i, i < n → nm n s i = nm n s' i) : s = s' := by
  rw [← rnk_nm hn hs, ← rnk_nm hn hs']
  exact rnk_congr h
theorem swk_swk {d e k : Nat} : swk d e (swk d e k) = k := by
  unfold swk
  split <;> split <;> try split
  all_goals omega
theorem sw1_row {s d e : Nat} (h0 : 0 < n) (hn : n ≤ 6) (hs : s < fct n) (hd : d < n) (he : e < n) : sw1 n s d e < fct n ∧ ∀ i, i < n → nm n (sw1 n s d e) i = nm n s (swk d e i) :=
  perm_row h0 hn (fun j hj => nm_lt hn hs (swk_lt hd he hj)) (fun i j hi hj q => by
    have := nm_inj hn hs (swk_lt hd he hi) (swk_lt hd he hj) q
    rw [← swk_swk (d := d) (e := e) (k := i), this, swk_swk])
theorem ngt_row {t q : Nat} (h0 : 0 < n) (hn : n ≤ 6) (ht : t < fct n) (hq : q < fct n) : ngt n t q < fct n ∧ ∀ i, i < n → nm n (ngt n t q) (nm n t i) = nm n q i := by
  have key : ∀ j, j < n → ∃ i, i < n ∧ nm n t i = j ∧ ngP n t q j = nm n q i := fun j hj => by
    obtain ⟨i, hi, rfl⟩ := nm_sur hn ht hj
    exact ⟨i, hi, rfl, ngP_at hn ht hi⟩
  have r := perm_row (p := ngP n t q) h0 hn (fun j hj => by
    obtain ⟨i, hi, -, e⟩ := key j hj
    rw [e]
    exact nm_lt hn hq hi) (fun i j hi hj e => by
    obtain ⟨a, ha, a1, a2⟩ := key i hi
    obtain ⟨b, hb, b1, b2⟩ := key j hj
    rw [a2, b2] at e
    rw [← a1, ← b1, nm_inj hn hq ha hb e])
  exact ⟨r.1, fun i hi => by rw [show ngt n t q = rnk n (ngP n t q) from rfl, r.2 _ (nm_lt hn ht hi), ngP_at hn ht hi]⟩
theorem pwk_nbk {s K j : Nat} (hn : n ≤ 6) (hs : s < fct n) (hj : j < n) : pwk n s K j = nbk n s K j := nbk_mod ((rnd_facts hn hs).1 j hj).2.2.1 K
theorem nbk_inj {s : Nat} (hn : n ≤ 6) (hs : s < fct n) : ∀ k i j, i < n → j < n → nbk n s k i = nbk n s k j → i = j := by
  intro k
  induction k with
  | zero => intro i j _ _ h; exact h
  | succ k ih => intro i j hi hj h; exact nm_inj hn hs hi hj (ih _ _ (nm_lt hn hs hi) (nm_lt hn hs hj) h)
theorem pow_row {s K : Nat} (h0 : 0 < n) (hn : n ≤ 6) (hs : s < fct n) : pow n s K < fct n ∧ ∀ i, i < n → nm n (pow n s K) i = nbk n s K i := by
  have e : pow n s K = rnk n (nbk n s K) := rnk_congr (fun j hj => pwk_nbk hn hs hj)
  rw [e]
  exact perm_row h0 hn (fun j hj => nbk_lt hn hs K j hj) (fun i j hi hj q => nbk_inj hn hs K i j hi hj q)
theorem pow_nbk {s K : Nat} (hn : n ≤ 6) (hs : s < fct n) : pow n s K = rnk n (nbk n s K) := rnk_congr (fun j hj => pwk_nbk hn hs hj)
/-- the row behind so many nights -/
def ngk (n t : Nat) : Nat → Nat → Nat
  | 0, q => q
  | k + 1, q => ngk n t k (ngt n t q)
theorem ngk_row {t : Nat} (h0 : 0 < n) (hn : n ≤ 6) (ht : t < fct n) : ∀ k q, q < fct n → ngk n t k q < fct n ∧ ∀ i, i < n → nm n (ngk n t k q) (nbk n t k i) = nm n q i := by
  intro k
  induction k with
  | zero => intro q hq; exact ⟨hq, fun _ _ => rfl⟩
  | succ k ih =>
    intro q hq
    have r := ngt_row h0 hn ht hq
    have z := ih (ngt n t q) r.1
    exact ⟨z.1, fun i hi => (z.2 (nm n t i) (nm_lt hn ht hi)).trans (r.2 i hi)⟩
theorem ng_pow {t q K : Nat} (h0 : 0 < n) (hn : n ≤ 6) (ht : t < fct n) (hq : q < fct n) : ngt n (pow n t K) q = ngk n t K q := by
  have p := pow_row (K := K) h0 hn ht
  have a := ngt_row h0 hn p.1 hq
  have b := ngk_row h0 hn ht K q hq
  refine row_ext hn a.1 b.1 (fun j hj => ?_)
  obtain ⟨i, hi, rfl⟩ := nm_sur hn p.1 hj
  rw [a.2 i hi, p.2 i hi, b.2 i hi]
theorem ngk_s {t : Nat} : ∀ k q, ngk n t (k + 1) q = ngt n t (ngk n t k q) := by
  intro k
  induction k with
  | zero => intro q; rfl
  | succ k ih => intro q; exact ih (ngt n t q)
end ZPM
def pushU (un : List zSt) (sx : zSt) : List zSt := (if un.length = 10 then un.drop 1 else un) ++ [sx]
theorem upM_upM {α : Type} {M : Nat → α} {i : Nat} {a b : α} : upM (upM M i a) i b = upM M i b := by
  funext j
  unfold upM
  split <;> rfl

abbrev zD : Type := Int32 × zSt × List zSt
def okSw (n : Nat) (x y : Int32) : Prop := oneOf x n ∧ oneOf y n ∧ x ≠ y
def swS (dk : zDk) (st : zSt) (d e : Nat) : zSt := (sw1 dk.1 st.1 d e, st.2.1, st.2.2)
def D_swap (dk : zDk) (st : zSt) (un : List zSt) (x y : Int32) : zD := if oneOf x dk.1 ∧ oneOf y dk.1 ∧ x ≠ y then (nI (popc (mskK dk (sw1 dk.1 st.1 (tn x) (tn y)) st.2.1)), swS dk st (tn x) (tn y), pushU un st) else (-11, st, un)
def D_nights (dk : zDk) (st : zSt) (un : List zSt) (x : Int32) : zD := if 1 ≤ x.toInt ∧ x.toInt ≤ 99 then (nI (popc (mskK dk (ngk dk.1 dk.2.2.1 (tn x) st.1) st.2.1)), (ngk dk.1 dk.2.2.1 (tn x) st.1, st.2.1, st.2.2 + x), pushU un st) else (-3, st, un)
def D_clue (st : zSt) (un : List zSt) (x : Int32) : zD := if oneOf x 10 then (nI st.2.1, (st.1, tn x, st.2.2), pushU un st) else (-11, st, un)
def D_undo (st : zSt) (un : List zSt) (x : Int32) : zD := if 1 ≤ x.toInt ∧ x.toInt ≤ 10 ∧ x.toInt ≤ (un.length : Int) then (nI (un.length - tn x), un.getD (un.length - tn x) (0, 0, 0), un.take (un.length - tn x)) else (-3, st, un)
/-- a told deed by its number; none where it can't be -/
def deedN (dk : zDk) (st : zSt) (k : Nat) : Option zSt :=
  if k = 0 then some (ngt dk.1 dk.2.2.1 st.1, st.2.1, st.2.2 + 1)
  else if 10 ≤ k ∧ k ≤ 19 then some (st.1, k - 10, st.2.2)
  else if 100 ≤ k ∧ (k - 100) / 10 < dk.1 ∧ k % 10 < dk.1 ∧ (k - 100) / 10 ≠ k % 10 then some (swS dk st ((k - 100) / 10) (k % 10))
  else none
def deed1 (dk : zDk) (st : zSt) (v : Int64) : Option zSt := if 0 ≤ v.toInt ∧ v.toInt < 200 then deedN dk st v.toInt.toNat else none
theorem deed1_k {dk : zDk} {st : zSt} {k : Nat} (hk : k < 200) : deed1 dk st (lN k) = deedN dk st k := by
  unfold deed1
  rw [lN_toInt (by omega), if_pos (by omega)]
  rfl
theorem deed1_ex {dk : zDk} {st st' : zSt} {v : Int64} (h : deed1 dk st v = some st') : ∃ k, k < 200 ∧ v = lN k ∧ deedN dk st k = some st' := by
  unfold deed1 at h
  split at h
  · next q =>
    refine ⟨v.toInt.toNat, by omega, ?_, h⟩
    apply Int64.toInt_inj.mp
    rw [lN_toInt (by omega)]
    omega
  · cases h
/-- deeds one behind another, till one can't be: how many, and what then is -/
def deedL (dk : zDk) : List Int64 → zSt → Nat × zSt
  | [], st => (0, st)
  | v :: vs, st => match deed1 dk st v with
    | none => (0, st)
    | some st' => ((deedL dk vs st').1 + 1, (deedL dk vs st').2)
theorem deed1_no {dk : zDk} {st : zSt} {v : Int64} (h0 : ¬ v = 0) (h1 : ¬ (10 ≤ v.toInt ∧ v.toInt ≤ 19)) (h2 : ¬ (100 ≤ v.toInt ∧ v.toInt ≤ 199)) : deed1 dk st v = none := by
  have h0 : v.toInt ≠ 0 := fun z => h0 (Int64.toInt_inj.mp z)
  unfold deed1
  split
  · unfold deedN
    rw [if_neg (by omega), if_neg (by omega), if_neg (by omega)]
  · rfl
theorem deedL_s {dk : zDk} {st st' : zSt} {v : Int64} {vs : List Int64} (h : deed1 dk st v = some st') : deedL dk (v :: vs) st = ((deedL dk vs st').1 + 1, (deedL dk vs st').2) := by rw [deedL, h]
theorem deedL_n {dk : zDk} {st : zSt} {v : Int64} {vs : List Int64} (h : deed1 dk st v = none) : deedL dk (v :: vs) st = (0, st) := by rw [deedL, h]
theorem deedL_le {dk : zDk} : ∀ (vs : List Int64) (st : zSt), (deedL dk vs st).1 ≤ vs.length := by
  intro vs
  induction vs with
  | nil => intro st; exact Nat.le_refl _
  | cons v vs ih =>
    intro st
    unfold deedL
    split
    · exact Nat.zero_le _
    · exact Nat.succ_le_succ (ih _)
theorem deedN_ok {dk : zDk} {st st' : zSt} {k : Nat} (h0 : 0 < dk.1) (hn : dk.1 ≤ 6) (hg : dk.2.2.1 < fct dk.1) (h1 : st.1 < fct dk.1) (h2 : st.2.1 < 10) (h : deedN dk st k = some st') : st'.1 < fct dk.1 ∧ st'.2.1 < 10 := by
  unfold deedN at h
  split at h
  · cases h; exact ⟨(ngt_row h0 hn hg h1).1, h2⟩
  · split at h
    · cases h; exact ⟨h1, by simp only; omega⟩
    · split at h
      · next q => cases h; exact ⟨(sw1_row h0 hn h1 q.2.1 q.2.2.1).1, h2⟩
      · cases h
theorem deed1_ok {dk : zDk} {st st' : zSt} {v : Int64} (h0 : 0 < dk.1) (hn : dk.1 ≤ 6) (hg : dk.2.2.1 < fct dk.1) (h1 : st.1 < fct dk.1) (h2 : st.2.1 < 10) (h : deed1 dk st v = some st') : st'.1 < fct dk.1 ∧ st'.2.1 < 10 := by
  obtain ⟨k, -, -, q⟩ := deed1_ex h
  exact deedN_ok h0 hn hg h1 h2 q
theorem deedL_ok {dk : zDk} (h0 : 0 < dk.1) (hn : dk.1 ≤ 6) (hg : dk.2.2.1 < fct dk.1) : ∀ (vs : List Int64) (st : zSt), st.1 < fct dk.1 → st.2.1 < 10 → (deedL dk vs st).2.1 < fct dk.1 ∧ (deedL dk vs st).2.2.1 < 10 := by
  intro vs
  induction vs with
  | nil => intro st h1 h2; exact ⟨h1, h2⟩
  | cons v vs ih =>
    intro st h1 h2
    unfold deedL
    split
    · exact ⟨h1, h2⟩
    · next st' q => exact ih st' (deed1_ok h0 hn hg h1 h2 q).1 (deed1_ok h0 hn hg h1 h2 q).2
def jdgQ (dk : zDk) (st : zSt) (vs : List Int64) (y : Int32) : Int32 := if y = 0 then (if (deedL dk vs st).1 < vs.length then nI (deedL dk vs st).1 else -1) else if y = nI 1 then (if (deedL dk vs st).1 < vs.length then 1 else 0) else if y = nI 2 then nI (deedL dk vs st).2.1 else nI (mskK dk (deedL dk vs st).2.1 (deedL dk vs st).2.2.1)
def F_judge (dk : zDk) (st : zSt) (tr : Nat → zTr) (x y : Int32) : Int32 :=
  if oneOf x 4 ∧ oneOf y 4 then match tr (tn x) with
    | none => -6
    | some q => jdgQ dk st q.2 y
  else -2
def prfQ (dk : zDk) (st : zSt) (un : List zSt) (vs : List Int64) : zD := (nI (deedL dk vs st).1, (deedL dk vs st).2, if (deedL dk vs st).1 = 0 then un else pushU un st)
def D_perform (dk : zDk) (st : zSt) (un : List zSt) (tr : Nat → zTr) (x : Int32) : zD :=
  if oneOf x 4 then match tr (tn x) with
    | none => (-6, st, un)
    | some q => prfQ dk st un q.2
  else (-2, st, un)
/-- a draw -/
def dr1 (x : Int32) : Int32 := 1103515245 * x + nI 12345
theorem dr1_e (x : Int32) : 1103515245 * x + nI 12345 = dr1 x := by unfold dr1; rfl
def drN (x : Int32) : Nat := x.toBitVec.toNat / 65536
/-- what is drawn, and the number behind it -/
def drD (x : Int32) : Nat × Int32 :=
  if drN (dr1 x) % 4 < 2 then (0, dr1 x)
  else if drN (dr1 x) % 4 = 2 then (10 + drN (dr1 (dr1 x)) % 10, dr1 (dr1 x))
  else (100 + 10 * (drN (dr1 (dr1 x)) % 6) + drN (dr1 (dr1 (dr1 x))) % 6, dr1 (dr1 (dr1 x)))
theorem drD_0 {x : Int32} (h : drN (dr1 x) % 4 < 2) : drD x = (0, dr1 x) := if_pos h
theorem drD_2 {x : Int32} (h : drN (dr1 x) % 4 = 2) : drD x = (10 + drN (dr1 (dr1 x)) % 10, dr1 (dr1 x)) := (if_neg (by omega)).trans (if_pos h)
theorem drD_3 {x : Int32} (h : 2 < drN (dr1 x) % 4) : drD x = (100 + 10 * (drN (dr1 (dr1 x)) % 6) + drN (dr1 (dr1 (dr1 x))) % 6, dr1 (dr1 (dr1 x))) := (if_neg (by omega)).trans (if_neg (by omega))
theorem drD_lt {x : Int32} : (drD x).1 < 200 := by
  unfold drD
  split
  · exact Nat.zero_lt_succ _
  · split
    · simp only; omega
    · simp only; omega
/-- a year's draws: how many deeds were done, what then is -/
def yrL (dk : zDk) : Nat → Int32 → zSt → Nat × zSt
  | 0, _, st => (0, st)
  | k + 1, x, st => match deedN dk st (drD x).1 with
    | none => yrL dk k (drD x).2 st
    | some st' => ((yrL dk k (drD x).2 st').1 + 1, (yrL dk k (drD x).2 st').2)
theorem yrL_ok {dk : zDk} (h0 : 0 < dk.1) (hn : dk.1 ≤ 6) (hg : dk.2.2.1 < fct dk.1) : ∀ (k : Nat) (x : Int32) (st : zSt), st.1 < fct dk.1 → st.2.1 < 10 → (yrL dk k x st).1 ≤ k ∧ (yrL dk k x st).2.1 < fct dk.1 ∧ (yrL dk k x st).2.2.1 < 10 := by
  intro k
  induction k with
  | zero => intro x st h1 h2; exact ⟨Nat.le_refl _, h1, h2⟩
  | succ k ih =>
    intro x st h1 h2
    unfold yrL
    split
    · have := ih (drD x).2 st h1 h2
      exact ⟨by omega, this.2⟩
    · next st' q =>
      have o := deedN_ok h0 hn hg h1 h2 q
      have := ih (drD x).2 st' o.1 o.2
      exact ⟨by simp only; omega, this.2⟩
def D_year (dk : zDk) (st : zSt) (un : List zSt) (x y : Int32) : zD :=
  if 1 ≤ y.toInt ∧ y.toInt ≤ 40 then (nI (yrL dk (tn y) x st).1, (yrL dk (tn y) x st).2, if (yrL dk (tn y) x st).1 = 0 then un else pushU un st) else (-3, st, un)
theorem oneOf_ex {x : Int32} {n : Nat} (h : oneOf x n) : ∃ k, k < n ∧ x = nI k := ⟨tn x, (oneOf_n h).1, (oneOf_n h).2⟩
theorem rng_ex {x : Int32} {a b : Nat} (h : (a : Int) ≤ x.toInt ∧ x.toInt ≤ (b : Int)) (hb : b < 2 ^ 31) : ∃ k, a ≤ k ∧ k ≤ b ∧ x = nI k := by
  obtain ⟨k, hk, rfl⟩ := oneOf_ex (x := x) (n := b + 1) ⟨by omega, by omega⟩
  rw [nI_toInt (by omega)] at h
  exact ⟨k, by omega, by omega, rfl⟩

