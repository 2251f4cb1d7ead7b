/-! the model's desk -/
def dst : List Nat → Bool
  | [] => true
  | a :: l => l.all (fun b => !decide (a = b)) && dst l
def wB (l : List Nat) (m : Nat) : Bool := !decide (l.foldl (fun x a => x ||| 2 ^ a) 0 = m) || dst l
theorem wB1 : ∀ a, a < 1 → wB [a] 1 = true := by decide +kernel
theorem wB2 : ∀ a, a < 2 → ∀ b, b < 2 → wB [a, b] 3 = true := by decide +kernel
theorem wB3 : ∀ a, a < 3 → ∀ b, b < 3 → ∀ c, c < 3 → wB [a, b, c] 7 = true := by decide +kernel
theorem wB4 : ∀ a, a < 4 → ∀ b, b < 4 → ∀ c, c < 4 → ∀ d, d < 4 → wB [a, b, c, d] 15 = true := by decide +kernel
theorem wB5 : ∀ a, a < 5 → ∀ b, b < 5 → ∀ c, c < 5 → ∀ d, d < 5 → ∀ e, e < 5 → wB [a, b, c, d, e] 31 = true := by decide +kernel
theorem wB6 : ∀ a, a < 6 → ∀ b, b < 6 → ∀ c, c < 6 → ∀ d, d < 6 → ∀ e, e < 6 → ∀ f, f < 6 → wB [a, b, c, d, e, f] 63 = true := by decide +kernel
theorem bts_c {f f' : Nat → Nat} : ∀ n, (∀ i, i < n → f i = f' i) → bts f n = bts f' n := by
  intro n
  induction n with
  | zero => intro _; rfl
  | succ n ih => intro h; rw [bts, bts, ih (fun i hi => h i (by omega)), h n (by omega)]
theorem wI1 {p : Nat → Nat} (hp : ∀ j, j < 1 → p j < 1) (hw : whl 1 p) : ∀ i j, i < 1 → j < 1 → p i = p j → i = j := by
  have k := wB1 _ (hp 0 (by decide))
  have hX : ([p 0] : List Nat).foldl (fun x a => x ||| 2 ^ a) 0 = 1 := hw
  unfold wB at k
  rw [show decide (([p 0] : List Nat).foldl (fun x a => x ||| 2 ^ a) 0 = 1) = true from decide_eq_true hX, Bool.not_true, Bool.false_or] at k
  simp only [dst, List.all_cons, List.all_nil, Bool.and_true, Bool.and_eq_true, Bool.not_eq_true', decide_eq_false_iff_not] at k
  intro i j hi hj e
  omega
theorem wI2 {p : Nat → Nat} (hp : ∀ j, j < 2 → p j < 2) (hw : whl 2 p) : ∀ i j, i < 2 → j < 2 → p i = p j → i = j := by
  have k := wB2 _ (hp 0 (by decide)) _ (hp 1 (by decide))
  have hX : ([p 0, p 1] : List Nat).foldl (fun x a => x ||| 2 ^ a) 0 = 3 := hw
  unfold wB at k
  rw [show decide (([p 0, p 1] : List Nat).foldl (fun x a => x ||| 2 ^ a) 0 = 3) = true from decide_eq_true hX, Bool.not_true, Bool.false_or] at k
  simp only [dst, List.all_cons, List.all_nil, Bool.and_true, Bool.and_eq_true, Bool.not_eq_true', decide_eq_false_iff_not] at k
  intro i j hi hj e
  have ci : i = 0 ∨ i = 1 := by omega
  have cj : j = 0 ∨ j = 1 := by omega
  rcases ci with rfl | rfl <;> rcases cj with rfl | rfl <;> first | rfl | (exfalso; omega)
theorem wI3 {p : Nat → Nat} (hp : ∀ j, j < 3 → p j < 3) (hw : whl 3 p) : ∀ i j, i < 3 → j < 3 → p i = p j → i = j := by
  have k := wB3 _ (hp 0 (by decide)) _ (hp 1 (by decide)) _ (hp 2 (by decide))
  have hX : ([p 0, p 1, p 2] : List Nat).foldl (fun x a => x ||| 2 ^ a) 0 = 7 := hw
  unfold wB at k
  rw [show decide (([p 0, p 1, p 2] : List Nat).foldl (fun x a => x ||| 2 ^ a) 0 = 7) = true from decide_eq_true hX, Bool.not_true, Bool.false_or] at k
  simp only [dst, List.all_cons, List.all_nil, Bool.and_true, Bool.and_eq_true, Bool.not_eq_true', decide_eq_false_iff_not] at k
  intro i j hi hj e
  have ci : i = 0 ∨ i = 1 ∨ i = 2 := by omega
  have cj : j = 0 ∨ j = 1 ∨ j = 2 := by omega
  rcases ci with rfl | rfl | rfl <;> rcases cj with rfl | rfl | rfl <;> first | rfl | (exfalso; omega)
theorem wI4 {p : Nat → Nat} (hp : ∀ j, j < 4 → p j < 4) (hw : whl 4 p) : ∀ i j, i < 4 → j < 4 → p i = p j → i = j := by
  have k := wB4 _ (hp 0 (by decide)) _ (hp 1 (by decide)) _ (hp 2 (by decide)) _ (hp 3 (by decide))
  have hX : ([p 0, p 1, p 2, p 3] : List Nat).foldl (fun x a => x ||| 2 ^ a) 0 = 15 := hw
  unfold wB at k
  rw [show decide (([p 0, p 1, p 2, p 3] : List Nat).foldl (fun x a => x ||| 2 ^ a) 0 = 15) = true from decide_eq_true hX, Bool.not_true, Bool.false_or] at k
  simp only [dst, List.all_cons, List.all_nil, Bool.and_true, Bool.and_eq_true, Bool.not_eq_true', decide_eq_false_iff_not] at k
  intro i j hi hj e
  have ci : i = 0 ∨ i = 1 ∨ i = 2 ∨ i = 3 := by omega
  have cj : j = 0 ∨ j = 1 ∨ j = 2 ∨ j = 3 := by omega
  rcases ci with rfl | rfl | rfl | rfl <;> rcases cj with rfl | rfl | rfl | rfl <;> first | rfl | (exfalso; omega)
theorem wI5 {p : Nat → Nat} (hp : ∀ j, j < 5 → p j < 5) (hw : whl 5 p) : ∀ i j, i < 5 → j < 5 → p i = p j → i = j := by
  have k := wB5 _ (hp 0 (by decide)) _ (hp 1 (by decide)) _ (hp 2 (by decide)) _ (hp 3 (by decide)) _ (hp 4 (by decide))
  have hX : ([p 0, p 1, p 2, p 3, p 4] : List Nat).foldl (fun x a => x ||| 2 ^ a) 0 = 31 := hw
  unfold wB at k
  rw [show decide (([p 0, p 1, p 2, p 3, p 4] : List Nat).foldl (fun x a => x ||| 2 ^ a) 0 = 31) = true from decide_eq_true hX, Bool.not_true, Bool.false_or] at k
  simp only [dst, List.all_cons, List.all_nil, Bool.and_true, Bool.and_eq_true, Bool.not_eq_true', decide_eq_false_iff_not] at k
  intro i j hi hj e
  have ci : i = 0 ∨ i = 1 ∨ i = 2 ∨ i = 3 ∨ i = 4 := by omega
  have cj : j = 0 ∨ j = 1 ∨ j = 2 ∨ j = 3 ∨ j = 4 := by omega
  rcases ci with rfl | rfl | rfl | rfl | rfl <;> rcases cj with rfl | rfl | rfl | rfl | rfl <;> first | rfl | (exfalso; omega)
theorem wI6 {p : Nat → Nat} (hp : ∀ j, j < 6 → p j < 6) (hw : whl 6 p) : ∀ i j, i < 6 → j < 6 → p i = p j → i = j := by
  have k := wB6 _ (hp 0 (by decide)) _ (hp 1 (by decide)) _ (hp 2 (by decide)) _ (hp 3 (by decide)) _ (hp 4 (by decide)) _ (hp 5 (by decide))
  have hX : ([p 0, p 1, p 2, p 3, p 4, p 5] : List Nat).foldl (fun x a => x ||| 2 ^ a) 0 = 63 := hw
  unfold wB at k
  rw [show decide (([p 0, p 1, p 2, p 3, p 4, p 5] : List Nat).foldl (fun x a => x ||| 2 ^ a) 0 = 63) = true from decide_eq_true hX, Bool.not_true, Bool.false_or] at k
  simp only [dst, List.all_cons, List.all_nil, Bool.and_true, Bool.and_eq_true, Bool.not_eq_true', decide_eq_false_iff_not] at k
  intro i j hi hj e
  have ci : i = 0 ∨ i = 1 ∨ i = 2 ∨ i = 3 ∨ i = 4 ∨ i = 5 := by omega
  have cj : j = 0 ∨ j = 1 ∨ j = 2 ∨ j = 3 ∨ j = 4 ∨ j = 5 := by omega
  rcases ci with rfl | rfl | rfl | rfl | rfl | rfl <;> rcases cj with rfl | rfl | rfl | rfl | rfl | rfl <;> first | rfl | (exfalso; omega)
theorem whl_inj {n : Nat} {p : Nat → Nat} (h0 : 0 < n) (hn : n ≤ 6) (hp : ∀ j, j < n → p j < n) (hw : whl n p) : ∀ i j, i < n → j < n → p i = p j → i = j := by
  have hh : n = 1 ∨ n = 2 ∨ n = 3 ∨ n = 4 ∨ n = 5 ∨ n = 6 := by omega
  rcases hh with rfl | rfl | rfl | rfl | rfl | rfl
  · exact wI1 hp hw
  · exact wI2 hp hw
  · exact wI3 hp hw
  · exact wI4 hp hw
  · exact wI5 hp hw
  · exact wI6 hp hw
theorem whl_row {n : Nat} {p : Nat → Nat} (h0 : 0 < n) (hn : n ≤ 6) (hp : ∀ j, j < n → p j < n) (hw : whl n p) : rnk n p < fct n ∧ ∀ d, d < n → nm n (rnk n p) d = p d := perm_row h0 hn hp (whl_inj h0 hn hp hw)
def zTx (tp : List Nat) (k : Nat) : zX := (fun i => tp.getD i 0, k)
abbrev inR (tp : List Nat) (x : Int32) : Prop := 0 ≤ x.toInt ∧ x.toInt ≤ (tp.length : Int)
def A_desk (tp : List Nat) (x : Int32) : Int32 := if inR tp x then (match fDk (zTx tp (tn x)) with
  | .inl e => (-30) - nI e.1
  | .inr q => nI q.1) else -3
def S_desk (dk : zDk) (st : zSt) (un : List zSt) (tp : List Nat) (fl : Nat × Nat) (x : Int32) : zDk × zSt × List zSt × List Nat × (Nat × Nat) := if inR tp x then (match fDk (zTx tp (tn x)) with
  | .inl e => (dk, st, un, [], e)
  | .inr q => ((q.2.1, q.2.2.1, rnk q.2.1 q.2.2.2.2.1, q.1, q.2.2.2.2.2.2.1, q.2.2.2.2.2.2.2), (rnk q.2.1 q.2.2.2.1, q.2.2.2.2.2.1, 0), [], [], (0, 0))) else (dk, st, un, tp, fl)
section ZDs
variable {X : zX} {p n : Nat}
theorem fNd_o {k lo hi : Nat} {q : Nat × Nat} (hk : k ≠ 24) (hp : p ≤ X.2) (h : fNd X k lo hi p = .inr q) : q.1 ≤ X.2 ∧ tkA X p + 2 ≤ tkA X q.1 ∧ lo ≤ q.2 ∧ q.2 ≤ hi ∧ tkK X p = k := by
  unfold fNd at h
  split at h
  · next z =>
    have b := tkA_B hp (by omega)
    have o := fNm_o b.2 h
    exact ⟨o.2.1, by omega, o.2.2.2.1, o.2.2.2.2.1, z⟩
  · cases h
theorem fNd_e {k lo hi : Nat} {e : Nat × Nat} (hk : k ≠ 24) (hp : p ≤ X.2) (h : fNd X k lo hi p = .inl e) : 0 < e.1 ∧ e.1 < 5 ∧ e.2 ≤ X.2 := by
  unfold fNd at h
  split at h
  · next z =>
    have b := tkA_B hp (by omega)
    exact fNm_e b.2 h
  · obtain rfl := Sum.inl.inj h
    exact ⟨erK_r.1, erK_r.2, tkA_le hp⟩
theorem fDr_e {e : Nat × Nat} (hp : p ≤ X.2) (hK : tkK X p ≠ 24) (h : fDr X n p = .inl e) : 0 < e.1 ∧ e.1 < 5 ∧ e.2 ≤ X.2 := by
  unfold fDr at h
  have b := tkA_B hp hK
  cases e1 : fNm X 0 (n - 1) (tkB X p) with
  | inl e => rw [e1] at h; obtain rfl := Sum.inl.inj h; exact fNm_e b.2 e1
  | inr q1 =>
    rw [e1] at h
    simp only at h
    have o1 := fNm_o b.2 e1
    cases e2 : fNm X 0 (n - 1) q1.1 with
    | inl e => rw [e2] at h; obtain rfl := Sum.inl.inj h; exact fNm_e o1.2.1 e2
    | inr q2 => rw [e2] at h; cases h
theorem fLn_e {D : zDd} {e : Nat × Nat} (hp : p ≤ X.2) (hK : tkK X p ≠ 24) (h : fLn X D p = .inl e) : 0 < e.1 ∧ e.1 < 5 ∧ e.2 ≤ X.2 := by
  unfold fLn at h
  have b := tkA_B hp hK
  split at h
  · cases e1 : fDr X D.1 p with
    | inl e => rw [e1] at h; obtain rfl := Sum.inl.inj h; exact fDr_e hp hK e1
    | inr q1 => rw [e1] at h; cases h
  · split at h
    · cases e1 : fDr X D.1 p with
      | inl e => rw [e1] at h; obtain rfl := Sum.inl.inj h; exact fDr_e hp hK e1
      | inr q1 => rw [e1] at h; cases h
    · split at h
      · cases e1 : fNm X 0 9 (tkB X p) with
        | inl e => rw [e1] at h; obtain rfl := Sum.inl.inj h; exact fNm_e b.2 e1
        | inr q1 => rw [e1] at h; cases h
      · split at h
        · have g1 := Gl.lw (b := false) hp hK
          cases e1 : fLw X false p with
          | inl e => rw [e1] at h g1; obtain rfl := Sum.inl.inj h; exact g1
          | inr q1 => rw [e1] at h; cases h
        · split at h
          · have g1 := Gl.lw (b := true) hp hK
            cases e1 : fLw X true p with
            | inl e => rw [e1] at h g1; obtain rfl := Sum.inl.inj h; exact g1
            | inr q1 => rw [e1] at h; cases h
          · obtain rfl := Sum.inl.inj h
            exact ⟨erK_r.1, erK_r.2, tkA_le hp⟩
theorem fLns_o (hX : X.2 ≤ 900) : ∀ (k : Nat) (D : zDd) (li p : Nat), p ≤ X.2 → zDok D → li ≤ tkA X p → match fLns X k D li p with
    | .inl e => 0 < e.1 ∧ e.1 < 5 ∧ e.2 ≤ X.2
    | .inr q => q.1 ≤ X.2 ∧ zDok q.2.2 ∧ q.2.1 ≤ X.2 := by
  intro k
  induction k with
  | zero => intro D li p hp hD hl; exact ⟨hp, hD, by have := tkA_le hp; simp only; omega⟩
  | succ k ih =>
    intro D li p hp hD hl
    rw [fLns]
    by_cases z : tkK X p = 24
    · rw [if_pos z]; exact ⟨hp, hD, by have := tkA_le hp; simp only; omega⟩
    · rw [if_neg z]
      cases e1 : fLn X D p with
      | inl e => exact fLn_e hp z e1
      | inr q =>
        have o := fLn_o hX hp z hD e1
        simp only
        by_cases y : tkK X q.1 = 30
        · rw [if_pos y]
          have b := tkA_B o.1 (by omega)
          exact ih _ _ _ b.2 o.2.2 (by omega)
        · rw [if_neg y]
          exact ⟨erK_r.1, erK_r.2, tkA_le o.1⟩
theorem fHd_o : match fHd X with
    | .inl e => 0 < e.1 ∧ e.1 < 5 ∧ e.2 ≤ X.2
    | .inr q => q.1 ≤ X.2 ∧ zDok q.2 ∧ 1 ≤ tkA X q.1 := by
  have h0 : 0 ≤ X.2 := Nat.zero_le _
  unfold fHd
  by_cases z : tkK X 0 = 0
  · rw [if_pos z]
    have b := tkA_B h0 (by omega)
    cases e1 : fNd X 1 1 6 (tkB X 0) with
    | inl e => exact fNd_e (by decide) b.2 e1
    | inr q =>
      have o := fNd_o (by decide) b.2 e1
      simp only
      cases e2 : fNd X 2 1 9 q.1 with
      | inl e => exact fNd_e (by decide) o.1 e2
      | inr q2 =>
        have o2 := fNd_o (by decide) o.1 e2
        simp only
        by_cases y : tkK X q2.1 = 30
        · rw [if_pos y]
          have b2 := tkA_B o2.1 (by omega)
          exact ⟨b2.2, ⟨by simp only; omega, by simp only; omega, by simp only; omega, by simp only; omega, fun i hi => hi, fun i hi => hi, Nat.succ_pos 9, trivial, trivial⟩, by simp only; omega⟩
        · rw [if_neg y]
          exact ⟨erK_r.1, erK_r.2, tkA_le o2.1⟩
  · rw [if_neg z]
    exact ⟨erK_r.1, erK_r.2, tkA_le h0⟩
theorem fDk_o (hX : X.2 ≤ 900) : match fDk X with
    | .inl e => 0 < e.1 ∧ e.1 < 5 ∧ e.2 ≤ X.2
    | .inr q => zDok q.2 ∧ q.1 ≤ X.2 ∧ whl q.2.1 q.2.2.2.1 ∧ whl q.2.1 q.2.2.2.2.1 := by
  have a := fHd_o (X := X)
  unfold fDk
  cases e1 : fHd X with
  | inl e => rw [e1] at a; exact a
  | inr q =>
    rw [e1] at a
    have b := fLns_o hX 901 q.2 1 q.1 a.1 a.2.1 a.2.2
    simp only
    cases e2 : fLns X 901 q.2 1 q.1 with
    | inl e => rw [e2] at b; exact b
    | inr q2 =>
      rw [e2] at b
      simp only
      by_cases z : whl q2.2.2.1 q2.2.2.2.2.1 ∧ whl q2.2.2.1 q2.2.2.2.2.2.1
      · rw [if_pos z]; exact ⟨b.2.1, b.2.2, z.1, z.2⟩
      · rw [if_neg z]; exact ⟨Nat.succ_pos 2, Nat.le_of_ble_eq_true rfl, tkA_le b.1⟩
end ZDs
section ZDt
variable {g : zG} {d : Nat} {h0 h h' : zH} {s s' s2 : Nat → Value} {M M' M2 : Nat → Nat → Int32} {L : Nat → Nat → Int64} {dk : zDk} {st : zSt} {un : List zSt} {tp tp' : List Nat} {tr : Nat → zTr} {pi : Nat → zPi} {fl fl' : Nat × Nat}
/-- of the reading, only fresh and its fields have changed -/
theorem MJ.par (J : MJ s M L dk st un tp tr pi fl) (hs : ∀ k, k ≠ 0 → k ≠ 5 → k ≠ 6 → k ≠ 7 → k ≠ 8 → k ≠ 9 → k ≠ 10 → k ≠ 11 → k ≠ 12 → k ≠ 13 → k ≠ 14 → s' k = s k) (hM : ∀ i, i ≠ 63 → M' i = M i) (hT : MTp s' M' tp') (hF : MFl s' fl') : MJ s' M' L dk st un tp' tr pi fl' := by
  obtain ⟨a1, a2, a3, -, a5, a6, -⟩ := J
  refine ⟨?_, ?_, ?_, hT, ?_, ?_, hF⟩
  · unfold MDk at a1 ⊢
    rw [hM 60 (by decide), hM 64 (by decide), hs 17 (by decide) (by decide) (by decide) (by decide) (by decide) (by decide) (by decide) (by decide) (by decide) (by decide) (by decide)]
    exact a1
  · rw [hM 60 (by decide)]; exact a2
  · rw [hM 60 (by decide)]; exact a3
  · unfold MTr; rw [hM 80 (by decide), hM 81 (by decide)]; exact a5
  · unfold MPi; rw [hM 60 (by decide), hM 61 (by decide)]; exact a6
theorem MLb.law {F al : Nat → Int32} {lw base : Nat} {b : Bool} {c : Option (List Nat)} (hl : lw < 2) (hb : base ≤ 900) (a : MLb F lw base c) (k : LwK b c) (hF : ∀ k, k < 956 → k ≠ 21 → al k = F k) : MLaw al lw b c := by
  cases c with
  | none => show al (3 + lw) = nI 0; rw [hF _ (by omega) (by omega)]; exact a
  | some cs =>
    obtain ⟨a1, fr, a2, a3, a4, a5⟩ := a
    have db := dft_b (cs := cs)
    refine ⟨by rw [hF _ (by omega) (by omega)]; exact a1, fr, by omega, by rw [hF _ (by omega) (by omega)]; exact a3, by rw [hF _ (by omega) (by omega)]; exact a4, fun j c hj => ?_, okc_lt k.1, k.1, hok_of cs [] b (0, 0) k.1 rfl (by have := db.2.2.2; have := k.2; unfold dft at this db; omega)⟩
    have := (List.getElem?_eq_some_iff.mp hj).1
    rw [hF _ (by omega) (by omega)]
    exact a5 j c hj
/-- a new desk lies in the model -/
theorem MJ.desk {D : zDd} {li base : Nat} {F al : Nat → Int32} (J : MJ s M L dk st un tp tr pi fl) (hs : ∀ k, k ≠ 0 → k ≠ 5 → k ≠ 6 → k ≠ 7 → k ≠ 8 → k ≠ 9 → k ≠ 10 → k ≠ 11 → k ≠ 12 → k ≠ 13 → k ≠ 14 → k ≠ 17 → s' k = s k) (hM : ∀ i, i ≠ 63 → i ≠ 60 → i ≠ 64 → i ≠ 65 → M' i = M i) (hT : MTp s' M' []) (hF : MFl s' (0, 0)) (h17 : s' 17 = .int (nI (fct D.1))) (hb : MTb M' D.1) (h60 : M' 60 = al) (hD : zDok D) (hli : li < 2 ^ 31) (w1 : whl D.1 D.2.2.1) (w2 : whl D.1 D.2.2.2.1) (G : FD F D li base) (hbase : base ≤ 900) (hal : ∀ k, k < 956 → k ≠ 21 → al k = F k) (h21 : al 21 = nI (rnk D.1 D.2.2.1)) (hal2 : ∀ k, 956 ≤ k → al k = M 60 k) : MJ s' M' L (D.1, D.2.1, rnk D.1 D.2.2.2.1, li, D.2.2.2.2.2.1, D.2.2.2.2.2.2) (rnk D.1 D.2.2.1, D.2.2.2.2.1, 0) [] [] tr pi (0, 0) := by
  obtain ⟨a1, a2, a3, -, a5, a6, -⟩ := J
  obtain ⟨d1, d2, d3, d4, d5, d6, d7, d8, d9⟩ := id hD
  obtain ⟨f0, f1, f2, f3, f4, f5, f6, f7, f8, f9, f10⟩ := G
  have r1 := whl_row d1 d2 d5 w1
  have r2 := whl_row d1 d2 d6 w2
  refine ⟨MDk.of ⟨⟨d1, d2, d3, d4, r2.1, hli⟩, ?_, ?_, ?_, ?_, ?_, fun i hi => ?_⟩ hb h17, ⟨?_, ?_, ?_, r1.1, d7⟩, ⟨?_, Nat.zero_le _, fun i hi => absurd hi (Nat.not_lt_zero _)⟩, hT, ?_, ?_, hF⟩
  · rw [h60, hal _ (by decide) (by decide)]; exact f0
  · rw [h60, hal _ (by decide) (by decide)]; exact f1
  · rw [h60, hal _ (by decide) (by decide)]; exact f2
  · rw [h60]; exact f3.law (by decide) hbase d8 hal
  · rw [h60]; exact f4.law (by decide) hbase d9 hal
  · simp only at hi
    rw [h60, hal _ (by omega) (by omega), f6 i (by omega)]
    exact congrArg nI (r2.2 i hi).symm
  · rw [h60]; exact h21
  · rw [h60, hal _ (by decide) (by decide)]; exact f7
  · rw [h60, hal _ (by decide) (by decide)]; exact f9
  · rw [h60, hal _ (by decide) (by decide)]; exact f10
  · unfold MTr; rw [hM 80 (by decide) (by decide) (by decide) (by decide), hM 81 (by decide) (by decide) (by decide) (by decide)]; exact a5
  · unfold MPi
    rw [h60, hM 61 (by decide) (by decide) (by decide) (by decide)]
    intro t ht
    have := a6 t ht
    cases hp : pi t with
    | none => rw [hp] at this; exact this
    | some q =>
      rw [hp] at this
      have e : (fun k => al (956 * (t + 1) + k)) = (fun k => M 60 (956 * (t + 1) + k)) := funext (fun k => hal2 _ (by omega))
      simp only
      rw [e]
      exact this
end ZDt

