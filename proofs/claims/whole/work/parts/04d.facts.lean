/-! facts about rows of at most six names, by counting them out; frames -/
def rowOk (n s : Nat) : Bool := (nmL n s).length == n && decide ((nmL n s).Nodup) && (nmL n s).all (fun x => x < n) && (List.range n).all (fun j => (nmL n s).contains j) && rnk n (fun d => (nmL n s).getD d 0) == s
theorem rowOk_all : ∀ n, n < 7 → ∀ s, s < fct n → rowOk n s = true := by decide +kernel
theorem nm_len {n s : Nat} : (nmL n s).length = n := by
  have : ∀ k u r, (fillL n k u r).length = k := by
    intro k
    induction k with
    | zero => intro u r; rfl
    | succ k ih => intro u r; simp [fillL, ih]
  exact this n 0 s
section ZD
variable {n s : Nat}
theorem row_facts (hn : n ≤ 6) (hs : s < fct n) : (nmL n s).Nodup ∧ (∀ x ∈ nmL n s, x < n) ∧ (∀ j, j < n → j ∈ nmL n s) ∧ rnk n (nm n s) = s := by
  have h := rowOk_all n (by omega) s hs
  unfold rowOk at h
  simp only [Bool.and_eq_true, decide_eq_true_eq, beq_iff_eq, List.all_eq_true, List.mem_range, List.contains_iff_mem] at h
  exact ⟨h.1.1.1.2, h.1.1.2, h.1.2, h.2⟩
theorem nm_get {d : Nat} (hd : d < n) : (nmL n s)[d]? = some (nm n s d) := by
  unfold nm
  rw [List.getD_eq_getElem?_getD]
  have hl : d < (nmL n s).length := by rw [nm_len]; exact hd
  simp [List.getElem?_eq_getElem hl]
theorem nm_lt {d : Nat} (hn : n ≤ 6) (hs : s < fct n) (hd : d < n) : nm n s d < n := (row_facts hn hs).2.1 _ (List.mem_of_getElem? (nm_get hd))
theorem nm_inj {d e : Nat} (hn : n ≤ 6) (hs : s < fct n) (hd : d < n) (he : e < n) (h : nm n s d = nm n s e) : d = e := by
  have h1 := nm_get (s := s) hd
  have h2 := nm_get (s := s) he
  rw [← h] at h2
  have hl : d < (nmL n s).length := by rw [nm_len]; exact hd
  exact (List.getElem?_inj hl (row_facts hn hs).1).mp (h1.trans h2.symm)
theorem nm_sur {j : Nat} (hn : n ≤ 6) (hs : s < fct n) (hj : j < n) : ∃ d, d < n ∧ nm n s d = j := by
  obtain ⟨d, hd⟩ := List.getElem?_of_mem ((row_facts hn hs).2.2.1 j hj)
  have hl := (List.getElem?_eq_some_iff.mp hd).1
  rw [nm_len] at hl
  rw [nm_get hl] at hd
  exact ⟨d, hl, Option.some.inj hd⟩
theorem rnk_nm (hn : n ≤ 6) (hs : s < fct n) : rnk n (nm n s) = s := (row_facts hn hs).2.2.2
end ZD
theorem less_congr {p q : Nat → Nat} {d n : Nat} (hd : d < n) (h : ∀ j, j < n → p j = q j) : ∀ k e, e + k ≤ n → less p d k e = less q d k e := by
  intro k
  induction k with
  | zero => intro e _; rfl
  | succ k ih =>
    intro e he
    unfold less
    rw [h e (by omega), h d hd, ih (e + 1) (by omega)]
theorem rnk_congr {n : Nat} {p q : Nat → Nat} (h : ∀ j, j < n → p j = q j) : rnk n p = rnk n q := by
  have : ∀ k d a, d + k ≤ n → rnkL n p k d a = rnkL n q k d a := by
    intro k
    induction k with
    | zero => intro d a _; rfl
    | succ k ih =>
      intro d a hd
      unfold rnkL
      rw [less_congr (n := n) (by omega) h _ _ (by omega), ih _ _ (by omega)]
  exact this n 0 0 (by omega)
def permOk (n : Nat) (l : List Nat) : Bool := !decide (l.Nodup) || (nmL n (rnk n (fun i => l.getD i 0)) == l && decide (rnk n (fun i => l.getD i 0) < fct n))
theorem perm1 : ∀ a, a < 1 → permOk 1 [a] = true := by decide +kernel
theorem perm2 : ∀ a, a < 2 → ∀ b, b < 2 → permOk 2 [a, b] = true := by decide +kernel
theorem perm3 : ∀ a, a < 3 → ∀ b, b < 3 → ∀ c, c < 3 → permOk 3 [a, b, c] = true := by decide +kernel
theorem perm4 : ∀ a, a < 4 → ∀ b, b < 4 → ∀ c, c < 4 → ∀ d, d < 4 → permOk 4 [a, b, c, d] = true := by decide +kernel
theorem perm5 : ∀ a, a < 5 → ∀ b, b < 5 → ∀ c, c < 5 → ∀ d, d < 5 → ∀ e, e < 5 → permOk 5 [a, b, c, d, e] = true := by decide +kernel
theorem perm6 : ∀ a, a < 6 → ∀ b, b < 6 → ∀ c, c < 6 → ∀ d, d < 6 → ∀ e, e < 6 → ∀ f, f < 6 → permOk 6 [a, b, c, d, e, f] = true := by decide +kernel
/-- a row of names that are apart is the row of its number -/
theorem perm_row {n : Nat} {p : Nat → Nat} (h0 : 0 < n) (hn : n ≤ 6) (hp : ∀ j, j < n → p j < n) (hi : ∀ i j, i < n → j < n → p i = p j → i = j) : rnk n p < fct n ∧ ∀ d, d < n → nm n (rnk n p) d = p d := by
  have key : permOk n ((List.range n).map p) = true := by
    have hh : n = 1 ∨ n = 2 ∨ n = 3 ∨ n = 4 ∨ n = 5 ∨ n = 6 := by omega
    rcases hh with rfl | rfl | rfl | rfl | rfl | rfl
    · exact perm1 _ (hp 0 (by omega))
    · exact perm2 _ (hp 0 (by omega)) _ (hp 1 (by omega))
    · exact perm3 _ (hp 0 (by omega)) _ (hp 1 (by omega)) _ (hp 2 (by omega))
    · exact perm4 _ (hp 0 (by omega)) _ (hp 1 (by omega)) _ (hp 2 (by omega)) _ (hp 3 (by omega))
    · exact perm5 _ (hp 0 (by omega)) _ (hp 1 (by omega)) _ (hp 2 (by omega)) _ (hp 3 (by omega)) _ (hp 4 (by omega))
    · exact perm6 _ (hp 0 (by omega)) _ (hp 1 (by omega)) _ (hp 2 (by omega)) _ (hp 3 (by omega)) _ (hp 4 (by omega)) _ (hp 5 (by omega))
  have hnd : ((List.range n).map p).Nodup := by
    rw [List.nodup_iff_pairwise_ne, List.pairwise_map]
    refine List.Pairwise.imp_of_mem ?_ (List.nodup_iff_pairwise_ne.mp List.nodup_range)
    intro a b ha hb hab q
    exact hab (hi a b (List.mem_range.mp ha) (List.mem_range.mp hb) q)
  have hg : ∀ j, j < n → ((List.range n).map p).getD j 0 = p j := by
    intro j hj
    rw [List.getD_eq_getElem?_getD, List.getElem?_map, List.getElem?_range hj]
    rfl
  have er : rnk n (fun i => ((List.range n).map p).getD i 0) = rnk n p := rnk_congr hg
  unfold permOk at key
  rw [er] at key
  simp only [hnd, decide_true, Bool.not_true, Bool.false_or, Bool.and_eq_true, beq_iff_eq, decide_eq_true_eq] at key
  refine ⟨key.2, fun d hd => ?_⟩
  unfold nm
  rw [key.1]
  exact hg d hd
/-- what a stretch may have changed -/
def Fr (ids : List Nat) (h h' : zH) : Prop := h.length ≤ h'.length ∧ ∀ i, i < h.length → i ∉ ids → h'[i]? = h[i]?
theorem Fr.rf {ids : List Nat} {h : zH} : Fr ids h h := ⟨Nat.le_refl _, fun _ _ _ => rfl⟩
theorem Fr.tr {ids : List Nat} {h h' h'' : zH} (a : Fr ids h h') (b : Fr ids h' h'') : Fr ids h h'' := ⟨Nat.le_trans a.1 b.1, fun i hi hn => (b.2 i (Nat.lt_of_lt_of_le hi a.1) hn).trans (a.2 i hi hn)⟩
theorem Fr.mono {ids ids' : List Nat} {h h' : zH} (a : Fr ids h h') (hs : ∀ i ∈ ids, i ∈ ids') : Fr ids' h h' := ⟨a.1, fun i hi hn => a.2 i hi (fun q => hn (hs i q))⟩
theorem Fr.set {ids : List Nat} {h : zH} {i : Nat} {e : va_E} (hi : i ∈ ids) : Fr ids h (h.set i e) := ⟨by simp, fun j _ hn => hs_ne (fun q => hn (q ▸ hi))⟩
theorem Fr.push {ids : List Nat} {h : zH} {e : va_E} : Fr ids h (h ++ [e]) := ⟨by simp, fun j hj _ => List.getElem?_append_left hj⟩
theorem Fr.get {ids : List Nat} {h h' : zH} {i : Nat} {e : va_E} (a : Fr ids h h') (he : h[i]? = some e) (hn : i ∉ ids) : h'[i]? = some e := (a.2 i (List.getElem?_eq_some_iff.mp he).1 hn).trans he
theorem hp_new {h : zH} {e : va_E} : (h ++ [e])[h.length]? = some e := by simp
theorem hp_old {h : zH} {e e0 : va_E} {i : Nat} (he : h[i]? = some e0) : (h ++ [e])[i]? = some e0 := by rw [List.getElem?_append_left (List.getElem?_eq_some_iff.mp he).1]; exact he

