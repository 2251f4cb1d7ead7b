/-! the model's world and the contracts of its parts -/
/-- only these fields and rows have changed -/
def Un (ks is ls : List Nat) (s s' : Nat → Value) (M M' : Nat → Nat → Int32) (L L' : Nat → Nat → Int64) : Prop := (∀ k, k ∉ ks → s' k = s k) ∧ (∀ i, i ∉ is → M' i = M i) ∧ ∀ i, i ∉ ls → L' i = L i
section ZUn
variable {ks is ls ks' is' ls' : List Nat} {s s' s2 : Nat → Value} {M M' M2 : Nat → Nat → Int32} {L L' L2 : Nat → Nat → Int64}
theorem Un.rf : Un ks is ls s s M M L L := ⟨fun _ _ => rfl, fun _ _ => rfl, fun _ _ => rfl⟩
theorem Un.tr (a : Un ks is ls s s' M M' L L') (b : Un ks is ls s' s2 M' M2 L' L2) : Un ks is ls s s2 M M2 L L2 := ⟨fun k q => (b.1 k q).trans (a.1 k q), fun k q => (b.2.1 k q).trans (a.2.1 k q), fun k q => (b.2.2 k q).trans (a.2.2 k q)⟩
theorem Un.mono (a : Un ks is ls s s' M M' L L') (h1 : ∀ k ∈ ks, k ∈ ks') (h2 : ∀ k ∈ is, k ∈ is') (h3 : ∀ k ∈ ls, k ∈ ls') : Un ks' is' ls' s s' M M' L L' := ⟨fun k q => a.1 k (fun z => q (h1 k z)), fun k q => a.2.1 k (fun z => q (h2 k z)), fun k q => a.2.2 k (fun z => q (h3 k z))⟩
theorem Un.fs {k : Nat} {v : Value} (a : Un ks is ls s s' M M' L L') (hk : k ∈ ks) : Un ks is ls s (va_up s' k v) M M' L L' := ⟨fun j q => by
  have : j ≠ k := fun z => q (z ▸ hk)
  simp only [va_up, if_neg this]
  exact a.1 j q, a.2⟩
theorem Un.m {k : Nat} {f : Nat → Int32} (a : Un ks is ls s s' M M' L L') (hk : k ∈ is) : Un ks is ls s s' M (upM M' k f) L L' := ⟨a.1, fun j q => by
  have : j ≠ k := fun z => q (z ▸ hk)
  rw [upM_ne this]
  exact a.2.1 j q, a.2.2⟩
theorem Un.l {k : Nat} {f : Nat → Int64} (a : Un ks is ls s s' M M' L L') (hk : k ∈ ls) : Un ks is ls s s' M M' L (upM L' k f) := ⟨a.1, a.2.1, fun j q => by
  have : j ≠ k := fun z => q (z ▸ hk)
  rw [upM_ne this]
  exact a.2.2 j q⟩
end ZUn
def MWx (ks is ls : List Nat) (h0 : zH) (s : Nat → Value) (M : Nat → Nat → Int32) (L : Nat → Nat → Int64) (h : zH) : Prop := ∃ s' M' L', MW h0 h s' M' L' ∧ Un ks is ls s s' M M' L L'
/-- the model's desk -/
def MDk (s : Nat → Value) (M : Nat → Nat → Int32) (n op ng li : Nat) (nx sp : Option (List Nat)) : Prop := (0 < n ∧ n ≤ 6 ∧ 0 < op ∧ op ≤ 9 ∧ ng < fct n ∧ li < 2 ^ 31) ∧ M 60 0 = nI li ∧ M 60 1 = nI n ∧ M 60 2 = nI op ∧ MLaw (M 60) 0 false nx ∧ MLaw (M 60) 1 true sp ∧ (∀ i, i < n → M 60 (15 + i) = nI (nm n ng i)) ∧ (∀ q, q < fct n → ∀ dd, dd < n → M 64 (6 * q + dd) = nI (nm n q dd)) ∧ s 17 = .int (nI (fct n))
theorem MDk.un {ks is ls : List Nat} {s s' : Nat → Value} {M M' : Nat → Nat → Int32} {L L' : Nat → Nat → Int64} {n op ng li : Nat} {nx sp : Option (List Nat)} (a : MDk s M n op ng li nx sp) (u : Un ks is ls s s' M M' L L') (h1 : 17 ∉ ks) (h2 : 60 ∉ is) (h3 : 64 ∉ is) : MDk s' M' n op ng li nx sp := by
  unfold MDk at a ⊢
  rw [u.1 17 h1, u.2.1 60 h2, u.2.1 64 h3]
  exact a
section ZMb
variable {h0 h : zH} {s : Nat → Value} {M : Nat → Nat → Int32} {L : Nat → Nat → Int64} {n op ng li : Nat} {nx sp : Option (List Nat)}
theorem MW.mt (W : MW h0 h s M L) (D : MDk s M n op ng li nx sp) : MT h s (M 60) n := ⟨W.hM, W.hF, W.gi rfl rfl, D.2.2.1, D.1.1, D.1.2.1, ⟨M 64, W.gi rfl rfl, D.2.2.2.2.2.2.2.1⟩, M 65, W.gi rfl rfl⟩
theorem MW.vm (W : MW h0 h s M L) (D : MDk s M n op ng li nx sp) : VM h s (M 60) n op nx sp := ⟨W.mt D, D.2.2.2.1, D.1.2.2.1, D.1.2.2.2.1, D.2.2.2.2.1, D.2.2.2.2.2.1, ⟨_, W.gi rfl rfl⟩, ⟨_, W.gi rfl rfl⟩, ⟨_, W.gi rfl rfl⟩⟩
theorem MW.ml {h' : zH} (W : MW h0 h s M L) (q : Ml h h') : MWx [] [65] [] h0 s M L h' := by
  obtain ⟨f, rfl⟩ := q
  exact ⟨s, upM M 65 f, L, W.si rfl rfl, Un.rf.m (by simp)⟩
theorem MW.visited {h' : zH} {s' : Nat → Value} (W : MW h0 h s M L) (f : Fr [59, 66, 67, 68] h h') (hV : VM h' s' (M 60) n op nx sp) {vf : Nat → Int32} (hv : h'[68]? = some (.inl (0, 9, .inl vf))) : ∃ M', MW h0 h' s' M' L ∧ (∀ i, i ≠ 66 → i ≠ 67 → i ≠ 68 → M' i = M i) ∧ M' 68 = vf := by
  obtain ⟨⟨v1, v2, -⟩, -, -, -, -, -, ⟨sk, v7⟩, ⟨w, v8⟩, -⟩ := hV
  refine ⟨upM (upM (upM M 66 sk) 67 w) 68 vf, ⟨v1, v2, fun i hi => ?_, fun i hi => ?_, ?_, W.mo.tr (Mo.fr f (by simp))⟩, fun i h1 h2 h3 => ?_, upM_eq⟩
  · have r := mIs_r hi
    by_cases q1 : i = 68
    · subst q1; rw [upM_eq]; exact hv
    · rw [upM_ne q1]
      by_cases q2 : i = 67
      · subst q2; rw [upM_eq]; exact v8
      · rw [upM_ne q2]
        by_cases q3 : i = 66
        · subst q3; rw [upM_eq]; exact v7
        · rw [upM_ne q3]
          exact f.get (W.gi hi rfl) (by simp; omega)
  · have r := mIl_r hi
    exact f.get (W.gl hi rfl) (by simp; omega)
  · rw [upM_ne (by decide), upM_ne (by decide), upM_ne (by decide)]
    exact f.get W.g61 (by simp)
  · rw [upM_ne h3, upM_ne h2, upM_ne h1]
variable {g : zG} {d : Nat}
theorem w_goesVisit {row p c : Nat} (W : MW h0 h s M L) (D : MDk s M n op ng li nx sp) (hr : row < fct n) (hp : p < n) : Zm g (d + 2) 0 0 mX12_goesVisit [.ref 59, .int (nI row), .int (nI p), .int (nI c)] h (rVp (fun h' => ∃ s' M', MW h0 h' s' M' L ∧ Un [21, 22] [66, 67, 68] [] s s' M M' L L ∧ s' 21 = .int (nI (vis n op nx sp row p c).1.length) ∧ s' 22 = .int (b2 ((vis n op nx sp row p c).2 = true)) ∧ ∀ i, i < (vis n op nx sp row p c).1.length → M' 68 i = nI ((vis n op nx sp row p c).1.getD i 0))) := by
  refine Zm.mono (m_goesVisit (W.vm D) hr hp) (fun v h' hq => ?_)
  obtain ⟨rfl, f, ⟨s', a1, a2, a3, a4⟩, vf, b1, b2⟩ := hq
  obtain ⟨M', c1, c2, c3⟩ := W.visited f a4 b1
  exact ⟨rfl, s', M', c1, ⟨fun k hk => a1 k (by simp at hk; omega) (by simp at hk; omega), fun i hi => c2 i (by simp at hi; omega) (by simp at hi; omega) (by simp at hi; omega), fun _ _ => rfl⟩, a2, a3, by rw [c3]; exact b2⟩
theorem w_letIn {row c : Nat} (W : MW h0 h s M L) (D : MDk s M n op ng li nx sp) (hr : row < fct n) : Zm g (d + 3) 0 0 mX12_letIn [.ref 59, .int (nI row), .int (nI c)] h (rIp (fun r h' => r = nI (msk n op nx sp row c) ∧ MWx [21, 22] [66, 67, 68] [] h0 s M L h')) := by
  refine Zm.mono (m_letIn (W.vm D) hr) (fun v h' hq => ?_)
  obtain ⟨r, rfl, q1, f, s', a1, a4⟩ := hq
  obtain ⟨vf, b1⟩ := a4.2.2.2.2.2.2.2.2
  obtain ⟨M', c1, c2, c3⟩ := W.visited f a4 b1
  exact ⟨r, rfl, q1, s', M', L, c1, ⟨fun k hk => a1 k (by simp at hk; omega) (by simp at hk; omega), fun i hi => c2 i (by simp at hi; omega) (by simp at hi; omega) (by simp at hi; omega), fun _ _ => rfl⟩⟩
theorem w_letNow {row c : Nat} (W : MW h0 h s M L) (D : MDk s M n op ng li nx sp) (hr : row < fct n) (h1 : M 60 21 = nI row) (h2 : M 60 22 = nI c) : Zm g (d + 4) 0 0 mX12_letNow [.ref 59] h (rIp (fun r h' => r = nI (msk n op nx sp row c) ∧ MWx [21, 22] [66, 67, 68] [] h0 s M L h')) := by
  refine Zm.mono (m_letNow (W.vm D) hr h1 h2) (fun v h' hq => ?_)
  obtain ⟨r, rfl, q1, f, s', a1, a4⟩ := hq
  obtain ⟨vf, b1⟩ := a4.2.2.2.2.2.2.2.2
  obtain ⟨M', c1, c2, c3⟩ := W.visited f a4 b1
  exact ⟨r, rfl, q1, s', M', L, c1, ⟨fun k hk => a1 k (by simp at hk; omega) (by simp at hk; omega), fun i hi => c2 i (by simp at hi; omega) (by simp at hi; omega) (by simp at hi; omega), fun _ _ => rfl⟩⟩
theorem w_swapTo {q dd e : Nat} (W : MW h0 h s M L) (D : MDk s M n op ng li nx sp) (hs : q < fct n) (hd : dd < n) (he : e < n) : Zm g (d + 1) 0 0 mX12_swapTo [.ref 59, .int (nI q), .int (nI dd), .int (nI e)] h (rIp (fun r h' => r = nI (sw1 n q dd e) ∧ MWx [] [65] [] h0 s M L h')) := by
  refine Zm.mono (m_swapTo (W.mt D) hs hd he) (fun v h' hq => ?_)
  obtain ⟨r, rfl, q1, q2⟩ := hq
  exact ⟨r, rfl, q1, W.ml q2⟩
/-- where a name lies -/
def ivk (n t j : Nat) : Nat := ((List.range n).find? (fun i => decide (nm n t i = j))).getD 0
theorem ivk_nm {t i : Nat} (hn : n ≤ 6) (ht : t < fct n) (hi : i < n) : ivk n t (nm n t i) = i := by
  unfold ivk
  cases hf : (List.range n).find? (fun k => decide (nm n t k = nm n t i)) with
  | none =>
    have := List.find?_eq_none.mp hf i (List.mem_range.mpr hi)
    simp at this
  | some k =>
    have h1 := List.find?_some hf
    have h2 := List.mem_of_find?_eq_some hf
    simp at h1 h2
    exact nm_inj hn ht h2 hi h1
def ngP (n t q j : Nat) : Nat := nm n q (ivk n t j)
/-- the number of the row behind a night -/
def ngt (n t q : Nat) : Nat := rnk n (ngP n t q)
theorem ngP_at {t q i : Nat} (hn : n ≤ 6) (ht : t < fct n) (hi : i < n) : ngP n t q (nm n t i) = nm n q i := by
  unfold ngP
  rw [ivk_nm hn ht hi]
theorem w_nightTo {q : Nat} (W : MW h0 h s M L) (D : MDk s M n op ng li nx sp) (hs : q < fct n) : Zm g (d + 1) 0 0 mX12_nightTo [.ref 59, .int (nI q)] h (rIp (fun r h' => r = nI (ngt n ng q) ∧ MWx [] [65] [] h0 s M L h')) := by
  refine Zm.mono (m_nightTo (p := ngP n ng q) (W.mt D) hs D.1.2.2.2.2.1 D.2.2.2.2.2.2.1 (fun i hi => ngP_at D.1.2.1 D.1.2.2.2.2.1 hi)) (fun v h' hq => ?_)
  obtain ⟨r, rfl, q1, q2⟩ := hq
  exact ⟨r, rfl, q1, W.ml q2⟩
theorem w_powerOf {q K : Nat} (W : MW h0 h s M L) (D : MDk s M n op ng li nx sp) (hs : q < fct n) (hK : K < 2 ^ 31) : Zm g (d + 1) 0 0 mX12_powerOf [.ref 59, .int (nI q), .int (nI K)] h (rIp (fun r h' => r = nI (rnk n (nbk n q K)) ∧ MWx [] [65] [] h0 s M L h')) := by
  refine Zm.mono (m_powerOf (W.mt D) hs hK) (fun v h' hq => ?_)
  obtain ⟨r, rfl, q1, q2⟩ := hq
  exact ⟨r, rfl, q1, W.ml q2⟩
end ZMb

