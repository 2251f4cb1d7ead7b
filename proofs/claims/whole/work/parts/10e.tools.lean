/-! tools: numbers by their worth, loops, the model's facts -/
theorem zN_le {a b : Int32} : a ≤ b ↔ a.toInt ≤ b.toInt := Int32.le_iff_toInt_le
theorem zN_lt {a b : Int32} : a < b ↔ a.toInt < b.toInt := Int32.lt_iff_toInt_lt
theorem zN_0 : (0 : Int32).toInt = 0 := rfl
theorem zN_1 : (1 : Int32).toInt = 1 := rfl
theorem zN_eq {a b : Nat} (ha : a < 2 ^ 31) (hb : b < 2 ^ 31) : nI a = nI b ↔ a = b := nI_eq ha hb
theorem zN_eq0 {a : Nat} (ha : a < 2 ^ 31) : nI a = 0 ↔ a = 0 := nI_eq (b := 0) ha (by decide)
theorem zN_cge {x y : Int64} : 0 ≤ lg_cmp x y ↔ y ≤ x := by
  rw [← Int32.not_lt, cmp_lt, Int64.not_lt]
theorem zN_cle {x y : Int64} : lg_cmp x y ≤ 0 ↔ x ≤ y := by
  rw [← Int32.not_lt, cmp_gt, Int64.not_lt]
theorem zK0 : (0 : Int64).toInt = 0 := rfl
theorem zK1 : (1 : Int64).toInt = 1 := rfl
theorem zK2 : (2 : Int64).toInt = 2 := rfl
theorem zK3 : (3 : Int64).toInt = 3 := rfl
theorem zK5 : (5 : Int64).toInt = 5 := rfl
theorem zK7 : (7 : Int64).toInt = 7 := rfl
theorem zK8 : (8 : Int64).toInt = 8 := rfl
theorem zK9 : (9 : Int64).toInt = 9 := rfl
theorem zK10 : (10 : Int64).toInt = 10 := rfl
theorem zK19 : (19 : Int64).toInt = 19 := rfl
theorem zK20 : (20 : Int64).toInt = 20 := rfl
theorem zK40 : (40 : Int64).toInt = 40 := rfl
theorem zK99 : (99 : Int64).toInt = 99 := rfl
theorem zK100 : (100 : Int64).toInt = 100 := rfl
theorem zK199 : (199 : Int64).toInt = 199 := rfl
theorem zN_x {x : Int32} {k : Nat} (hk : k < 2 ^ 31) : x = nI k ↔ x.toInt = (k : Int) := by
  rw [← Int32.toInt_inj, nI_toInt hk]
section ZT
variable {g : zG} {d κ σ : Nat} {m : zMe} {pc : Nat} {Q : Option Value → zH → Prop}
/-- a loop that counts up -/
theorem x_for {e : Nat} (ls : Nat → zL) (I : Nat → zH → Prop) (i0 : Nat) {h : zH} (hi : i0 ≤ e) (h0 : I i0 h) (hx : ∀ h, I e h → Zw g d κ σ m pc (ls e) [] h Q) (hs : ∀ i h, i < e → I i h → (∀ h', I (i + 1) h' → Zw g d κ σ m pc (ls (i + 1)) [] h' Q) → Zw g d κ σ m pc (ls i) [] h Q) : Zw g d κ σ m pc (ls i0) [] h Q := by
  have key : ∀ k i h, i + k = e → I i h → Zw g d κ σ m pc (ls i) [] h Q := by
    intro k
    induction k with
    | zero => intro i h q hI; obtain rfl : i = e := by omega
              exact hx h hI
    | succ k ih => intro i h q hI; exact hs i h (by omega) hI (fun h' hI' => ih (i + 1) h' (by omega) hI')
  exact key (e - i0) i0 h (by omega) h0
/-- any loop with a measure -/
theorem x_wh {α : Type} (ls : α → zL) (I : α → zH → Prop) (μ : α → Nat) (a0 : α) {h : zH} (h0 : I a0 h) (hs : ∀ a h, I a h → (∀ a' h', μ a' < μ a → I a' h' → Zw g d κ σ m pc (ls a') [] h' Q) → Zw g d κ σ m pc (ls a) [] h Q) : Zw g d κ σ m pc (ls a0) [] h Q := by
  have key : ∀ k a h, μ a < k → I a h → Zw g d κ σ m pc (ls a) [] h Q := by
    intro k
    induction k with
    | zero => intro a h q; exact absurd q (Nat.not_lt_zero _)
    | succ k ih => intro a h q hI; exact hs a h hI (fun a' h' q' hI' => ih a' h' (by omega) hI')
  exact key (μ a0 + 1) a0 h (Nat.lt_succ_self _) h0
end ZT
section ZJ
variable {ks is ls : List Nat} {g : zG} {d : Nat} {h0 h : zH} {s s' : Nat → Value} {M M' : Nat → Nat → Int32} {L L' : Nat → Nat → Int64} {dk : zDk} {st : zSt} {un : List zSt} {tp : List Nat} {tr : Nat → zTr} {pi : Nat → zPi} {fl : Nat × Nat}
theorem MJ.o (J : MJ s M L dk st un tp tr pi fl) : MDk s M dk.1 dk.2.1 dk.2.2.1 dk.2.2.2.1 dk.2.2.2.2.1 dk.2.2.2.2.2 ∧ 0 < dk.1 ∧ dk.1 ≤ 6 ∧ 0 < dk.2.1 ∧ dk.2.1 ≤ 9 ∧ dk.2.2.1 < fct dk.1 ∧ dk.2.2.2.1 < 2 ^ 31 ∧ M 60 0 = nI dk.2.2.2.1 ∧ M 60 1 = nI dk.1 ∧ M 60 2 = nI dk.2.1 ∧ M 60 21 = nI st.1 ∧ M 60 22 = nI st.2.1 ∧ M 60 23 = st.2.2 ∧ st.1 < fct dk.1 ∧ st.2.1 < 10 ∧ M 60 24 = nI un.length ∧ un.length ≤ 10 ∧ s 5 = .int (nI tp.length) ∧ tp.length ≤ 900 ∧ s 17 = .int (nI (fct dk.1)) ∧ fct dk.1 ≤ 720 := by
  obtain ⟨a1, ⟨b1, b2, b3, b4, b5⟩, ⟨c1, c2, -⟩, ⟨d1, d2, -⟩, -⟩ := J
  obtain ⟨⟨x1, x2, x3, x4, x5, x6⟩, y0, y1, y2, -, -, -, -, y3⟩ := id a1
  exact ⟨a1, x1, x2, x3, x4, x5, x6, y0, y1, y2, b1, b2, b3, b4, b5, c1, c2, d1, d2, y3, fct_le x2⟩
/-- what a part of the model leaves: only scratch has changed -/
def MX (ks is ls : List Nat) (h0 : zH) (s : Nat → Value) (M : Nat → Nat → Int32) (L : Nat → Nat → Int64) (dk : zDk) (st : zSt) (un : List zSt) (tp : List Nat) (tr : Nat → zTr) (pi : Nat → zPi) (fl : Nat × Nat) (h : zH) : Prop := ∃ s' M' L', MW h0 h s' M' L' ∧ MJ s' M' L' dk st un tp tr pi fl ∧ Un ks is ls s s' M M' L L'
theorem MX.of (q : MWx ks is ls h0 s M L h) (J : MJ s M L dk st un tp tr pi fl) (h1 : ∀ k ∈ [5, 13, 14, 17, 10], k ∉ ks) (h2 : ∀ k ∈ [60, 61, 62, 64, 80, 81], k ∉ is) (h3 : 82 ∉ ls) : MX ks is ls h0 s M L dk st un tp tr pi fl h := by
  obtain ⟨s', M', L', W, U⟩ := q
  exact ⟨s', M', L', W, J.scr U h1 h2 h3, U⟩
theorem j_goesVisit {row p c : Nat} (W : MW h0 h s M L) (J : MJ s M L dk st un tp tr pi fl) (hr : row < fct dk.1) (hp : p < dk.1) : Zm g (d + 2) 0 0 mX12_goesVisit [.ref 59, .int (nI row), .int (nI p), .int (nI c)] h (rVp (fun h' => ∃ s' M', MW h0 h' s' M' L ∧ MJ s' M' L dk st un tp tr pi fl ∧ Un [21, 22] [66, 67, 68] [] s s' M M' L L ∧ s' 21 = .int (nI (vis dk.1 dk.2.1 dk.2.2.2.2.1 dk.2.2.2.2.2 row p c).1.length) ∧ s' 22 = .int (b2 ((vis dk.1 dk.2.1 dk.2.2.2.2.1 dk.2.2.2.2.2 row p c).2 = true)) ∧ ∀ i, i < (vis dk.1 dk.2.1 dk.2.2.2.2.1 dk.2.2.2.2.2 row p c).1.length → M' 68 i = nI ((vis dk.1 dk.2.1 dk.2.2.2.2.1 dk.2.2.2.2.2 row p c).1.getD i 0))) := by
  refine Zm.mono (w_goesVisit W J.1 hr hp) (fun v h' hq => ?_)
  obtain ⟨rfl, s', M', q1, q2, q3⟩ := hq
  exact ⟨rfl, s', M', q1, J.scr q2 (by decide) (by decide) (by decide), q2, q3⟩
theorem j_letIn {row c : Nat} (W : MW h0 h s M L) (J : MJ s M L dk st un tp tr pi fl) (hr : row < fct dk.1) : Zm g (d + 3) 0 0 mX12_letIn [.ref 59, .int (nI row), .int (nI c)] h (rIp (fun r h' => r = nI (mskK dk row c) ∧ MX [21, 22] [66, 67, 68] [] h0 s M L dk st un tp tr pi fl h')) := by
  refine Zm.mono (w_letIn W J.1 hr) (fun v h' hq => ?_)
  obtain ⟨r, rfl, q1, q2⟩ := hq
  exact ⟨r, rfl, q1, MX.of q2 J (by decide) (by decide) (by decide)⟩
theorem j_letNow (W : MW h0 h s M L) (J : MJ s M L dk st un tp tr pi fl) : Zm g (d + 4) 0 0 mX12_letNow [.ref 59] h (rIp (fun r h' => r = nI (mskK dk st.1 st.2.1) ∧ MX [21, 22] [66, 67, 68] [] h0 s M L dk st un tp tr pi fl h')) := by
  refine Zm.mono (w_letNow W J.1 J.2.1.2.2.2.1 J.2.1.1 J.2.1.2.1) (fun v h' hq => ?_)
  obtain ⟨r, rfl, q1, q2⟩ := hq
  exact ⟨r, rfl, q1, MX.of q2 J (by decide) (by decide) (by decide)⟩
theorem j_swapTo {q dd e : Nat} (W : MW h0 h s M L) (J : MJ s M L dk st un tp tr pi fl) (hs : q < fct dk.1) (hd : dd < dk.1) (he : e < dk.1) : Zm g (d + 1) 0 0 mX12_swapTo [.ref 59, .int (nI q), .int (nI dd), .int (nI e)] h (rIp (fun r h' => r = nI (sw1 dk.1 q dd e) ∧ MX [] [65] [] h0 s M L dk st un tp tr pi fl h')) := by
  refine Zm.mono (w_swapTo W J.1 hs hd he) (fun v h' hq => ?_)
  obtain ⟨r, rfl, q1, q2⟩ := hq
  exact ⟨r, rfl, q1, MX.of q2 J (by decide) (by decide) (by decide)⟩
theorem j_nightTo {q : Nat} (W : MW h0 h s M L) (J : MJ s M L dk st un tp tr pi fl) (hs : q < fct dk.1) : Zm g (d + 1) 0 0 mX12_nightTo [.ref 59, .int (nI q)] h (rIp (fun r h' => r = nI (ngt dk.1 dk.2.2.1 q) ∧ MX [] [65] [] h0 s M L dk st un tp tr pi fl h')) := by
  refine Zm.mono (w_nightTo W J.1 hs) (fun v h' hq => ?_)
  obtain ⟨r, rfl, q1, q2⟩ := hq
  exact ⟨r, rfl, q1, MX.of q2 J (by decide) (by decide) (by decide)⟩
theorem j_powerOf {q K : Nat} (W : MW h0 h s M L) (J : MJ s M L dk st un tp tr pi fl) (hs : q < fct dk.1) (hK : K < 2 ^ 31) : Zm g (d + 1) 0 0 mX12_powerOf [.ref 59, .int (nI q), .int (nI K)] h (rIp (fun r h' => r = nI (rnk dk.1 (nbk dk.1 q K)) ∧ MX [] [65] [] h0 s M L dk st un tp tr pi fl h')) := by
  refine Zm.mono (w_powerOf W J.1 hs hK) (fun v h' hq => ?_)
  obtain ⟨r, rfl, q1, q2⟩ := hq
  exact ⟨r, rfl, q1, MX.of q2 J (by decide) (by decide) (by decide)⟩
theorem j_isDrawer {x : Int32} (W : MW h0 h s M L) (J : MJ s M L dk st un tp tr pi fl) : Zm g (d + 1) 0 0 mX12_isDrawer [.ref 59, .long x.toInt64] h (rI (b2 (oneOf x dk.1)) h) := by
  have := w_isDrawer (g := g) (d := d) (v := x.toInt64) W J.1
  unfold oneL at this
  simp only [i64_n] at this
  exact this
theorem j_nameIn {q dd : Nat} (W : MW h0 h s M L) (J : MJ s M L dk st un tp tr pi fl) (hs : q < fct dk.1) (hd : dd < dk.1) : Zm g d 0 0 mX12_nameIn [.ref 59, .int (nI q), .int (nI dd)] h (rI (nI (nm dk.1 q dd)) h) := m_nameIn (W.mt J.1) hs hd
theorem MJ.us {k : Nat} {v : Value} (J : MJ s M L dk st un tp tr pi fl) (hk : [5, 13, 14, 17, 10].contains k = false) : MJ (va_up s k v) M L dk st un tp tr pi fl := J.scr (Un.rf.fs (k := k) (v := v) (ks := [k]) (is := []) (ls := []) (by simp)) (fun j hj hk' => by
  simp only [List.mem_singleton] at hk'
  subst hk'
  rw [List.contains_eq_mem] at hk
  exact absurd hj (of_decide_eq_false hk)) (fun _ _ => List.not_mem_nil) List.not_mem_nil
theorem MJ.um {i : Nat} {f : Nat → Int32} (J : MJ s M L dk st un tp tr pi fl) (hk : [60, 61, 62, 64, 80, 81].contains i = false) : MJ s (upM M i f) L dk st un tp tr pi fl := J.scr (Un.rf.m (k := i) (f := f) (ks := []) (is := [i]) (ls := []) (by simp)) (fun _ _ => List.not_mem_nil) (fun j hj hk' => by
  simp only [List.mem_singleton] at hk'
  subst hk'
  rw [List.contains_eq_mem] at hk
  exact absurd hj (of_decide_eq_false hk)) List.not_mem_nil
theorem MJ.ul {i : Nat} {f : Nat → Int64} (J : MJ s M L dk st un tp tr pi fl) (hk : i ≠ 82) : MJ s M (upM L i f) dk st un tp tr pi fl := J.scr (Un.rf.l (k := i) (f := f) (ks := []) (is := []) (ls := [i]) (by simp)) (fun _ _ => List.not_mem_nil) (fun _ _ => List.not_mem_nil) (by simp; omega)
section ZS
variable {κ σ : Nat} {m : zMe} {pc : Nat} {lc : zL} {sk : List Value} {Q : Option Value → zH → Prop}
theorem x_mstJ {i len j : Nat} {x : Int32} (W : MW h0 h s M L) (J : MJ s M L dk st un tp tr pi fl) (hi : mIs i = true) (hl : mLen i = len) (hL : len < 2 ^ 31) (hc : [60, 61, 62, 64, 80, 81].contains i = false) (hj : j < len) (hd : decode m.2.1 pc = .ok (.iastore, 1)) (kk : ∀ h, MW h0 h s (upM M i (upd (M i) j x)) L → MJ s (upM M i (upd (M i) j x)) L dk st un tp tr pi fl → Zw g d κ σ m (pc + 1) lc sk h Q) : Zw g d κ σ m pc lc (.int x :: .int (nI j) :: .ref i :: sk) h Q := x_mst W hi hl hL hj hd (fun h W => kk h W (J.um hc))
theorem x_mstlJ {i len j : Nat} {x : Int64} (W : MW h0 h s M L) (J : MJ s M L dk st un tp tr pi fl) (hi : mIl i = true) (hl : mLen i = len) (hL : len < 2 ^ 31) (hc : i ≠ 82) (hj : j < len) (hd : decode m.2.1 pc = .ok (.lastore, 1)) (kk : ∀ h, MW h0 h s M (upM L i (vp_updL (L i) j x)) → MJ s M (upM L i (vp_updL (L i) j x)) dk st un tp tr pi fl → Zw g d κ σ m (pc + 1) lc sk h Q) : Zw g d κ σ m pc lc (.long x :: .int (nI j) :: .ref i :: sk) h Q := x_mstl W hi hl hL hj hd (fun h W => kk h W (J.ul hc))
theorem x_mpfJ {n k : Nat} {ty : FieldType} {v : Value} (W : MW h0 h s M L) (J : MJ s M L dk st un tp tr pi fl) (hf : zFd m.1.cls n 12 k ty false) (hk : k < 41) (hx : mFx k = false) (hc : [5, 13, 14, 17, 10].contains k = false) (hz : z_fit ty v) (hd : decode m.2.1 pc = .ok (.putfield n, 3)) (kk : ∀ h, MW h0 h (va_up s k v) M L → MJ (va_up s k v) M L dk st un tp tr pi fl → Zw g d κ σ m (pc + 3) lc sk h Q) : Zw g d κ σ m pc lc (v :: .ref 59 :: sk) h Q := x_mpf W hf hk hx hz hd (fun h W => kk h W (J.us hc))
end ZS
/-- within, of ints -/
theorem j_within {x : Int32} {a b : Int64} : Zm g d 0 0 mX12_within [.long x.toInt64, .long a, .long b] h (rI (b2 (a.toInt ≤ x.toInt ∧ x.toInt ≤ b.toInt)) h) := by
  have := c_X12_within (g := g) (d := d) (h := h) (a := x.toInt64) (b := a) (c := b)
  rw [b2_iff wi64] at this
  exact this
end ZJ

