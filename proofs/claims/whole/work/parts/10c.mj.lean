/-! what stands in the model, of a run's state; tests of numbers -/
abbrev zSt : Type := Nat × Nat × Int32
abbrev zTr : Type := Option (Nat × List Int64)
abbrev zPi : Type := Option (zDk × zSt)
abbrev oneOf (x : Int32) (n : Nat) : Prop := 0 ≤ x.toInt ∧ x.toInt < (n : Int)
abbrev oneL (x : Int64) (n : Nat) : Prop := 0 ≤ x.toInt ∧ x.toInt < (n : Int)
abbrev tn (x : Int32) : Nat := x.toNatClampNeg
theorem oneOf_n {x : Int32} {n : Nat} (h : oneOf x n) : tn x < n ∧ x = nI (tn x) := by
  have h1 : ((tn x : Nat) : Int) = x.toInt := by
    show ((x.toInt.toNat : Nat) : Int) = x.toInt
    exact Int.toNat_of_nonneg h.1
  refine ⟨by have := h.2; omega, ?_⟩
  apply Int32.toInt_inj.mp
  have hx := Int32.toInt_lt x
  rw [nI_toInt (by omega)]
  exact h1.symm
theorem oneOf_nI {k n : Nat} (hk : k < 2 ^ 31) : oneOf (nI k) n ↔ k < n := by
  unfold oneOf
  rw [nI_toInt hk]
  omega
theorem b2n {a : Prop} [Decidable a] (h : ¬ b2 a = 0) : a := by
  by_cases q : a
  · exact q
  · exact absurd (b2z q) h
theorem b2e {a : Prop} [Decidable a] (h : b2 a = 0) : ¬ a := fun q => by
  rw [b2o q] at h
  exact absurd h (by decide)
theorem b2_iff {a b : Prop} [Decidable a] [Decidable b] (h : a ↔ b) : b2 a = b2 b := by
  by_cases q : a
  · rw [b2o q, b2o (h.mp q)]
  · rw [b2z q, b2z (fun z => q (h.mpr z))]
def MDa (al : Nat → Int32) (n op ng li : Nat) (nx sp : Option (List Nat)) : Prop := (0 < n ∧ n ≤ 6 ∧ 0 < op ∧ op ≤ 9 ∧ ng < fct n ∧ li < 2 ^ 31) ∧ al 0 = nI li ∧ al 1 = nI n ∧ al 2 = nI op ∧ MLaw al 0 false nx ∧ MLaw al 1 true sp ∧ (∀ i, i < n → al (15 + i) = nI (nm n ng i))
def MTb (M : Nat → Nat → Int32) (n : Nat) : Prop := ∀ q, q < fct n → ∀ dd, dd < n → M 64 (6 * q + dd) = nI (nm n q dd)
theorem MDk.of {s : Nat → Value} {M : Nat → Nat → Int32} {n op ng li : Nat} {nx sp : Option (List Nat)} (a : MDa (M 60) n op ng li nx sp) (b : MTb M n) (c : s 17 = .int (nI (fct n))) : MDk s M n op ng li nx sp := ⟨a.1, a.2.1, a.2.2.1, a.2.2.2.1, a.2.2.2.2.1, a.2.2.2.2.2.1, a.2.2.2.2.2.2, b, c⟩
theorem MDk.da {s : Nat → Value} {M : Nat → Nat → Int32} {n op ng li : Nat} {nx sp : Option (List Nat)} (a : MDk s M n op ng li nx sp) : MDa (M 60) n op ng li nx sp := ⟨a.1, a.2.1, a.2.2.1, a.2.2.2.1, a.2.2.2.2.1, a.2.2.2.2.2.1, a.2.2.2.2.2.2.1⟩
/-- a state in three places of a row -/
def M3 (al : Nat → Int32) (k n : Nat) (st : zSt) : Prop := al k = nI st.1 ∧ al (k + 1) = nI st.2.1 ∧ al (k + 2) = st.2.2 ∧ st.1 < fct n ∧ st.2.1 < 10
def MUn (al : Nat → Int32) (n : Nat) (un : List zSt) : Prop := al 24 = nI un.length ∧ un.length ≤ 10 ∧ ∀ i, i < un.length → M3 al (25 + 3 * i) n (un.getD i (0, 0, 0))
def MTp (s : Nat → Value) (M : Nat → Nat → Int32) (tp : List Nat) : Prop := s 5 = .int (nI tp.length) ∧ tp.length ≤ 900 ∧ ∀ i, i < tp.length → M 62 i = nI (tp.getD i 0) ∧ tp.getD i 0 < 256
def MTr (M : Nat → Nat → Int32) (L : Nat → Nat → Int64) (tr : Nat → zTr) : Prop := ∀ t, t < 4 → match tr t with
  | none => M 80 t = -1
  | some q => M 80 t = nI q.1 ∧ q.1 < 4 ∧ M 81 t = nI q.2.length ∧ q.2.length ≤ 40 ∧ ∀ i, i < q.2.length → L 82 (40 * t + i) = q.2.getD i 0
def MPi (M : Nat → Nat → Int32) (pi : Nat → zPi) : Prop := ∀ t, t < 2 → match pi t with
  | none => M 61 t = 0
  | some q => M 61 t = 1 ∧ MDa (fun k => M 60 (956 * (t + 1) + k)) q.1.1 q.1.2.1 q.1.2.2.1 q.1.2.2.2.1 q.1.2.2.2.2.1 q.1.2.2.2.2.2 ∧ M3 (fun k => M 60 (956 * (t + 1) + k)) 21 q.1.1 q.2
def MFl (s : Nat → Value) (fl : Nat × Nat) : Prop := s 13 = .int (nI fl.1) ∧ s 14 = .int (if fl.1 = 0 then -1 else nI fl.2) ∧ fl.1 < 5 ∧ fl.2 < 1000 ∧ ∃ nu, s 10 = .int nu
def MJ (s : Nat → Value) (M : Nat → Nat → Int32) (L : Nat → Nat → Int64) (dk : zDk) (st : zSt) (un : List zSt) (tp : List Nat) (tr : Nat → zTr) (pi : Nat → zPi) (fl : Nat × Nat) : Prop := MDk s M dk.1 dk.2.1 dk.2.2.1 dk.2.2.2.1 dk.2.2.2.2.1 dk.2.2.2.2.2 ∧ M3 (M 60) 21 dk.1 st ∧ MUn (M 60) dk.1 un ∧ MTp s M tp ∧ MTr M L tr ∧ MPi M pi ∧ MFl s fl
def MI (h0 h : zH) (dk : zDk) (st : zSt) (un : List zSt) (tp : List Nat) (tr : Nat → zTr) (pi : Nat → zPi) (fl : Nat × Nat) : Prop := ∃ s M L, MW h0 h s M L ∧ MJ s M L dk st un tp tr pi fl
section ZMj
variable {ks is ls : List Nat} {s s' : Nat → Value} {M M' : Nat → Nat → Int32} {L L' : Nat → Nat → Int64} {dk : zDk} {st : zSt} {un : List zSt} {tp : List Nat} {tr : Nat → zTr} {pi : Nat → zPi} {fl : Nat × Nat}
/-- scratch may change -/
theorem MJ.scr (a : MJ s M L dk st un tp tr pi fl) (u : Un ks is ls s s' M M' L L') (h1 : ∀ k ∈ [5, 13, 14, 17, 10], k ∉ ks) (h2 : ∀ k ∈ [60, 61, 62, 64, 80, 81], k ∉ is) (h3 : 82 ∉ ls) : MJ s' M' L' dk st un tp tr pi fl := by
  simp only [List.mem_cons, List.not_mem_nil, or_false, forall_eq_or_imp, forall_eq] at h1 h2
  obtain ⟨a1, a2, a3, a4, a5, a6, a7⟩ := a
  refine ⟨a1.un u h1.2.2.2.1 h2.1 h2.2.2.2.1, ?_, ?_, ?_, ?_, ?_, ?_⟩
  · rw [u.2.1 60 h2.1]; exact a2
  · rw [u.2.1 60 h2.1]; exact a3
  · unfold MTp; rw [u.1 5 h1.1, u.2.1 62 h2.2.2.1]; exact a4
  · unfold MTr; rw [u.2.1 80 h2.2.2.2.2.1, u.2.1 81 h2.2.2.2.2.2, u.2.2 82 h3]; exact a5
  · unfold MPi; rw [u.2.1 60 h2.1, u.2.1 61 h2.2.1]; exact a6
  · unfold MFl; rw [u.1 13 h1.2.1, u.1 14 h1.2.2.1, u.1 10 h1.2.2.2.2]; exact a7
end ZMj
section ZMk
variable {g : zG} {d : Nat} {h0 h : zH} {s : Nat → Value} {M : Nat → Nat → Int32} {L : Nat → Nat → Int64} {n op ng li : Nat} {nx sp : Option (List Nat)}
theorem i64_n {x : Int32} : x.toInt64.toInt = x.toInt := Int32.toInt_toInt64 x
theorem i64_nm1 {k : Nat} (h0 : 0 < k) (hk : k < 2 ^ 31) : (nI k - 1).toInt64.toInt = (k : Int) - 1 := by
  have : nI k - 1 = nI (k - 1) := pk_sub (b := 1) h0
  rw [this, i64_n, nI_toInt (by omega)]
  omega
theorem w_isDrawer {v : Int64} (W : MW h0 h s M L) (D : MDk s M n op ng li nx sp) : Zm g (d + 1) 0 0 mX12_isDrawer [.ref 59, .long v] h (rI (b2 (oneL v n)) h) := by
  have hn := D.1.2.1
  have h1 := D.1.1
  show Zw g (d + 1) 0 0 mX12_isDrawer 0 [some (.ref 59), some (.long v), none] [] h _
  refine x_ll1 dX12_isDrawer_0 ?_
  refine x_lconst (v := 0) dX12_isDrawer_1 rfl ?_
  refine x_al0 rfl dX12_isDrawer_2 ?_
  refine x_gm fdX12_13 W.hM (by decide) W.hF.f1 dX12_isDrawer_3 ?_
  refine x_iconst (v := nI 1) dX12_isDrawer_6 rfl ?_
  refine x_mld (len := 2868) W rfl rfl (by decide) (by decide) D.2.2.1 dX12_isDrawer_7 ?_
  refine x_iconst (v := nI 1) dX12_isDrawer_8 rfl ?_
  refine x_isub (rfl) dX12_isDrawer_9 ?_
  refine x_i2l (rfl) dX12_isDrawer_10 ?_
  refine x_cs3I mX12_within_ok lkX12_157 (Nat.le_of_ble_eq_true rfl) (Nat.le_of_ble_eq_true rfl) dX12_isDrawer_11 c_X12_within ?_
  have e : ((0 : Int64) ≤ v ∧ v ≤ (nI n - nI 1).toInt64) ↔ oneL v n := by
    rw [Int64.le_iff_toInt_le, Int64.le_iff_toInt_le, show (nI n - nI 1).toInt64.toInt = (n : Int) - 1 from i64_nm1 h1 (by omega)]
    show 0 ≤ v.toInt ∧ _ ↔ _
    unfold oneL
    omega
  exact x_iret rfl  (by unfold b2; split <;> rfl) dX12_isDrawer_14 ⟨by rw [b2_iff e], rfl⟩
end ZMk

