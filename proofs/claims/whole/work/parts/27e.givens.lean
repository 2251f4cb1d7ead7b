/-! the entry's arrays, literals, statics -/
section ZEn
variable {s : State} {args : Array Value}
theorem e_ac {ty : FieldType} (hty : ∀ cA, va_RA s cA ty = (s.vm.findClass ("[" ++ ty.toString) = some cA)) (h : (Cond.arrayClass ty).before args s = true) : ∃ cA : Nat, ArrOfT s cA ty ∧ va_RA s cA ty := by
  obtain ⟨cA, kA, comp, h1, h2, h3⟩ := Cond.arrayClass_spec h
  exact ⟨cA, fun n z => ⟨fun k h => (by cases h), kA, h2, comp, h3⟩, by rw [hty]; exact h1⟩
theorem e_ao {C : String} (h : (Cond.arrayOver (.object C)).before args s = true) : ∃ cA : Nat, ArrOfT s cA (.object C) ∧ va_RA s cA (.object C) := by
  obtain ⟨comp, c, k, f4, -, f2, f3, f1⟩ := Cond.arrayOver_spec h
  exact ⟨c, fun n z => ⟨fun k h => (by cases h), k, f2, comp, f3⟩, k, comp, f2, f3, f4, f1⟩
theorem wo7 : Cond.arrayOver (.object RX7) ∈ lw_tbl := wt1 _ (List.mem_of_getElem? (i := 142) rfl)
theorem wo8 : Cond.arrayOver (.object RX8) ∈ lw_tbl := wt1 _ (List.mem_of_getElem? (i := 144) rfl)
theorem wo3 : Cond.arrayOver (.object RX3) ∈ lw_tbl := wt1 _ (List.mem_of_getElem? (i := 146) rfl)
theorem e_ty (hts : ∀ w ∈ lw_tbl, w.before args s = true) : ∃ cA : Nat → Nat, ∀ (k : Nat) (q : ClassId × FieldType), (zTy.mapIdx (fun i ty => ((cA i : ClassId), ty)))[k]? = some q → ArrOfT s q.1 q.2 ∧ va_RA s q.1 q.2 := by
  have H : ∀ k : Nat, ∃ cA : Nat, ∀ ty : FieldType, zTy[k]? = some ty → ArrOfT s cA ty ∧ va_RA s cA ty := by
    intro k
    match k with
    | 0 => obtain ⟨a, z⟩ := e_ac (ty := .int) (fun _ => rfl) (e_tb hts _ ka_int); exact ⟨a, fun q hq => by cases hq; exact z⟩
    | 1 => obtain ⟨a, z⟩ := e_ac (ty := .byte) (fun _ => rfl) (e_tb hts _ ka_byte); exact ⟨a, fun q hq => by cases hq; exact z⟩
    | 2 => obtain ⟨a, z⟩ := e_ac (ty := .long) (fun _ => rfl) (e_tb hts _ ka_long); exact ⟨a, fun q hq => by cases hq; exact z⟩
    | 3 => obtain ⟨a, z⟩ := e_ac (ty := .boolean) (fun _ => rfl) (e_tb hts _ ka_boolean); exact ⟨a, fun q hq => by cases hq; exact z⟩
    | 4 => obtain ⟨a, z⟩ := e_ao (hts _ wo7); exact ⟨a, fun q hq => by cases hq; exact z⟩
    | 5 => obtain ⟨a, z⟩ := e_ao (hts _ wo8); exact ⟨a, fun q hq => by cases hq; exact z⟩
    | 6 => obtain ⟨a, z⟩ := e_ao (hts _ wo3); exact ⟨a, fun q hq => by cases hq; exact z⟩
    | n + 7 => exact ⟨0, fun q hq => by cases hq⟩
  refine ⟨fun k => (H k).choose, fun k q hq => ?_⟩
  rw [List.getElem?_mapIdx] at hq
  cases h : zTy[k]? with
  | none => rw [h] at hq; cases hq
  | some ty =>
    rw [h] at hq
    cases hq
    exact (H k).choose_spec ty h
/-- a literal's object and its bytes, by its place in the premises -/
theorem e_lit {tm : Term} {B : List Int32} {k : Nat} {G : Cond} {A : Nat → Prop} (hg : G.before args s = true) (hN : B.length < 2 ^ 31) (h0 : (flatC G)[k]? = some (.exactly tm "java/lang/String")) (h1 : (flatC G)[k + 1]? = some (.eq (.field tm "java/lang/String" "coder" "B") (.int 0))) (h2 : (flatC G)[k + 2]? = some (.arrayOf (.field tm "java/lang/String" "value" "[B") .byte)) (h3 : (flatC G)[k + 3]? = some (.eq (.length (.field tm "java/lang/String" "value" "[B")) (.int (Int32.ofNat B.length)))) (h4 : ∀ j, j < B.length → (flatC G)[k + 4 + j]? = some (.eq (.elem (.field tm "java/lang/String" "value" "[B") (.int (Int32.ofNat j))) (.int (B.getD j 0)))) (hA : ∀ a : Nat, a < s.heap.size → ¬ A a) :
    ∃ a t : Nat, tm.eval args s none [] s = some (.ref a) ∧ va_O "java/lang/String" a A s s.heap ∧ va_OF "java/lang/String" "coder" "B" (.int 0) a A s s.heap ∧ va_OF "java/lang/String" "value" "[B" (.ref t) a A s s.heap ∧ va_T .byte t B.length (fun j => .int (B.getD j 0)) A s s.heap := by
  have hs := flat_of_before G hg
  obtain ⟨a, c, cA, kA, q1, q2, q3, q4, q5, q6, -⟩ := Cond.exactly_spec (args := args) (first := s) (o := none) (s := s) (idx := []) (t := tm) (cls := "java/lang/String") (hs _ (List.mem_of_getElem? h0))
  obtain ⟨t, ht, hT⟩ := va_Tof (f := fun j => .int (B.getD j 0)) (A := A) hN (hs _ (List.mem_of_getElem? h2)) (va_eqt (hs _ (List.mem_of_getElem? h3))) (fun j hj => va_eqt (hs _ (List.mem_of_getElem? (h4 j hj)))) hA
  exact ⟨a, t, q1, ⟨cA, q3, q5, by rw [q6]; exact q2, hA a (Array.getElem?_eq_some_iff.mp q3).1⟩, vk_OFof q1 (va_eqt (hs _ (List.mem_of_getElem? h1))) hA, vk_OFof q1 ht hA, hT⟩
def zGv : Cond := Jvm.Cond.and given_1 narrow_1
theorem e_s0 {A : Nat → Prop} (hg : zGv.before args s = true) (hA : ∀ a : Nat, a < s.heap.size → ¬ A a) : ∃ a t : Nat, (Term.string RX4 173).eval args s none [] s = some (.ref a) ∧ va_O "java/lang/String" a A s s.heap ∧ va_OF "java/lang/String" "coder" "B" (.int 0) a A s s.heap ∧ va_OF "java/lang/String" "value" "[B" (.ref t) a A s s.heap ∧ va_T .byte t zB0.length (fun j => .int (zB0.getD j 0)) A s s.heap :=
  e_lit (k := 58) hg (by decide) (by decide +kernel) (by decide +kernel) (by decide +kernel) (by decide +kernel) (by decide +kernel) hA
theorem e_s1 {A : Nat → Prop} (hg : zGv.before args s = true) (hA : ∀ a : Nat, a < s.heap.size → ¬ A a) : ∃ a t : Nat, (Term.string RX4 165).eval args s none [] s = some (.ref a) ∧ va_O "java/lang/String" a A s s.heap ∧ va_OF "java/lang/String" "coder" "B" (.int 0) a A s s.heap ∧ va_OF "java/lang/String" "value" "[B" (.ref t) a A s s.heap ∧ va_T .byte t zB1.length (fun j => .int (zB1.getD j 0)) A s s.heap :=
  e_lit (k := 156) hg (by decide) (by decide +kernel) (by decide +kernel) (by decide +kernel) (by decide +kernel) (by decide +kernel) hA
theorem e_s2 {A : Nat → Prop} (hg : zGv.before args s = true) (hA : ∀ a : Nat, a < s.heap.size → ¬ A a) : ∃ a t : Nat, (Term.string RX12 101).eval args s none [] s = some (.ref a) ∧ va_O "java/lang/String" a A s s.heap ∧ va_OF "java/lang/String" "coder" "B" (.int 0) a A s s.heap ∧ va_OF "java/lang/String" "value" "[B" (.ref t) a A s s.heap ∧ va_T .byte t zB2.length (fun j => .int (zB2.getD j 0)) A s s.heap :=
  e_lit (k := 173) hg (by decide) (by decide +kernel) (by decide +kernel) (by decide +kernel) (by decide +kernel) (by decide +kernel) hA
theorem e_s3 {A : Nat → Prop} (hg : zGv.before args s = true) (hA : ∀ a : Nat, a < s.heap.size → ¬ A a) : ∃ a t : Nat, (Term.string RX12 139).eval args s none [] s = some (.ref a) ∧ va_O "java/lang/String" a A s s.heap ∧ va_OF "java/lang/String" "coder" "B" (.int 0) a A s s.heap ∧ va_OF "java/lang/String" "value" "[B" (.ref t) a A s s.heap ∧ va_T .byte t zB1.length (fun j => .int (zB1.getD j 0)) A s s.heap :=
  e_lit (k := 274) hg (by decide) (by decide +kernel) (by decide +kernel) (by decide +kernel) (by decide +kernel) (by decide +kernel) hA
theorem e_fac {A : Nat → Prop} (hg : zGv.before args s = true) (hA : ∀ a : Nat, a < s.heap.size → ¬ A a) : ∃ t : Nat, (Term.static RX5 "FACTORIALS" "[I").eval args s none [] s = some (.ref t) ∧ va_T .int t 7 (fun k => .int (zFac k)) A s s.heap :=
  have hs := flat_of_before zGv hg
  have h4 : ∀ j, j < 7 → (flatC zGv)[7 + j]? = some (.eq (.elem (.static RX5 "FACTORIALS" "[I") (.int (Int32.ofNat j))) (.int (zFac j))) := by decide +kernel
  va_Tof (by decide) (hs _ (List.mem_of_getElem? (i := 5) (by decide +kernel))) (va_eqt (hs _ (List.mem_of_getElem? (i := 6) (by decide +kernel)))) (fun j hj => va_eqt (hs _ (List.mem_of_getElem? (h4 j hj)))) hA
theorem wl_fac : Cond.laysStatic RX5 "FACTORIALS" "[I" ∈ lw_tbl := wt2 _ (List.mem_of_getElem? (i := 147) rfl)
theorem wl_cs : Cond.laysStatic "java/lang/String" "COMPACT_STRINGS" "Z" ∈ lw_tbl := wt3 _ (List.mem_of_getElem? (i := 21) rfl)
theorem wl_si : Cond.laysStatic "jdk/internal/util/Preconditions" "SIOOBE_FORMATTER" "Ljava/util/function/BiFunction;" ∈ lw_tbl := wt3 _ (List.mem_of_getElem? (i := 37) rfl)
theorem wi_5 : Cond.initialized RX5 ∈ lw_tbl := wt1 _ (List.mem_of_getElem? (i := 5) rfl)
theorem wi_s : Cond.initialized "java/lang/String" ∈ lw_tbl := wt1 _ (List.mem_of_getElem? (i := 17) rfl)
theorem wi_p : Cond.initialized "jdk/internal/util/Preconditions" ∈ lw_tbl := wt1 _ (List.mem_of_getElem? (i := 19) rfl)
theorem wr_0 : Cond.stringRef RX4 173 "desk drawers opens name night clue next stops if then else end me found last tries or and not " ∈ lw_tbl := wt3 _ (List.mem_of_getElem? (i := 11) rfl)
theorem wr_1 : Cond.stringRef RX4 165 ";:+-*()[]=<>" ∈ lw_tbl := wt3 _ (List.mem_of_getElem? (i := 71) rfl)
theorem wr_2 : Cond.stringRef RX12 101 " desk drawers opens name night clue next stops if then else end me found last tries and or not " ∈ lw_tbl := wt6 _ (List.mem_of_getElem? (i := 160) rfl)
theorem wr_3 : Cond.stringRef RX12 139 ";:+-*()[]=<>" ∈ lw_tbl := wt6 _ (List.mem_of_getElem? (i := 166) rfl)
theorem e_cs {A : Nat → Prop} (hts : ∀ w ∈ lw_tbl, w.before args s = true) (hg : zGv.before args s = true) (hA : ∀ a : Nat, a < s.heap.size → ¬ A a) : va_Z "java/lang/String" "COMPACT_STRINGS" "Z" (.int 1) A s s.heap :=
  va_Zof (hts _ wl_cs) (hts _ wi_s) (va_eqi (flat_of_before zGv hg _ (List.mem_of_getElem? (i := 14) (by decide +kernel)))) hA
theorem e_si {A : Nat → Prop} (hts : ∀ w ∈ lw_tbl, w.before args s = true) (hg : zGv.before args s = true) (hA : ∀ a : Nat, a < s.heap.size → ¬ A a) : va_Zq "jdk/internal/util/Preconditions" "SIOOBE_FORMATTER" "Ljava/util/function/BiFunction;" A s s.heap :=
  va_Zqof (hts _ wl_si) (hts _ wi_p) (flat_of_before zGv hg _ (List.mem_of_getElem? (i := 15) (by decide +kernel))) hA
end ZEn
