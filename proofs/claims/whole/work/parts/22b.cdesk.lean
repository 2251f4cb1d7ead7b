/-! the class makes a desk -/
def lwC (b0 : Nat) (c : Option (List Nat)) (fs : Nat → Int32) : zH := match c with
  | none => []
  | some cs => [.inr (2, [.ref (b0 + 1), .ref (b0 + 2)]), inA cs.length fs, inA (hgt cs) (fun _ => 0)]
def lwV (b0 : Nat) (c : Option (List Nat)) : Value := match c with
  | none => .null
  | some _ => .ref b0
def lwN (c : Option (List Nat)) : Nat := match c with
  | none => 0
  | some cs => cs.length + 2 + hgt cs
def lwK (c : Option (List Nat)) : Nat := match c with
  | none => 0
  | some _ => 3
def lwF (c : Option (List Nat)) (fs : Nat → Int32) : Prop := ∀ cs, c = some cs → ∀ j x, cs[j]? = some x → fs j = cl x
theorem lwC_len {b0 : Nat} {c : Option (List Nat)} {fs : Nat → Int32} : (lwC b0 c fs).length = lwK c := by cases c <;> rfl
section ZDk
variable {g : zG} {d : Nat} {h0 h h' : zH} {r r' : Nat → Value} {A A' : Nat → Nat → Int32} {Q Q' : Nat → zS3} {X : zX} {i p li : Nat} {cs : List Nat} {D : zDd}
theorem RW.ext {l : zH} (R : RW h0 h r A Q) : RW (h ++ l) (h ++ l) r A Q := by
  obtain ⟨r1, rr, r6, r7, ⟨r8, r9⟩, ⟨r10, r11⟩, r12, r13⟩ := R
  exact ⟨he_old r1, rr, he_old r6, he_old r7, ⟨he_old r8, he_old r9⟩, ⟨he_old r10, he_old r11⟩, rfl, fun _ _ => rfl⟩
theorem c_as {b : Bool} {c : Option (List Nat)} (R : RW h0 h r A Q) (hi : i = 5 ∨ i = 7) (D : DR A Q i (c.getD [])) (hk : LwK b c) : Zm g (d + 2) (lwK c) (lwN c) mX1_asLaw [.ref i] h (fun v h' => v = some (lwV h.length c) ∧ ∃ fs, h' = h ++ lwC h.length c fs ∧ lwF c fs) := by
  cases c with
  | none => exact (c_asN R hi D).mono (fun v h' q => ⟨q.1, fun _ => 0, by rw [q.2]; simp [lwC], fun cs z => by cases z⟩)
  | some cs =>
    refine (c_asL R hi D (okc_ne hk.1) hk.2).mono (fun v h' q => ?_)
    obtain ⟨q1, fs, q2, q3⟩ := q
    refine ⟨q1, fs, by rw [q2]; rfl, fun cs' z => ?_⟩
    obtain rfl := Option.some.inj z
    exact q3
/-- a desk's cells, from place b on -/
def dkC (b : Nat) (D : zDd) (li : Nat) (f1 f2 : Nat → Int32) : zH := deskE D.1 D.2.1 (nI D.2.2.2.2.1) (nI (rnk D.1 D.2.2.1)) (nI (rnk D.1 D.2.2.2.1)) (nI li) (lwV (b + 1) D.2.2.2.2.2.1) (lwV (b + 1 + lwK D.2.2.2.2.2.1) D.2.2.2.2.2.2) :: (lwC (b + 1) D.2.2.2.2.2.1 f1 ++ lwC (b + 1 + lwK D.2.2.2.2.2.1) D.2.2.2.2.2.2 f2)
theorem c_deskP (R0 : RW h0 h r A Q) (c6 : DR A Q 5 (D.2.2.2.2.2.1.getD [])) (c7 : DR A Q 7 (D.2.2.2.2.2.2.getD [])) (v2 : r 2 = .int (nI D.1)) (v3 : r 3 = .int (nI D.2.1)) (v4 : r 4 = .int (nI D.2.2.2.2.1)) (v5 : r 5 = .int (nI li)) (c9 : ∀ i, i < 6 → A 3 i = nI (D.2.2.1 i)) (c10 : ∀ i, i < 6 → A 4 i = nI (D.2.2.2.1 i)) (hD : zDok D) : Zm g (d + 3) (lwK D.2.2.2.2.2.1 + lwK D.2.2.2.2.2.2) (lwN D.2.2.2.2.2.1 + lwN D.2.2.2.2.2.2) mX0_init [.ref h.length, .ref 2] (h ++ [.inr (0, [.int 0, .int 0, .int 0, .int 0, .int 0, .int 0, .null, .null])]) (rVp (fun h' => ∃ f1 f2, h' = h ++ dkC h.length D li f1 f2 ∧ lwF D.2.2.2.2.2.1 f1 ∧ lwF D.2.2.2.2.2.2 f2)) := by
  obtain ⟨d1, d2, d3, d4, d5, d6, d7, d8, d9⟩ := id hD
  show Zw g (d + 3) (lwK D.2.2.2.2.2.1 + lwK D.2.2.2.2.2.2) (lwN D.2.2.2.2.2.1 + lwN D.2.2.2.2.2.2) mX0_init 0 [some (.ref h.length), some (.ref 2)] [] _ _
  refine x_al0 rfl dX0_init_0 ?_
  refine x_obj koX0_1 (Nat.le_of_ble_eq_true rfl) dX0_init_1 ?_
  refine x_al0 rfl dX0_init_4 ?_
  refine x_al1 rfl dX0_init_5 ?_
  refine x_rg R0.ext fdX0_7 (by decide) (by first | assumption | rfl) dX0_init_6 ?_
  refine x_putF fpX0_13 rfl hm_get zf_i (by simp) dX0_init_9 ?_
  rw [hm_set]
  refine x_al0 rfl dX0_init_12 ?_
  refine x_al1 rfl dX0_init_13 ?_
  refine x_rg R0.ext fdX0_16 (by decide) (by first | assumption | rfl) dX0_init_14 ?_
  refine x_putF fpX0_19 rfl hm_get zf_i (by simp) dX0_init_17 ?_
  rw [hm_set]
  refine x_al0 rfl dX0_init_20 ?_
  refine x_al1 rfl dX0_init_21 ?_
  refine x_rg R0.ext fdX0_20 (by decide) (by first | assumption | rfl) dX0_init_22 ?_
  refine x_putF fpX0_23 rfl hm_get zf_i (by simp) dX0_init_25 ?_
  rw [hm_set]
  refine x_al0 rfl dX0_init_28 ?_
  refine x_al1 rfl dX0_init_29 ?_
  refine x_rg R0.ext fdX0_26 (by decide) (R0.f6) dX0_init_30 ?_
  refine x_al1 rfl dX0_init_33 ?_
  refine x_rg R0.ext fdX0_7 (by decide) (by first | assumption | rfl) dX0_init_34 ?_
  refine x_cs2I mX5_numberOf_ok lkX0_30 (Nat.le_of_ble_eq_true rfl) (Nat.le_of_ble_eq_true rfl) dX0_init_37 (c_X5_numberOf (p := D.2.2.1) (he_old R0.2.2.1) d2 (by decide) (fun j hj => ⟨c9 j (by omega), by have := d5 j hj; omega⟩)) ?_
  refine x_putF fpX0_36 rfl hm_get zf_i (by simp) dX0_init_40 ?_
  rw [hm_set]
  refine x_al0 rfl dX0_init_43 ?_
  refine x_al1 rfl dX0_init_44 ?_
  refine x_rg R0.ext fdX0_39 (by decide) (R0.f7) dX0_init_45 ?_
  refine x_al1 rfl dX0_init_48 ?_
  refine x_rg R0.ext fdX0_7 (by decide) (by first | assumption | rfl) dX0_init_49 ?_
  refine x_cs2I mX5_numberOf_ok lkX0_30 (Nat.le_of_ble_eq_true rfl) (Nat.le_of_ble_eq_true rfl) dX0_init_52 (c_X5_numberOf (p := D.2.2.2.1) (he_old R0.2.2.2.1) d2 (by decide) (fun j hj => ⟨c10 j (by omega), by have := d6 j hj; omega⟩)) ?_
  refine x_putF fpX0_42 rfl hm_get zf_i (by simp) dX0_init_55 ?_
  rw [hm_set]
  refine x_al0 rfl dX0_init_58 ?_
  refine x_al1 rfl dX0_init_59 ?_
  refine x_rg R0.ext fdX0_45 (by decide) (by first | assumption | rfl) dX0_init_60 ?_
  refine x_putF fpX0_48 rfl hm_get zf_i (by simp) dX0_init_63 ?_
  rw [hm_set]
  refine x_al0 rfl dX0_init_66 ?_
  refine x_al1 rfl dX0_init_67 ?_
  refine x_rg R0.ext fdX0_49 (by decide) (R0.f8) dX0_init_68 ?_
  refine x_callV (as := []) (κ1 := lwK D.2.2.2.2.2.1) (κ2 := lwK D.2.2.2.2.2.2) (σ1 := lwN D.2.2.2.2.2.1) (σ2 := lwN D.2.2.2.2.2.2) mX1_asLaw_ok lkX0_53 rfl rfl (Nat.le_of_ble_eq_true rfl) (Nat.le_of_ble_eq_true rfl) dX0_init_71 (R0.ext.dq (Or.inl rfl)).1 (Nat.le_refl _) (Nat.le_refl _) (c_as R0.ext (Or.inl rfl) c6 d8) (fun v h' q => ?_)
  obtain ⟨rfl, f1, rfl, hf1⟩ := q
  rw [List.append_assoc, List.length_append, List.length_cons, List.length_nil]
  simp only [List.cons_append, List.nil_append, Nat.zero_add]
  refine x_putF fpX0_59 rfl hm_get (by cases D.2.2.2.2.2.1; exact zf_on; exact zf_o) (by simp) dX0_init_74 ?_
  rw [hm_set]
  refine x_al0 rfl dX0_init_77 ?_
  refine x_al1 rfl dX0_init_78 ?_
  refine x_rg R0.ext fdX0_62 (by decide) (R0.f9) dX0_init_79 ?_
  refine x_callV (as := []) (κ1 := lwK D.2.2.2.2.2.2) (κ2 := 0) (σ1 := lwN D.2.2.2.2.2.2) (σ2 := 0) mX1_asLaw_ok lkX0_53 rfl rfl (Nat.le_of_ble_eq_true rfl) (Nat.le_of_ble_eq_true rfl) dX0_init_82 (R0.ext.dq (Or.inr rfl)).1 (Nat.le_refl _) (Nat.le_refl _) (c_as R0.ext (Or.inr rfl) c7 d9) (fun v h' q => ?_)
  obtain ⟨rfl, f2, rfl, hf2⟩ := q
  rw [List.append_assoc, List.length_append, List.length_cons, lwC_len, show h.length + (lwK D.2.2.2.2.2.1 + 1) = h.length + 1 + lwK D.2.2.2.2.2.1 by omega]
  simp only [List.cons_append]
  refine x_putF fpX0_65 rfl hm_get (by cases D.2.2.2.2.2.2; exact zf_on; exact zf_o) (by simp) dX0_init_85 ?_
  rw [hm_set]
  exact x_vret rfl dX0_init_88 ⟨rfl, f1, f2, rfl, hf1, hf2⟩
theorem c_deskI (a : LC X h0 h r A Q p D li) (hD : zDok D) : Zm g (d + 3) (lwK D.2.2.2.2.2.1 + lwK D.2.2.2.2.2.2) (lwN D.2.2.2.2.2.1 + lwN D.2.2.2.2.2.2) mX0_init [.ref h.length, .ref 2] (h ++ [.inr (0, [.int 0, .int 0, .int 0, .int 0, .int 0, .int 0, .null, .null])]) (rVp (fun h' => ∃ f1 f2, h' = h ++ dkC h.length D li f1 f2 ∧ lwF D.2.2.2.2.2.1 f1 ∧ lwF D.2.2.2.2.2.2 f2)) := by
  obtain ⟨R0, c2, c3, c4, c5, ⟨c6, -⟩, ⟨c7, -⟩, ⟨v2, v3, v4, v5⟩, c9, c10⟩ := id a
  exact c_deskP R0 c6 c7 v2 v3 v4 v5 c9 c10 hD
end ZDk

