/-! room of desk and restore; both sides at once -/
section ZRo2
variable {h0 h h1 h' : zH} {dk : zDk} {st : zSt} {un : List zSt} {tp : List Nat} {tr : Nat → zTr} {pi : Nat → zPi} {fl : Nat × Nat} {ln : zLn} {sb sj : zS3} {dr : Int32} {x : Int32}
theorem phi_desk (I : CI h0 h dk st un tp tr pi fl ln sb sj dr) : K_desk dk tp ln x + Phi (L_desk dk tp ln x) ≤ Phi ln + 3610 := by
  obtain ⟨Z, rt, ds, C, W, J⟩ := I
  have t9 := J.2.2.2.2.1.1
  unfold K_desk L_desk
  by_cases hx : inR tp x
  · rw [if_pos hx, if_pos hx]
    have hX : (zTx tp (tn x)).2 ≤ 900 := by
      have h2 : tn x < tp.length + 1 := (oneOf_n (n := tp.length + 1) ⟨hx.1, by have := hx.2; omega⟩).1
      show tn x ≤ 900
      omega
    have o := fDk_o hX
    cases e : fDk (zTx tp (tn x)) with
    | inl q =>
      simp only
      omega
    | inr q =>
      rw [e] at o
      simp only at o ⊢
      obtain ⟨⟨o1, o2, o3, o4, -⟩, -⟩ := o
      have := phi_D (dk := dk) (q := dkOf q) (ln := ln) o1 o2 o3 o4
      omega
  · rw [if_neg hx, if_neg hx]
    omega
theorem phi_rest (I : CI h0 h dk st un tp tr pi fl ln sb sj dr) : C_restore dk pi ln x + Phi (L_restore dk pi ln x) ≤ Phi ln := by
  obtain ⟨Z, rt, ds, C, ⟨av, stk, rn, rs, sw, rmv, rmk, rkn, rks, wst, wqu, wwe, wla, hV, E⟩, J⟩ := I
  have p9 := J.2.2.2.2.2.2.2.1
  unfold C_restore L_restore
  by_cases hx : oneOf x 2
  · rw [if_pos hx, if_pos hx]
    have t2 := (oneOf_n hx).1
    have z := p9.2 _ t2
    cases e : pi (tn x) with
    | none =>
      simp only
      omega
    | some q =>
      rw [e] at z
      obtain ⟨r, -, z2, -⟩ := z
      obtain ⟨a, b, D⟩ := E.2.1 _ z2
      obtain ⟨-, -, -, o1, o2, o3, o4, -⟩ := D
      simp only
      exact phi_D (dk := dk) (q := q.1) (ln := ln) o1 o2 o3 o4
  · rw [if_neg hx, if_neg hx]
    omega
/-- both sides in one state -/
def BI (h : zH) (ln : zLn) : Prop := ∃ h0 h1 dk st un tp tr pi fl sb sj dr, MI h0 h dk st un tp tr pi fl ∧ CI h1 h dk st un tp tr pi fl ln sb sj dr
theorem K0.bi {H : zH} (a : K0 H) (e : ∀ i, i < 59 → h[i]? = H[i]?) (l : 83 ≤ h.length) (J : MI h1 h (1, 1, 0, 0, none, none) (0, 0, 0) [] [] (fun _ => none) (fun _ => none) (0, 0)) : BI h (1, 1, false, 10, 10, 1, 1) := ⟨_, _, _, _, _, _, _, _, _, _, _, _, J, a.ci e l⟩
end ZRo2

