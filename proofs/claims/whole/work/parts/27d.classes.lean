/-! the entry's classes -/
section ZEn
variable {s : State} {args : Array Value}
theorem e_nw (hts : ∀ w ∈ lw_tbl, w.before args s = true) : ∀ w ∈ zNw, va_Nw w s := fun w hw => va_Nw.of (nest_on w hw) (hts w (zNw_in w hw))
theorem e_cl (hts : ∀ w ∈ lw_tbl, w.before args s = true) : ∃ (dC : Nat → ClassId) (dI : Nat → Nat → Nat), ∀ (k : Nat) (q : vw_C), vwCl[k]? = some q → u_Kn s q.1 q.2.1 q.2.2 (dC k) (dI k) := by
  have H : ∀ k : Nat, ∃ (cC : ClassId) (iS : Nat → Nat), ∀ q : vw_C, vwCl[k]? = some q → u_Kn s q.1 q.2.1 q.2.2 cC iS := by
    intro k
    match k with
    | 0 => obtain ⟨a, b, z⟩ := e_kn hts inX0 kiX0; exact ⟨a, b, fun q hq => by cases hq; exact z⟩
    | 1 => obtain ⟨a, b, z⟩ := e_kn hts inX1 kiX1; exact ⟨a, b, fun q hq => by cases hq; exact z⟩
    | 2 => obtain ⟨a, b, z⟩ := e_kn hts inX2 kiX2; exact ⟨a, b, fun q hq => by cases hq; exact z⟩
    | 3 => obtain ⟨a, b, z⟩ := e_kn hts inX3 kiX3; exact ⟨a, b, fun q hq => by cases hq; exact z⟩
    | 4 => obtain ⟨a, b, z⟩ := e_kn hts inX4 kiX4; exact ⟨a, b, fun q hq => by cases hq; exact z⟩
    | 5 => obtain ⟨a, b, z⟩ := e_kn hts inX5 kiX5; exact ⟨a, b, fun q hq => by cases hq; exact z⟩
    | 6 => obtain ⟨a, b, z⟩ := e_kn hts inX6 kiX6; exact ⟨a, b, fun q hq => by cases hq; exact z⟩
    | 7 => obtain ⟨a, b, z⟩ := e_kn hts inX7 kiX7; exact ⟨a, b, fun q hq => by cases hq; exact z⟩
    | 8 => obtain ⟨a, b, z⟩ := e_kn hts inX8 kiX8; exact ⟨a, b, fun q hq => by cases hq; exact z⟩
    | 9 => obtain ⟨a, b, z⟩ := e_kn hts inX9 kiX9; exact ⟨a, b, fun q hq => by cases hq; exact z⟩
    | 10 => obtain ⟨a, b, z⟩ := e_kn hts inX10 kiX10; exact ⟨a, b, fun q hq => by cases hq; exact z⟩
    | 11 => obtain ⟨a, b, z⟩ := e_kn hts inX11 kiX11; exact ⟨a, b, fun q hq => by cases hq; exact z⟩
    | 12 => obtain ⟨a, b, z⟩ := e_kn hts inX12 kiX12; exact ⟨a, b, fun q hq => by cases hq; exact z⟩
    | n + 13 => obtain ⟨a, b, z⟩ := e_kn hts inX0 kiX0; exact ⟨a, b, fun q hq => by cases hq⟩
  exact ⟨fun k => (H k).choose, fun k => (H k).choose_spec.choose, fun k q hq => (H k).choose_spec.choose_spec q hq⟩
end ZEn

