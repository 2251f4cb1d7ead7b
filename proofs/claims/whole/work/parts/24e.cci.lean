/-! the class, as its constructor leaves it -/
def kzZ (i : Nat) : Option va_E := if i < 56 ∧ (i < 15 ∨ 32 ≤ i) then kzA[i]? else none
theorem kz_tg : ∀ i, i < 56 → i < 15 ∨ 32 ≤ i → kzA[i]?.map z_tg ≠ some 1000 ∧ kzA[i]?.map z_tg ≠ some 1002 := by decide +kernel
section ZCe
variable {H h : zH}
theorem K0.cw (a : K0 H) (e : ∀ i, i < 59 → h[i]? = H[i]?) (l : 83 ≤ h.length) : CW h h kzZ := by
  refine ⟨fun i x q => ?_, l, Nat.le_refl _, fun _ _ _ => rfl⟩
  unfold kzZ at q
  split at q
  · next z =>
    obtain ⟨z1, z2⟩ := z
    have t := kz_tg i z1 z2
    rw [q] at t
    refine ⟨?_, by omega, ?_, fun y => t.1 (congrArg some y), fun y => t.2 (congrArg some y)⟩
    · rw [e i (by omega), a.2.1 i (by omega) (by omega) (by omega) (by omega) (by omega)]
      exact q
    · unfold zRg
      omega
  · cases q
theorem K0.ew (a : K0 H) (e : ∀ i, i < 59 → h[i]? = H[i]?) : EWk h (1, 1, 0, 0, none, none) 56 [] (1, 1, false, 10, 10, 1, 1) := by
  obtain ⟨-, a2, ⟨b1, b2, b3, b4, b5, ⟨len, f0, b6, b7⟩, fm, b8⟩, ⟨f16, a4⟩, a5, ⟨kp, a6, a7⟩, ⟨f57, a8⟩, ⟨f58, a9⟩⟩ := a
  have k : ∀ i, i < 57 → i ≠ 15 → i ≠ 16 → i ≠ 20 → i ≠ 23 → h[i]? = kzA[i]? := fun i c1 c2 c3 c4 c5 => (e i (by omega)).trans (a2 i c1 c2 c3 c4 c5)
  have c17 : h[17]? = some kz17 := k 17 (by decide) (by decide) (by decide) (by decide) (by decide)
  have c18 : h[18]? = some kz18 := k 18 (by decide) (by decide) (by decide) (by decide) (by decide)
  have c24 : h[24]? = some kz24 := k 24 (by decide) (by decide) (by decide) (by decide) (by decide)
  have c25 : h[25]? = some kz25 := k 25 (by decide) (by decide) (by decide) (by decide) (by decide)
  have c26 : h[26]? = some kz26 := k 26 (by decide) (by decide) (by decide) (by decide) (by decide)
  have c27 : h[27]? = some kz27 := k 27 (by decide) (by decide) (by decide) (by decide) (by decide)
  have c28 : h[28]? = some kz28 := k 28 (by decide) (by decide) (by decide) (by decide) (by decide)
  have c29 : h[29]? = some kz29 := k 29 (by decide) (by decide) (by decide) (by decide) (by decide)
  have c30 : h[30]? = some kz30 := k 30 (by decide) (by decide) (by decide) (by decide) (by decide)
  have c31 : h[31]? = some kz31 := k 31 (by decide) (by decide) (by decide) (by decide) (by decide)
  have c56 : h[56]? = some kz56 := k 56 (by decide) (by decide) (by decide) (by decide) (by decide)
  rw [← e _ (by decide)] at b5 b6 b8 a4 a5 a6 a8 a9
  have zy : ∀ i ∈ [16, 17, 57, 58, 27, 28, 30, 31], zDy i := by
    intro i hi
    simp only [List.mem_cons, List.mem_nil_iff, or_false] at hi
    unfold zDy zRg
    omega
  have hV : VC h 1 16 17 (nI 0) 56 57 58 20 20 1 none none := ⟨⟨b1, b2, b3, b4, b5, ⟨len, f0, b6, b7⟩, fm, b8⟩, ⟨_, _, _, _, _, _, c56, rfl, rfl⟩, ⟨0, 0, a5⟩, by decide, by decide, ⟨10, f57, 10, f58, kp, a8, a9, a6, by decide, by decide, by decide, by decide, fun c hc => ⟨Or.inl (a7 c hc), fun q => absurd q (by rw [a7 c hc]; decide)⟩⟩, ⟨_, c24⟩, ⟨_, c25⟩, by decide, by decide, by decide, Or.inr ⟨rfl, rfl⟩, Or.inr ⟨rfl, rfl⟩⟩
  refine ⟨[], [], 16, 17, nI 0, 57, 58, 20, 20, 27, 28, 30, 31, hV, ?_⟩
  refine ⟨⟨⟨_, _, _, _, c56, rfl, rfl⟩, Or.inr ⟨rfl, rfl⟩, Or.inr ⟨rfl, rfl⟩, by decide, by decide, by decide, by decide, by decide, by decide⟩, fun q hq => absurd hq (by simp), ⟨f16, a4⟩, ⟨_, c17⟩, ⟨_, c18⟩, Or.inl ⟨rfl, rfl⟩, ⟨f57, a8⟩, ⟨f58, a9⟩, ⟨_, c26⟩, ⟨_, c27⟩, ⟨_, c28⟩, c29, ⟨_, c30⟩, ⟨_, c31⟩, ⟨zy _ (by simp), zy _ (by simp), zy _ (by simp), zy _ (by simp), zy _ (by simp), zy _ (by simp), zy _ (by simp), zy _ (by simp)⟩, ⟨by decide, by decide, by decide, by decide⟩, fun r hr => absurd hr (by simp), fun r hr => Or.inl ?_, by decide, by decide, by decide, by decide⟩
  simp only [List.mem_cons, List.mem_nil_iff, or_false] at hr
  omega
theorem kz_j : CJ kzZ 56 [] (1, 1, 0, 0, none, none) (0, 0, 0) [] [] (fun _ => none) (fun _ => none) (0, 0) (0, 0, 0) (0, 0, 0) 0 := by
  refine ⟨rfl, ⟨rfl, by decide, by decide⟩, rfl, rfl, ⟨by decide, _, rfl, fun i hi => absurd hi (Nat.not_lt_zero i)⟩, ⟨by decide, 0, _, rfl, fun i hi => ?_, fun i hi => ⟨(0, 0, 0), ?_⟩, fun i hi => absurd hi (Nat.not_lt_zero i)⟩, ⟨⟨_, rfl, fun t ht => ?_⟩, fun t ht => ?_⟩, ⟨⟨_, rfl, fun t ht => ?_⟩, fun t ht => ?_⟩, ⟨⟨_, rfl⟩, _, rfl⟩, ⟨_, _, _, _, _, _, _, _, _, _, _, _, 5, rfl, Or.inl rfl, Or.inl rfl, fun q => absurd rfl q, by decide⟩, ⟨_, rfl⟩, ⟨_, rfl⟩, ⟨_, _, _, rfl⟩, ⟨_, rfl⟩, ⟨_, _, _, rfl⟩, ⟨_, rfl⟩⟩
  · match i, hi with | 0, _ => rfl | 1, _ => rfl | 2, _ => rfl | 3, _ => rfl | 4, _ => rfl | 5, _ => rfl | 6, _ => rfl | 7, _ => rfl | 8, _ => rfl | 9, _ => rfl | _ + 10, h9 => exact absurd h9 (by omega)
  · match i, hi with | 0, _ => rfl | 1, _ => rfl | 2, _ => rfl | 3, _ => rfl | 4, _ => rfl | 5, _ => rfl | 6, _ => rfl | 7, _ => rfl | 8, _ => rfl | 9, _ => rfl | _ + 10, h9 => exact absurd h9 (by omega)
  · match t, ht with | 0, _ => rfl | 1, _ => rfl | 2, _ => rfl | 3, _ => rfl | _ + 4, h9 => exact absurd h9 (by omega)
  · match t, ht with | 0, _ => exact ⟨0, fun _ => 0, rfl, rfl⟩ | 1, _ => exact ⟨0, fun _ => 0, rfl, rfl⟩ | 2, _ => exact ⟨0, fun _ => 0, rfl, rfl⟩ | 3, _ => exact ⟨0, fun _ => 0, rfl, rfl⟩ | _ + 4, h9 => exact absurd h9 (by omega)
  · match t, ht with | 0, _ => rfl | 1, _ => rfl | _ + 2, h9 => exact absurd h9 (by omega)
  · match t, ht with | 0, _ => exact ⟨(0, 0, 0), rfl, rfl⟩ | 1, _ => exact ⟨(0, 0, 0), rfl, rfl⟩ | _ + 2, h9 => exact absurd h9 (by omega)
theorem K0.ci (a : K0 H) (e : ∀ i, i < 59 → h[i]? = H[i]?) (l : 83 ≤ h.length) : CI h h (1, 1, 0, 0, none, none) (0, 0, 0) [] [] (fun _ => none) (fun _ => none) (0, 0) (1, 1, false, 10, 10, 1, 1) (0, 0, 0) (0, 0, 0) 0 := ⟨kzZ, 56, [], a.cw e l, a.ew e, kz_j⟩
end ZCe

