/-! one side's call leaves the other side as it was -/
section ZSw
variable {h0 h1 h h' : zH} {dk : zDk} {st : zSt} {un : List zSt} {tp : List Nat} {tr : Nat → zTr} {pi : Nat → zPi} {fl : Nat × Nat} {ln : zLn} {sb sj : zS3} {dr : Int32}
theorem MI.co (I : MI h0 h dk st un tp tr pi fl) (c : Co h h') : MI h' h' dk st un tp tr pi fl := by
  obtain ⟨s, M, L, ⟨w1, w2, w3, w4, w5, w6⟩, J⟩ := I
  refine ⟨s, M, L, ⟨by rw [c.2 59 (by decide) (by decide)]; exact w1, w2, fun i hi => ?_, fun i hi => ?_, by rw [c.2 61 (by decide) (by decide)]; exact w5, Mo.rf⟩, J⟩
  · have := mIs_r hi
    rw [c.2 i (by omega) (by omega)]
    exact w3 i hi
  · have := mIl_r hi
    rw [c.2 i (by omega) (by omega)]
    exact w4 i hi
theorem MW.tg {s : Nat → Value} {M : Nat → Nat → Int32} {L : Nat → Nat → Int64} (W : MW h0 h s M L) {i : Nat} {e : va_E} (h1 : 59 ≤ i) (h2 : i < 83) (he : h[i]? = some e) : z_tg e ≠ 1000 ∧ z_tg e ≠ 1002 := by
  obtain ⟨w1, w2, w3, w4, w5, w6⟩ := W
  have k : ∀ e', h[i]? = some e' → z_tg e' ≠ 1000 ∧ z_tg e' ≠ 1002 → z_tg e ≠ 1000 ∧ z_tg e ≠ 1002 := fun e' z1 z2 => by
    rw [he] at z1
    rw [Option.some.inj z1]
    exact z2
  by_cases z : i = 59
  · subst z; exact k _ w1 ⟨by show 1012 ≠ 1000; decide, by show 1012 ≠ 1002; decide⟩
  · by_cases z1 : i = 61
    · subst z1; exact k _ w5 ⟨by show 3 ≠ 1000; decide, by show 3 ≠ 1002; decide⟩
    · by_cases z2 : mIl i = true
      · exact k _ (w4 i z2) ⟨by show 2 ≠ 1000; decide, by show 2 ≠ 1002; decide⟩
      · have z3 : mIs i = true := by
          have : ∀ j, j < 83 → j < 60 ∨ j = 61 ∨ mIl j = true ∨ mIs j = true := by decide
          rcases this i h2 with y | y | y | y
          · omega
          · exact absurd y z1
          · exact absurd y z2
          · exact y
        exact k _ (w3 i z3) ⟨by show 0 ≠ 1000; decide, by show 0 ≠ 1002; decide⟩
theorem CI.mo {dk' : zDk} {st' : zSt} {un' : List zSt} {tp' : List Nat} {tr' : Nat → zTr} {pi' : Nat → zPi} {fl' : Nat × Nat} (I : CI h0 h dk st un tp tr pi fl ln sb sj dr) (J : MI h1 h dk' st' un' tp' tr' pi' fl') (m : Mo h h') : CI h' h' dk st un tp tr pi fl ln sb sj dr := by
  obtain ⟨Z, rt, ds, ⟨c1, c0, c2⟩, W, J1⟩ := I
  obtain ⟨s, M, L, MWh, -⟩ := J
  refine ⟨Z, rt, ds, ⟨fun i e hz => ?_, Nat.le_trans c0 m.1, Co.rf⟩, W.upd m.1 (fun i hi hl => m.2 i hl (by unfold zRg at hi; omega)) (fun i e ht he => ?_), J1⟩
  · obtain ⟨d1, d2, d3⟩ := c1 i e hz
    exact ⟨m.get d1 (Or.inl d2), d2, d3⟩
  · by_cases z : i < 59 ∨ 83 ≤ i
    · exact m.get he z
    · have := MWh.tg (by omega) (by omega) he
      rcases ht with y | y
      · exact absurd y this.1
      · exact absurd y this.2
/-- what both know of the other's cells -/
theorem MI.mo (I : MI h0 h dk st un tp tr pi fl) : Mo h0 h := by
  obtain ⟨s, M, L, W, -⟩ := I
  exact W.mo
theorem CI.co (I : CI h0 h dk st un tp tr pi fl ln sb sj dr) : Co h0 h := by
  obtain ⟨Z, rt, ds, C, -⟩ := I
  exact C.2.2
end ZSw

