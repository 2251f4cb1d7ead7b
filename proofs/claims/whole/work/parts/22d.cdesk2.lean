/-! the class's desk -/
def dkOf (q : Nat × zDd) : zDk := (q.2.1, q.2.2.1, rnk q.2.1 q.2.2.2.2.1, q.1, q.2.2.2.2.2.2.1, q.2.2.2.2.2.2.2)
def L_desk (dk : zDk) (tp : List Nat) (ln : zLn) (x : Int32) : zLn := if inR tp x then (match fDk (zTx tp (tn x)) with
  | .inl _ => ln
  | .inr q => pD dk (dkOf q) ln) else ln
def K_desk (dk : zDk) (tp : List Nat) (ln : zLn) (x : Int32) : Nat := if inR tp x then (match fDk (zTx tp (tn x)) with
  | .inl _ => 0
  | .inr q => 3610 + sD dk (dkOf q) ln) else 0
def rdZ (r : Nat → Value) (A : Nat → Nat → Int32) (Q : Nat → zS3) (Z : Nat → Option va_E) (i : Nat) : Option va_E := if i = 2 then some (.inr (4, rF r)) else if i = 3 then some (inA 6 (A 3)) else if i = 4 then some (inA 6 (A 4)) else if i = 5 then some (drQ 6 (Q 5)) else if i = 6 then some (inA 900 (A 6)) else if i = 7 then some (drQ 8 (Q 7)) else if i = 8 then some (inA 900 (A 8)) else Z i
section ZKd
variable {g : zG} {d : Nat} {h0 h h1 h' : zH} {r r' : Nat → Value} {A A' : Nat → Nat → Int32} {Q Q' : Nat → zS3} {Z Z' : Nat → Option va_E} {rt : Nat} {ds : List (Nat × zDk)} {dk : zDk} {st : zSt} {un : List zSt} {tp : List Nat} {tr : Nat → zTr} {pi : Nat → zPi} {fl : Nat × Nat} {ln : zLn} {sb sj : zS3} {dr : Int32} {fl' : Nat × Nat}
theorem rdZ_o {i : Nat} (hi : i < 2 ∨ 9 ≤ i) : rdZ r A Q Z i = Z i := by
  unfold rdZ
  rw [if_neg (by omega), if_neg (by omega), if_neg (by omega), if_neg (by omega), if_neg (by omega), if_neg (by omega), if_neg (by omega)]
theorem RJ.al (a : RJ Z fl) : ∀ i, 2 ≤ i → i < 9 → ∃ e, Z i = some e := by
  obtain ⟨⟨pl, dw, op, cu, li, tx, le, hd, tk, st, va, de, dr, a1, -⟩, ⟨f3, a3⟩, ⟨f4, a4⟩, ⟨l5, he5, hi5, a5⟩, ⟨f6, a6⟩, ⟨l7, he7, hi7, a7⟩, ⟨f8, a8⟩⟩ := a
  intro i h2 h9
  have : i = 2 ∨ i = 3 ∨ i = 4 ∨ i = 5 ∨ i = 6 ∨ i = 7 ∨ i = 8 := by omega
  rcases this with rfl | rfl | rfl | rfl | rfl | rfl | rfl
  · exact ⟨_, a1⟩
  · exact ⟨_, a3⟩
  · exact ⟨_, a4⟩
  · exact ⟨_, a5⟩
  · exact ⟨_, a6⟩
  · exact ⟨_, a7⟩
  · exact ⟨_, a8⟩
theorem CW.rw (C : CW h0 h Z) (a : RJ Z fl) : ∃ r A Q, RW h h r A Q ∧ (r 17 = .ref 5 ∨ r 17 = .ref 7) := by
  obtain ⟨⟨pl, dw, op, cu, li, tx, le, hd, tk, st, va, de, dr, a1, -, adr, -⟩, ⟨f3, a3⟩, ⟨f4, a4⟩, ⟨l5, he5, hi5, a5⟩, ⟨f6, a6⟩, ⟨l7, he7, hi7, a7⟩, ⟨f8, a8⟩⟩ := a
  refine ⟨fun k => ([.int (nI fl.1), .int pl, .int dw, .int op, .int cu, .int li, .ref 3, .ref 4, .ref 5, .ref 7, tx, .int le, .int hd, .int tk, .int st, .int va, .int de, .ref dr] : List Value).getD k .null, upM (upM (upM (upM (fun _ _ => 0) 3 f3) 4 f4) 6 f6) 8 f8, upM (upM (fun _ => (0, 0, 0)) 5 (l5, he5, hi5)) 7 (l7, he7, hi7), ⟨C.get a1, ⟨rfl, rfl, rfl, rfl, fun k hk => ?_⟩, C.get a3, C.get a4, ⟨C.get a5, C.get a6⟩, ⟨C.get a7, C.get a8⟩, rfl, fun _ _ => rfl⟩, ?_⟩
  · simp only [rII, List.contains_eq_mem, List.mem_cons, List.not_mem_nil, or_false, decide_eq_true_eq] at hk
    rcases hk with rfl | rfl | rfl | rfl | rfl | rfl | rfl | rfl | rfl | rfl | rfl | rfl <;> exact ⟨_, rfl⟩
  · rcases adr with z | z
    · exact Or.inl (by rw [z]; rfl)
    · exact Or.inr (by rw [z]; rfl)
/-- after a reading the class's world stands, with another reader -/
theorem CW.rd (C : CW h0 h1 Z) (W : EWk h1 dk rt ds ln) (a : RJ Z fl) (R : RW h1 h' r A Q) : CW h0 h' (rdZ r A Q Z) ∧ EWk h' dk rt ds ln := by
  obtain ⟨c1, c0, c2, c3⟩ := C
  obtain ⟨r1, rr, r6, r7, ⟨r8, r9⟩, ⟨r10, r11⟩, r12, r13⟩ := R
  have al := a.al
  refine ⟨⟨fun i e hz => ?_, by rw [r12]; exact c0, by rw [r12]; exact c2, fun i a b => by rw [r13 i (by omega)]; exact c3 i a b⟩, W.upd (by rw [r12]; exact Nat.le_refl _) (fun i hi _ => r13 i (by unfold zRg at hi; omega)) (fun i e ht hi => ?_)⟩
  · by_cases z : i < 2 ∨ 9 ≤ i
    · rw [rdZ_o z] at hz
      rw [r13 i z]
      exact c1 i e hz
    · have nz : ¬ zRg i := by unfold zRg; omega
      have : i = 2 ∨ i = 3 ∨ i = 4 ∨ i = 5 ∨ i = 6 ∨ i = 7 ∨ i = 8 := by omega
      rcases this with rfl | rfl | rfl | rfl | rfl | rfl | rfl <;> (obtain rfl := Option.some.inj hz)
      · exact ⟨r1, by decide, nz, by show 1004 ≠ 1000; decide, by show 1004 ≠ 1002; decide⟩
      · exact ⟨r6, by decide, nz, by show 0 ≠ 1000; decide, by show 0 ≠ 1002; decide⟩
      · exact ⟨r7, by decide, nz, by show 0 ≠ 1000; decide, by show 0 ≠ 1002; decide⟩
      · exact ⟨r8, by decide, nz, by show 1001 ≠ 1000; decide, by show 1001 ≠ 1002; decide⟩
      · exact ⟨r9, by decide, nz, by show 0 ≠ 1000; decide, by show 0 ≠ 1002; decide⟩
      · exact ⟨r10, by decide, nz, by show 1001 ≠ 1000; decide, by show 1001 ≠ 1002; decide⟩
      · exact ⟨r11, by decide, nz, by show 0 ≠ 1000; decide, by show 0 ≠ 1002; decide⟩
  · by_cases z : i < 2 ∨ 9 ≤ i
    · rw [r13 i z]; exact hi
    · obtain ⟨e0, he⟩ := al i (by omega) (by omega)
      obtain ⟨k1, k2, k3, k4, k5⟩ := c1 i e0 he
      rw [hi] at k1
      obtain rfl := Option.some.inj k1
      rcases ht with y | y
      · exact absurd y k4
      · exact absurd y k5
theorem CJ.rd (J : CJ Z rt ds dk st un tp tr pi fl sb sj dr) (R : RW h1 h' r A Q) (f0 : r 0 = .int (nI fl'.1)) (f1 : fl'.1 ≠ 0 → r 1 = .int (nI fl'.2)) (f5 : fl'.1 < 5) (f10 : r 10 = .ref 1) (f17 : r 17 = .ref 5 ∨ r 17 = .ref 7) : CJ (rdZ r A Q Z) rt ds dk st un tp tr pi fl' sb sj dr := by
  obtain ⟨a1, a2, a3, a4, a5, a6, a7, a8, a9, a10⟩ := J
  have o : ∀ i, i < 2 ∨ 9 ≤ i → rdZ r A Q Z i = Z i := fun i hi => rdZ_o hi
  obtain ⟨x1, w1⟩ := R.ri 1 rfl
  obtain ⟨x2, w2⟩ := R.ri 2 rfl
  obtain ⟨x3, w3⟩ := R.ri 3 rfl
  obtain ⟨x4, w4⟩ := R.ri 4 rfl
  obtain ⟨x5, w5⟩ := R.ri 5 rfl
  obtain ⟨x11, w11⟩ := R.ri 11 rfl
  obtain ⟨x12, w12⟩ := R.ri 12 rfl
  obtain ⟨x13, w13⟩ := R.ri 13 rfl
  obtain ⟨x14, w14⟩ := R.ri 14 rfl
  obtain ⟨x15, w15⟩ := R.ri 15 rfl
  obtain ⟨x16, w16⟩ := R.ri 16 rfl
  obtain ⟨dr9, w17, hdr⟩ : ∃ dr, r 17 = .ref dr ∧ (dr = 5 ∨ dr = 7) := by
    rcases f17 with z | z
    · exact ⟨5, z, Or.inl rfl⟩
    · exact ⟨7, z, Or.inr rfl⟩
  have e : rF r = [.int (nI fl'.1), .int x1, .int x2, .int x3, .int x4, .int x5, .ref 3, .ref 4, .ref 5, .ref 7, .ref 1, .int x11, .int x12, .int x13, .int x14, .int x15, .int x16, .ref dr9] := by
    rw [show rF r = [r 0, r 1, r 2, r 3, r 4, r 5, r 6, r 7, r 8, r 9, r 10, r 11, r 12, r 13, r 14, r 15, r 16, r 17] from rfl, f0, w1, w2, w3, w4, w5, R.f6, R.f7, R.f8, R.f9, f10, w11, w12, w13, w14, w15, w16, w17]
  refine ⟨(o 0 (by decide)).trans a1, ⟨(o 9 (by decide)).trans a2.1, a2.2⟩, (o 10 (by decide)).trans a3, (o 11 (by decide)).trans a4, a5.c (o 1 (by decide)), a6.c (o 12 (by decide)) (fun i _ _ => o i (by omega)), a7.c (o 13 (by decide)) (fun i _ _ => o i (by omega)), a8.c (o 14 (by decide)) (fun i _ _ => o i (by omega)), a9.c (o 32 (by decide)) (o 33 (by decide)), ⟨x1, x2, x3, x4, x5, .ref 1, x11, x12, x13, x14, x15, x16, dr9, ?_, Or.inr rfl, hdr, fun z => ?_, f5⟩, ⟨_, rfl⟩, ⟨_, rfl⟩, ⟨_, _, _, rfl⟩, ⟨_, rfl⟩, ⟨_, _, _, rfl⟩, ⟨_, rfl⟩⟩
  · show some (Sum.inr (4, rF r)) = _
    rw [e]
  · have := f1 z
    rw [w1] at this
    exact Value.int.inj this
theorem CJ.tp0 (J : CJ Z rt ds dk st un tp tr pi fl sb sj dr) : CJ (upM Z 0 (some (xE (nI 0) rt (nI un.length) dr))) rt ds dk st un [] tr pi fl sb sj dr := by
  obtain ⟨a1, a2, a3, a4, ⟨-, f, a5, -⟩, a6, a7, a8, a9, a10⟩ := J
  exact ⟨upM_eq, a2, a3, a4, ⟨Nat.zero_le _, f, a5, fun i hi => absurd hi (Nat.not_lt_zero _)⟩, a6.c rfl (fun i _ _ => upM_o (by omega)), a7.c rfl (fun i _ _ => upM_o (by omega)), a8.c rfl (fun i _ _ => upM_o (by omega)), a9, a10.c (fun i _ _ => upM_o (by omega))⟩
theorem hgt_le {cs : List Nat} (h : cs.length < 900) : hgt cs ≤ 900 := by
  have := dft_b (cs := cs)
  unfold hgt
  omega
theorem lwN_le {b : Bool} {c : Option (List Nat)} (h : LwK b c) : lwN c ≤ 1801 ∧ lwK c ≤ 3 := by
  cases c with
  | none => exact ⟨Nat.zero_le _, Nat.zero_le _⟩
  | some cs =>
    have := hgt_le h.2
    have h2 := h.2
    refine ⟨?_, Nat.le_refl 3⟩
    show cs.length + 2 + hgt cs ≤ 1801
    omega
end ZKd

