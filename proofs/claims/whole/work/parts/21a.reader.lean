/-! the class's reader: its cells -/
def rF (r : Nat → Value) : List Value := (List.range 18).map r
theorem rf_get {r : Nat → Value} {k : Nat} {v : Value} (hk : k < 18) (hv : r k = v) : (rF r)[k]? = some v := by
  unfold rF
  rw [List.getElem?_map, List.getElem?_range hk, ← hv]
  rfl
theorem rf_set {r : Nat → Value} {k : Nat} {v : Value} (hk : k < 18) : (rF r).set k v = rF (va_up r k v) := by
  apply List.ext_getElem?
  intro j
  unfold rF
  rw [List.getElem?_set]
  simp only [List.length_map, List.length_range, List.getElem?_map]
  by_cases hj : k = j
  · subst hj
    simp [hk, List.getElem?_range hk, va_up]
  · rw [if_neg hj]
    cases hr : (List.range 18)[j]? with
    | none => rfl
    | some a =>
      have ha : a = j := by
        obtain ⟨h2, h3⟩ := (List.getElem?_eq_some_iff.mp hr)
        simpa using h3.symm
      subst ha
      simp [va_up, Ne.symm hj]
abbrev drQ (a : Nat) (q : zS3) : va_E := drE a q.1 q.2.1 q.2.2
def rII (k : Nat) : Bool := [0, 1, 2, 3, 4, 5, 11, 12, 13, 14, 15, 16].contains k
def RI (r : Nat → Value) : Prop := ∀ k, rII k = true → ∃ v, r k = .int v
def RW (h0 h : zH) (r : Nat → Value) (A : Nat → Nat → Int32) (Q : Nat → zS3) : Prop := h[2]? = some (.inr (4, rF r)) ∧ (r 6 = .ref 3 ∧ r 7 = .ref 4 ∧ r 8 = .ref 5 ∧ r 9 = .ref 7 ∧ RI r) ∧ h[3]? = some (inA 6 (A 3)) ∧ h[4]? = some (inA 6 (A 4)) ∧ (h[5]? = some (drQ 6 (Q 5)) ∧ h[6]? = some (inA 900 (A 6))) ∧ (h[7]? = some (drQ 8 (Q 7)) ∧ h[8]? = some (inA 900 (A 8))) ∧ h.length = h0.length ∧ ∀ i, (i < 2 ∨ 9 ≤ i) → h[i]? = h0[i]?
section ZRw
variable {h0 h : zH} {r : Nat → Value} {A : Nat → Nat → Int32} {Q : Nat → zS3} {X : zX}
theorem RW.get (R : RW h0 h r A Q) : h[2]? = some (.inr (4, rF r)) := R.1
theorem RW.f6 (R : RW h0 h r A Q) : r 6 = .ref 3 := R.2.1.1
theorem RW.f7 (R : RW h0 h r A Q) : r 7 = .ref 4 := R.2.1.2.1
theorem RW.f8 (R : RW h0 h r A Q) : r 8 = .ref 5 := R.2.1.2.2.1
theorem RW.f9 (R : RW h0 h r A Q) : r 9 = .ref 7 := R.2.1.2.2.2.1
theorem RW.ri (R : RW h0 h r A Q) : RI r := R.2.1.2.2.2.2
theorem RW.sr {k : Nat} {v : Value} (R : RW h0 h r A Q) (hk : k < 18) (hx : k < 6 ∨ 10 ≤ k) (hy : rII k = true → ∃ x, v = .int x) : RW h0 (h.set 2 (.inr (4, (rF r).set k v))) (va_up r k v) A Q := by
  obtain ⟨r1, ⟨r2, r3, r4, r5, r55⟩, r6, r7, ⟨r8, r9⟩, ⟨r10, r11⟩, r12, r13⟩ := R
  refine ⟨by rw [rf_set hk]; exact hs_eq r1, ⟨?_, ?_, ?_, ?_, ?_⟩, by rw [hs_ne (by decide)]; exact r6, by rw [hs_ne (by decide)]; exact r7, ⟨by rw [hs_ne (by decide)]; exact r8, by rw [hs_ne (by decide)]; exact r9⟩, ⟨by rw [hs_ne (by decide)]; exact r10, by rw [hs_ne (by decide)]; exact r11⟩, by rw [List.length_set]; exact r12, fun i hi => by rw [hs_ne (by omega)]; exact r13 i hi⟩
  · rw [va_up_ne _ _ (by omega)]; exact r2
  · rw [va_up_ne _ _ (by omega)]; exact r3
  · rw [va_up_ne _ _ (by omega)]; exact r4
  · rw [va_up_ne _ _ (by omega)]; exact r5
  · intro j hj
    by_cases z : j = k
    · rw [z, va_up_self]
      rw [z] at hj
      exact hy hj
    · rw [va_up_ne _ _ z]
      exact r55 j hj
theorem RW.s3 {f : Nat → Int32} (R : RW h0 h r A Q) : RW h0 (h.set 3 (inA 6 f)) r (upM A 3 f) Q := by
  obtain ⟨r1, rr, r6, r7, ⟨r8, r9⟩, ⟨r10, r11⟩, r12, r13⟩ := R
  exact ⟨by rw [hs_ne (by decide)]; exact r1, rr, hs_eq r6, by rw [hs_ne (by decide)]; exact r7, ⟨by rw [hs_ne (by decide)]; exact r8, by rw [hs_ne (by decide)]; exact r9⟩, ⟨by rw [hs_ne (by decide)]; exact r10, by rw [hs_ne (by decide)]; exact r11⟩, by rw [List.length_set]; exact r12, fun i hi => by rw [hs_ne (by omega)]; exact r13 i hi⟩
theorem RW.s4 {f : Nat → Int32} (R : RW h0 h r A Q) : RW h0 (h.set 4 (inA 6 f)) r (upM A 4 f) Q := by
  obtain ⟨r1, rr, r6, r7, ⟨r8, r9⟩, ⟨r10, r11⟩, r12, r13⟩ := R
  exact ⟨by rw [hs_ne (by decide)]; exact r1, rr, by rw [hs_ne (by decide)]; exact r6, hs_eq r7, ⟨by rw [hs_ne (by decide)]; exact r8, by rw [hs_ne (by decide)]; exact r9⟩, ⟨by rw [hs_ne (by decide)]; exact r10, by rw [hs_ne (by decide)]; exact r11⟩, by rw [List.length_set]; exact r12, fun i hi => by rw [hs_ne (by omega)]; exact r13 i hi⟩
theorem RW.dq {i : Nat} (R : RW h0 h r A Q) (hi : i = 5 ∨ i = 7) : h[i]? = some (drQ (i + 1) (Q i)) ∧ h[i + 1]? = some (inA 900 (A (i + 1))) := by
  rcases hi with rfl | rfl
  · exact R.2.2.2.2.1
  · exact R.2.2.2.2.2.1
theorem RW.sq {i : Nat} {q : zS3} (R : RW h0 h r A Q) (hi : i = 5 ∨ i = 7) : RW h0 (h.set i (drQ (i + 1) q)) r A (upM Q i q) := by
  obtain ⟨r1, rr, r6, r7, ⟨r8, r9⟩, ⟨r10, r11⟩, r12, r13⟩ := R
  rcases hi with rfl | rfl
  · exact ⟨by rw [hs_ne (by decide)]; exact r1, rr, by rw [hs_ne (by decide)]; exact r6, by rw [hs_ne (by decide)]; exact r7, ⟨hs_eq r8, by rw [hs_ne (by decide)]; exact r9⟩, ⟨by rw [hs_ne (by decide)]; exact r10, by rw [hs_ne (by decide)]; exact r11⟩, by rw [List.length_set]; exact r12, fun i hi => by rw [hs_ne (by omega)]; exact r13 i hi⟩
  · exact ⟨by rw [hs_ne (by decide)]; exact r1, rr, by rw [hs_ne (by decide)]; exact r6, by rw [hs_ne (by decide)]; exact r7, ⟨by rw [hs_ne (by decide)]; exact r8, by rw [hs_ne (by decide)]; exact r9⟩, ⟨hs_eq r10, by rw [hs_ne (by decide)]; exact r11⟩, by rw [List.length_set]; exact r12, fun i hi => by rw [hs_ne (by omega)]; exact r13 i hi⟩
theorem RW.sa {i : Nat} {f : Nat → Int32} (R : RW h0 h r A Q) (hi : i = 5 ∨ i = 7) : RW h0 (h.set (i + 1) (inA 900 f)) r (upM A (i + 1) f) Q := by
  obtain ⟨r1, rr, r6, r7, ⟨r8, r9⟩, ⟨r10, r11⟩, r12, r13⟩ := R
  rcases hi with rfl | rfl
  · exact ⟨by rw [hs_ne (by decide)]; exact r1, rr, by rw [hs_ne (by decide)]; exact r6, by rw [hs_ne (by decide)]; exact r7, ⟨by rw [hs_ne (by decide)]; exact r8, hs_eq r9⟩, ⟨by rw [hs_ne (by decide)]; exact r10, by rw [hs_ne (by decide)]; exact r11⟩, by rw [List.length_set]; exact r12, fun i hi => by rw [hs_ne (by omega)]; exact r13 i hi⟩
  · exact ⟨by rw [hs_ne (by decide)]; exact r1, rr, by rw [hs_ne (by decide)]; exact r6, by rw [hs_ne (by decide)]; exact r7, ⟨by rw [hs_ne (by decide)]; exact r8, by rw [hs_ne (by decide)]; exact r9⟩, ⟨by rw [hs_ne (by decide)]; exact r10, hs_eq r11⟩, by rw [List.length_set]; exact r12, fun i hi => by rw [hs_ne (by omega)]; exact r13 i hi⟩
variable {g : zG} {d κ σ : Nat} {m : zMe} {pc : Nat} {ls : zL} {st : List Value} {P : Option Value → zH → Prop}
theorem x_rg {n k : Nat} {ty : FieldType} {fin : Bool} {v : Value} (R : RW h0 h r A Q) (hf : zFd m.1.cls n 4 k ty fin) (hk : k < 18) (hv : r k = v) (hd : decode m.2.1 pc = .ok (.getfield n, 3)) (kk : Zw g d κ σ m (pc + 3) ls (v :: st) h P) : Zw g d κ σ m pc ls (.ref 2 :: st) h P := x_get hf R.1 (rf_get hk hv) hd kk
theorem x_rp {n k : Nat} {ty : FieldType} {v : Value} (R : RW h0 h r A Q) (hf : zFd m.1.cls n 4 k ty false) (hk : k < 18) (hx : k < 6 ∨ 10 ≤ k) (hy : rII k = true → ∃ x, v = .int x) (hz : z_fit ty v) (hd : decode m.2.1 pc = .ok (.putfield n, 3)) (kk : ∀ h, RW h0 h (va_up r k v) A Q → Zw g d κ σ m (pc + 3) ls st h P) : Zw g d κ σ m pc ls (v :: .ref 2 :: st) h P := x_put hf R.1 hz (by simp [rF]; omega) hd (kk _ (R.sr hk hx hy))
/-- the text lies on the tape -/
def CX (X : zX) (h0 : zH) (r : Nat → Value) : Prop := r 10 = .ref 1 ∧ r 11 = .int (nI X.2) ∧ X.2 ≤ 900 ∧ ∃ F, h0[1]? = some (.inl (1, 900, .inl F)) ∧ ∀ i, i < X.2 → F i = bsg (X.1 i) ∧ X.1 i < 256
theorem x_txt {k : Nat} (R : RW h0 h r A Q) (T : CX X h0 r) (hk : k < X.2) (hd : decode m.2.1 pc = .ok (.baload, 1)) (kk : Zw g d κ σ m (pc + 1) ls (.int (bsg (X.1 k)) :: st) h P) : Zw g d κ σ m pc ls (.int (nI k) :: .ref 1 :: st) h P := by
  obtain ⟨t1, t2, t3, F, t4, t5⟩ := T
  exact x_bald ((R.2.2.2.2.2.2.2 1 (Or.inl (by decide))).trans t4) (vp_in_nI (by omega) (by decide)) (ald (t5 k hk).1 (by omega)) hd kk
end ZRw
theorem bsg_v : ∀ b, b < 256 → (bsg b).toInt = (if b < 128 then (b : Int) else (b : Int) - 256) ∧ (bsg b &&& nI 255) = nI b := by decide +kernel
theorem bsg_e {b c : Nat} (hb : b < 256) (hc : c < 128) : bsg b = nI c ↔ b = c := by
  have := (bsg_v b hb).1
  constructor
  · intro z
    rw [z, nI_toInt (by omega)] at this
    split at this <;> omega
  · intro z
    apply Int32.toInt_inj.mp
    rw [this, if_pos (by omega), nI_toInt (by omega), z]
theorem bsg_i {b lo hi : Nat} (hb : b < 256) (h1 : 0 < lo) (h2 : hi < 128) : ((lo : Int) ≤ (bsg b).toInt ∧ (bsg b).toInt ≤ (hi : Int)) ↔ (lo ≤ b ∧ b ≤ hi) := by
  rw [(bsg_v b hb).1]
  split <;> omega

