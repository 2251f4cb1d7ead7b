/-! the class's sitAt -/
def pD (dk q : zDk) (ln : zLn) : zLn := (if q.1 = dk.1 then ln.1 else max ln.1 (q.1 * fct q.1), ln.2.1, if q.1 = dk.1 then ln.2.2.1 else false, max ln.2.2.2.1 (10 * (q.1 * q.1 * q.1 * q.2.1)), max ln.2.2.2.2.1 (10 * fct q.1), ln.2.2.2.2.2.1, ln.2.2.2.2.2.2)
def sD (dk q : zDk) (ln : zLn) : Nat := (if q.1 = dk.1 then 0 else grw ln.1 (q.1 * fct q.1)) + (grw ln.2.2.2.1 (10 * (q.1 * q.1 * q.1 * q.2.1)) + grw ln.2.2.2.2.1 (10 * fct q.1))
section ZSa
variable {g : zG} {d : Nat} {h0 h : zH} {Z : Nat → Option va_E} {dk q : zDk} {rt r : Nat} {ds : List (Nat × zDk)} {ln : zLn} {tl ud dr : Int32}
theorem e_sitAt (C : CW h0 h Z) (W : EWk h dk rt ds ln) (hz : Z 0 = some (xE tl rt ud dr)) (hq : (r, q) ∈ ds) : Zm g (d + 4) 3 (sD dk q ln) mX11_sitAt [.ref 0, .ref r] h (rVp (fun h' => CW h0 h' (upM Z 0 (some (xE tl r ud dr))) ∧ EWk h' q r ds (pD dk q ln) ∧ ∀ (i : Nat) (e : va_E), z_tg e = 1000 → h[i]? = some e → h'[i]? = some e)) := by
  have hx := C.get hz
  show Zw g (d + 4) 3 (sD dk q ln) mX11_sitAt 0 [some (.ref 0), some (.ref r)] [] h _
  refine x_al0 rfl dX11_sitAt_0 ?_
  refine x_al1 rfl dX11_sitAt_1 ?_
  refine x_put fdX11_106 hx (by first | exact zf_o | exact zf_on) (by simp) dX11_sitAt_2 ?_
  show Zw g (d + 4) 3 (sD dk q ln) mX11_sitAt 5 [some (.ref 0), some (.ref r)] [] (h.set 0 (xE tl r ud dr)) _
  have W1 : EWk (h.set 0 (xE tl r ud dr)) dk rt ds ln := EW.set W C hz
  have C1 := C.set (e := xE tl r ud dr) hz rfl
  have keep0 : ∀ (i : Nat) (e : va_E), z_tg e = 1000 → h[i]? = some e → (h.set 0 (xE tl r ud dr))[i]? = some e := fun i e t p => hs_t hx p (by rw [t]; exact show 1011 ≠ 1000 by decide)
  generalize h.set 0 (xE tl r ud dr) = h at W1 C1 keep0 ⊢
  have hx : h[0]? = some (xE tl r ud dr) := C1.get upM_eq
  have h83 := C1.2.1
  obtain ⟨av, stk, rn, rs, sw, rmv, rmk, rkn, rks, wst, wqu, wwe, wla, hV, E⟩ := id W1
  obtain ⟨-, e2, ⟨f3, e3⟩, ⟨f4, e4⟩, ⟨f5, e5⟩, e6, ⟨f7, e7⟩, ⟨f8, e8⟩, -, -, -, -, -, -, ⟨y1, y2, y3, y4, -⟩, -, -, -, e19⟩ := id E
  obtain ⟨-, -, ⟨len0, fr0, a5⟩, -, -, ⟨lm, fm, lk, fk, kp, b1, b2, b3, -, bl1, -, bl2, -⟩, -, -, n1, n2, n3, -⟩ := id hV
  have hR := hV.1.2.2.2.2.1
  obtain ⟨fm19, e19c⟩ := hV.1.2.2.2.2.2.2
  obtain ⟨ra, rb, D0⟩ := e2 _ hq
  obtain ⟨⟨fc, fr2, vn, vs, c1, -⟩, -, -, z1, z2, z3, z4, -⟩ := id D0
  have l4 : ln.2.2.2.1 < 2 ^ 31 := by rw [e7] at b1; cases b1; exact bl1
  have l5 : ln.2.2.2.2.1 < 2 ^ 31 := by rw [e8] at b2; cases b2; exact bl2
  refine x_al0 rfl dX11_sitAt_5 ?_
  refine x_get fdX11_62 hx rfl dX11_sitAt_6 ?_
  refine x_al1 rfl dX11_sitAt_9 ?_
  refine x_get fdX11_143 c1 rfl dX11_sitAt_10 ?_
  refine x_cv1Vr (κ1 := 1) (κ2 := 2) (σ1 := if q.1 = dk.1 then 0 else grw ln.1 (q.1 * fct q.1)) (σ2 := grw ln.2.2.2.1 (10 * (q.1 * q.1 * q.1 * q.2.1)) + grw ln.2.2.2.2.1 (10 * fct q.1)) (P := fun h1 => ∃ rn' sw' f1, RT h1 q.1 rn' rs sw' ∧ ((sw' = nI 0 ∧ (pD dk q ln).2.2.1 = false) ∨ (sw' = nI 1 ∧ SwO h1 q.1 rs ∧ (pD dk q ln).2.2.1 = true)) ∧ Fr [15, rn] h h1 ∧ h1[rn']? = some (.inl (1, (pD dk q ln).1, .inl f1)) ∧ (rn' = rn ∨ rn' = h.length)) mX5_hold_ok lkX11_146 rfl (Nat.le_of_ble_eq_true rfl) (Nat.le_of_ble_eq_true rfl) dX11_sitAt_13 hR (by decide) (Nat.le_refl _) ?_ (fun h1 hq1 => ?_)
  · by_cases en : q.1 = dk.1
    · have ch := c_hold_same (g := g) (d := d) hR
      rw [← en] at ch
      refine Zw.room (Zm.mono ch (fun v h' z => ?_)) (Nat.zero_le _) (Nat.zero_le _)
      obtain ⟨rfl, rfl⟩ := z
      refine ⟨rfl, rn, sw, f3, by rw [en]; exact hV.1, ?_, Fr.rf, by rw [show (pD dk q ln).1 = ln.1 from if_pos en]; exact e3, Or.inl rfl⟩
      rw [show (pD dk q ln).2.2.1 = ln.2.2.1 from if_pos en, en]
      exact e6
    · rw [if_neg en]
      refine Zm.mono (c_hold hR e3 e19.1 e19c (Ne.symm en) z1 z2 hV.1.2.1) (fun v h' z => ?_)
      obtain ⟨rfl, rn', t1, t2, ⟨f', t3⟩, t4, -⟩ := z
      exact ⟨rfl, rn', nI 0, f', t1, Or.inl ⟨rfl, if_neg en⟩, t2, by rw [show (pD dk q ln).1 = max ln.1 (q.1 * fct q.1) from if_neg en]; exact t3, t4⟩
  obtain ⟨rn', sw', f1, t1, t2, t3, t4, t5⟩ := hq1
  have ne : ∀ {i : Nat} {e : va_E}, h[i]? = some e → z_tg e ≠ 1005 → (z_tg e ≠ 1 ∨ i ≠ rn) → h1[i]? = some e := fun {i e} p x y => t3.get p (by
    have x1 : i ≠ 15 := GE.tne p hR (by simpa [z_tg] using x)
    have x2 : i ≠ rn := y.elim (fun y => GE.tne p e3 (by simpa [z_tg] using y)) id
    simp only [List.mem_cons, List.mem_nil_iff, or_false]
    omega)
  have gx := ne hx (by simp [z_tg]) (Or.inl (by simp [z_tg]))
  have gv := ne a5 (by simp [z_tg]) (Or.inl (by simp [z_tg]))
  refine x_al0 rfl dX11_sitAt_16 ?_
  refine x_get fdX11_71 gx rfl dX11_sitAt_17 ?_
  refine x_al1 rfl dX11_sitAt_20 ?_
  refine x_cv1Vr (κ1 := 2) (κ2 := 0) (σ2 := 0) mX9_sitAt_ok lkX11_149 rfl (Nat.le_of_ble_eq_true rfl) (Nat.le_of_ble_eq_true rfl) dX11_sitAt_21 gv (Nat.le_refl _) (Nat.le_refl _) (c_sitAt9 z2 z4 gv (ne c1 (by simp [z_tg]) (Or.inl (by simp [z_tg]))) t1.2.2.2.2.1 (ne b3 (by simp [z_tg]) (Or.inl (by simp [z_tg]))) (ne e7 (by simp [z_tg]) (Or.inr (Ne.symm n1))) (ne e8 (by simp [z_tg]) (Or.inr (Ne.symm n2))) l4 l5) (fun h2 hq2 => ?_)
  obtain ⟨rmv', rmk', fm', fk', kp', F, k20, k23, kz, k4, k5, w4, w5, -⟩ := hq2
  have g23 := ne b3 (by simp [z_tg]) (Or.inl (by simp [z_tg]))
  have ge : ∀ {i : Nat} {e : va_E}, h1[i]? = some e → z_tg e ≠ 1009 → z_tg e ≠ 3 → h2[i]? = some e := fun {i e} p x y => F.get p (by
    have x1 : i ≠ 20 := GE.tne p gv (by simpa [z_tg] using x)
    have x2 : i ≠ 23 := GE.tne p g23 (by simpa [z_tg] using y)
    simp only [List.mem_cons, List.mem_nil_iff, or_false]
    omega)
  have F2 : Fr [15, rn, 20, 23] h h2 := (t3.mono (by simp)).tr (F.mono (by simp))
  obtain ⟨i1, i2, i3, i4, i5, ⟨i6, i7, i8, i9⟩, i10, i11⟩ := id t1
  have hT2 : RT h2 q.1 rn' rs sw' := ⟨i1, i2, i3, i4, ge i5 (by simp [z_tg]) (by simp [z_tg]), ⟨i6, i7, ge i8 (by simp [z_tg]) (by simp [z_tg]), i9⟩, i10, ge i11 (by simp [z_tg]) (by simp [z_tg])⟩
  have hsw2 : (sw' = nI 0 ∧ (pD dk q ln).2.2.1 = false) ∨ (sw' = nI 1 ∧ SwO h2 q.1 rs ∧ (pD dk q ln).2.2.1 = true) := t2.imp_right (fun z => ⟨z.1, by obtain ⟨x1, x2, x3, x4, x5, x6⟩ := z.2.1; exact ⟨x1, x2, x3, ge x4 (by simp [z_tg]) (by simp [z_tg]), ge x5 (by simp [z_tg]) (by simp [z_tg]), x6⟩, z.2.2⟩)
  have o1 := hp_lt t4
  have o2 := hp_lt e7
  have o3 := hp_lt e8
  have o4 := t3.1
  have ff := fct_le z2
  have nf : q.1 * fct q.1 ≤ 6 * 720 := Nat.mul_le_mul z2 ff
  have q3 : q.1 * q.1 * q.1 * q.2.1 ≤ 1944 := Nat.mul_le_mul (Nat.mul_le_mul (Nat.mul_le_mul z2 z2) z2) z4
  have p31 : (2 : Nat) ^ 31 = 2147483648 := rfl
  have L1 : (pD dk q ln).1 < 2 ^ 31 := by
    show (if q.1 = dk.1 then ln.1 else max ln.1 (q.1 * fct q.1)) < 2 ^ 31
    have := e19.1
    split <;> omega
  have v1 : rn' = rn ∨ h.length ≤ rn' := by omega
  have v2 : rmv' = rmv ∨ h.length ≤ rmv' := by omega
  have v3 : rmk' = rmk ∨ h.length ≤ rmk' := by omega
  have v4 : rn' ≠ rmv' := by omega
  have v5 : rn' ≠ rmk' := by omega
  have v6 : rmv' ≠ rmk' := by omega
  have EE := EWr.sit (b := (pD dk q ln).2.2.1) h83 hV E hq F2 hT2 hsw2 (ge t4 (by simp [z_tg]) (by simp [z_tg])) k20 k23 kz k4 k5 v1 v2 v3 v4 v5 v6 L1 (Nat.le_max_right _ _) (Nat.max_lt.mpr ⟨l4, Nat.lt_of_le_of_lt (Nat.mul_le_mul_left 10 q3) (by decide)⟩) (Nat.le_max_right _ _) (Nat.max_lt.mpr ⟨l5, Nat.lt_of_le_of_lt (Nat.mul_le_mul_left 10 ff) (by decide)⟩)
  have ex : Ex h h2 := Ex.fr F2 (fun i hi => by
    simp only [List.mem_cons, List.mem_nil_iff, or_false] at hi
    rcases hi with z | z | z | z
    · rw [z]; exact Or.inl ⟨by decide, by decide⟩
    · rw [z]; exact y1.1
    · rw [z]; exact Or.inl ⟨by decide, by decide⟩
    · rw [z]; exact Or.inl ⟨by decide, by decide⟩)
  exact x_vret rfl dX11_sitAt_24 ⟨rfl, C1.ex ex, EE, fun i e t p => ge (ne (keep0 i e t p) (by omega) (Or.inl (by omega))) (by omega) (by omega)⟩
end ZSa

