/-! the class's sitAt -/
def pD (dk q : zDk) (ln : zLn) : zLn := (if q.1 = dk.1 then ln.1 else max ln.1 (q.1 * fct q.1), ln.2.1, if q.1 = dk.1 then ln.2.2.1 else false, max ln.2.2.2.1 (10 * (q.1 * q.1 * q.1 * q.2.1)), max ln.2.2.2.2.1 (10 * fct q.1), ln.2.2.2.2.2.1, ln.2.2.2.2.2.2)
def sD (dk q : zDk) (ln : zLn) : Nat := (if q.1 = dk.1 then 0 else grw ln.1 (q.1 * fct q.1)) + (grw ln.2.2.2.1 (10 * (q.1 * q.1 * q.1 * q.2.1)) + grw ln.2.2.2.2.1 (10 * fct q.1))
section ZSa
variable {g : zG} {d : Nat} {h0 h : zH} {Z : Nat → Option va_E} {dk q : zDk} {rt r : Nat} {ds : List (Nat × zDk)} {ln : zLn} {tl ud dr : Int32}
theorem e_sitAt (C : CW h0 h Z) (W : EWk h dk rt ds ln) (hz : Z 0 = some (xE tl rt ud dr)) (hq : (r, q) ∈ ds) : Zm g (d + 4) 3 (sD dk q ln) mX11_sitAt [.ref 0, .ref r] h (rVp (fun h' => CW h0 h' (upM Z 0 (some (xE tl r ud dr))) ∧ EWk h' q r ds (pD dk q ln))) := by
  have hx := C.get hz
  show Zw g (d + 4) 3 (sD dk q ln) mX11_sitAt 0 [some (.ref 0), some (.ref r)] [] h _
  refine x_al0 rfl dX11_sitAt_0 ?_
  refine x_al1 rfl dX11_sitAt_1 ?_
  refine x_put fdX11_106 hx (by first | exact zf_o | exact zf_on) (by simp) dX11_sitAt_2 ?_
  show Zw g (d + 4) 3 (sD dk q ln) mX11_sitAt 5 [some (.ref 0), some (.ref r)] [] (h.set 0 (xE tl r ud dr)) _
  have W1 : EWk (h.set 0 (xE tl r ud dr)) dk rt ds ln := EW.set W C hz
  have C1 := C.set (e := xE tl r ud dr) hz rfl
  generalize h.set 0 (xE tl r ud dr) = h at W1 C1 ⊢
  have hx : h[0]? = some (xE tl r ud dr) := C1.get upM_eq
  have h83 := C1.2.1
  obtain ⟨av, stk, rn, rs, sw, rmv, rmk, rkn, rks, wst, wqu, wwe, wla, hV, E⟩ := id W1
  obtain ⟨-, e2, ⟨f3, e3⟩, ⟨f4, e4⟩, ⟨f5, e5⟩, e6, ⟨f7, e7⟩, ⟨f8, e8⟩, -, -, -, -, -, -, ⟨y1, y2, y3, y4, -⟩, -, -, -, e19⟩ := id E
  obtain ⟨-, -, ⟨len0, fr0, a5⟩, -, -, ⟨lm, fm, lk, fk, kp, b1, b2, b3, -, bl1, -, bl2, -⟩, -, -, n1, n2, n3, -⟩ := id hV
  have hR := hV.1.2.2.2.2.1
  obtain ⟨fm19, e19c⟩ := hV.1.2.2.2.2.2.2
  obtain ⟨ra, rb, D0⟩ := e2 _ hq
  obtain ⟨⟨fc, fr2, vn, vs, c1, -⟩, -, -, z1, z2, z3, z4, -⟩ := id D0
  have l4 : ln.2.2.2.1 < 2 ^ 31 := by rw [e7] at b1; cases b1; exact bl1
  have l5 : ln.2.2.2.2.1 < 2 ^ 31 := by rw [e8] at b2; cases b2; exact bl2
  refine x_al0 rfl dX11_sitAt_5 ?_
  refine x_get fdX11_62 hx rfl dX11_sitAt_6 ?_
  refine x_al1 rfl dX11_sitAt_9 ?_
  refine x_get fdX11_143 c1 rfl dX11_sitAt_10 ?_
  by_cases en : q.1 = dk.1
  · sorry
  · sorry
end ZSa

