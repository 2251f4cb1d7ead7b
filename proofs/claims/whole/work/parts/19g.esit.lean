/-! the class sits at another desk: the engine behind hold and sitAt -/
section ZEs
variable {h h' : zH} {dk : zDk} {rt rn rs rmv rmk rkn rks wst wqu wwe wla : Nat} {sw : Int32} {ds : List (Nat × zDk)} {ln : zLn} {av stk : List Nat}
theorem EWr.sit {r rn' rmv' rmk' L1 L4 L5 : Nat} {q : zDk} {b : Bool} {sw' len fr : Int32} {f1 fm' fk' kp' : Nat → Int32} (h83 : 83 ≤ h.length) (hV : VC h dk.1 rn rs sw rt rmv rmk rkn rks dk.2.1 dk.2.2.2.2.1 dk.2.2.2.2.2) (E : EWr h dk.1 dk.2.1 dk.2.2.1 dk.2.2.2.1 dk.2.2.2.2.1 dk.2.2.2.2.2 rt ds ln av stk rn rs sw rmv rmk rkn rks wst wqu wwe wla) (hq : (r, q) ∈ ds) (F : Fr [15, rn, 20, 23] h h') (hT : RT h' q.1 rn' rs sw') (hsw : (sw' = nI 0 ∧ b = false) ∨ (sw' = nI 1 ∧ SwO h' q.1 rs ∧ b = true)) (k1 : h'[rn']? = some (.inl (1, L1, .inl f1))) (k20 : h'[20]? = some (visE r rmv' rmk' (nI (q.1 * q.1 * q.1 * q.2.1)) len fr)) (k23 : h'[23]? = some (.inl (3, 10, .inl kp'))) (kz : ∀ c, c < 10 → kp' c = 0) (k4 : h'[rmv']? = some (.inl (1, L4, .inl fm'))) (k5 : h'[rmk']? = some (.inl (1, L5, .inl fk'))) (w1 : rn' = rn ∨ h.length ≤ rn') (w4 : rmv' = rmv ∨ h.length ≤ rmv') (w5 : rmk' = rmk ∨ h.length ≤ rmk') (d1 : rn' ≠ rmv') (d2 : rn' ≠ rmk') (d3 : rmv' ≠ rmk') (l1 : L1 < 2 ^ 31) (l4 : 10 * (q.1 * q.1 * q.1 * q.2.1) ≤ L4) (l4' : L4 < 2 ^ 31) (l5 : 10 * fct q.1 ≤ L5) (l5' : L5 < 2 ^ 31) : EWk h' q r ds (L1, ln.2.1, b, L4, L5, ln.2.2.2.2.2.1, ln.2.2.2.2.2.2) := by
  obtain ⟨-, e2, ⟨f3, e3⟩, ⟨f4, e4⟩, ⟨f5, e5⟩, e6, ⟨f7, e7⟩, ⟨f8, e8⟩, ⟨q9, e9⟩, ⟨f10, e10⟩, ⟨f11, e11⟩, e12, ⟨f13, e13⟩, ⟨f14, e14⟩, ⟨y1, y2, y3, y4, y5, y6, y7, y8⟩, e16, e17, e18, e19⟩ := id E
  obtain ⟨-, -, ⟨len0, fr0, a5⟩, -, -, ⟨lm, fm, lk, fk, kp, -, -, b3, -⟩, ⟨w, a9⟩, ⟨pa, a10⟩, -⟩ := id hV
  have hR := hV.1.2.2.2.2.1
  have no : ∀ {i : Nat} {e : va_E}, h[i]? = some e → (z_tg e ≠ 1005 ∧ z_tg e ≠ 1 ∧ z_tg e ≠ 1009 ∧ z_tg e ≠ 3) → h'[i]? = some e := fun {i e} p t => F.get p (by
    have x1 : i ≠ 15 := GE.tne p hR (by simpa [z_tg] using t.1)
    have x2 : i ≠ rn := GE.tne p e3 (by simpa [z_tg] using t.2.1)
    have x3 : i ≠ 20 := GE.tne p a5 (by simpa [z_tg] using t.2.2.1)
    have x4 : i ≠ 23 := GE.tne p b3 (by simpa [z_tg] using t.2.2.2)
    simp only [List.mem_cons, List.mem_nil_iff, or_false]
    omega)
  have k : KD av stk h h' := ⟨F.1, fun i e t p => no p (by omega), fun i e t _ _ p => no p (by omega), fun i _ H sk p => ⟨sk, no p (by simp [z_tg])⟩⟩
  obtain ⟨ra, rb, D0⟩ := e2 _ hq
  have D := D0.kd k
  obtain ⟨⟨fc, fr2, vn, vs, c1, c2, c3⟩, r1, r2, z1, z2, z3, z4, z5⟩ := id D
  have rr : ∀ {code : Option (List Nat)} {x : Nat}, RkS stk code x → x ∈ av ∨ h'.length ≤ x ∨ x < 83 := fun z => by
    rcases z with z | ⟨-, z⟩
    · exact Or.inl (e17 _ z).2.1
    · rw [z]; exact Or.inr (Or.inr (by decide))
  have sub : ∀ i ∈ [ra, rb], i ∈ av ∨ h'.length ≤ i ∨ i < 83 := fun i hi => by
    simp only [List.mem_cons, List.mem_nil_iff, or_false] at hi
    rcases hi with rfl | rfl
    · exact rr r1
    · exact rr r2
  have rk : ∀ {code : Option (List Nat)} {x : Nat}, RkS stk code x → Rk code x := fun z => z.imp_left (fun y => (e17 _ y).1)
  have dy : ∀ {i j : Nat}, zDy j → (i = j ∨ h.length ≤ i) → zDy i := fun y z => by
    rcases z with z | z
    · rw [z]; exact y
    · unfold zDy zRg; omega
  have memo : Memo q.1 q.2.1 q.2.2.2.2.1 q.2.2.2.2.2 fm' fk' kp' := fun c hc => ⟨Or.inl (kz c hc), fun z => by rw [kz c hc] at z; exact absurd z (by decide)⟩
  refine ⟨av, stk, rn', rs, sw', rmv', rmk', ra, rb, wst, wqu, wwe, wla, ⟨hT, ⟨fc, fr2, _, _, vn, vs, c1, c2.sub sub, c3.sub sub⟩, ⟨len, fr, k20⟩, z3, z4, ⟨L4, fm', L5, fk', kp', k4, k5, k23, l4, l4', l5, l5', memo⟩, ⟨w, no a9 (by simp [z_tg])⟩, ⟨pa, no a10 (by simp [z_tg])⟩, d1, d2, d3, rk r1, rk r2⟩, D, fun x hx => ?_, ⟨f1, k1⟩, ⟨f4, no e4 (by simp [z_tg])⟩, ⟨f5, no e5 (by simp [z_tg])⟩, hsw, ⟨fm', k4⟩, ⟨fk', k5⟩, ⟨q9, no e9 (by simp [z_tg])⟩, ⟨f10, no e10 (by simp [z_tg])⟩, ⟨f11, no e11 (by simp [z_tg])⟩, no e12 (by simp [z_tg]), ⟨f13, no e13 (by simp [z_tg])⟩, ⟨f14, no e14 (by simp [z_tg])⟩, ⟨dy y1 w1, y2, dy y3 w4, dy y4 w5, y5, y6, y7, y8⟩, e16, fun x hx => ?_, e18, l1, e19.2⟩
  · obtain ⟨a, b, z⟩ := e2 x hx
    exact ⟨a, b, z.kd k⟩
  · obtain ⟨t1, t2, t3, t4, t5, H, sk, t6⟩ := e17 x hx
    exact ⟨t1, t2, t3, t4, t5, H, sk, no t6 (by simp [z_tg])⟩
end ZEs

