/-- the law, from its entry -/
theorem whole_start {p : Program} {e : Env} {s : State} {m : MethodId} {below : List Frame} {meth : Method} {c : Code} (l : Launch) (hflags : l.flags = flags0) {b L : Nat} {xs : Nat → Int32} (hL : L ≤ 3072) (C0 : lw_At p s m meth c b L xs) : W p l e room_1 s m #[Value.ref b] below meth c s.heap [] 0 0 (lw_Z below #[Value.ref b] s) (entryFrame m ([Value.ref b] : List Value).toArray 4) := by
  obtain ⟨hx, hb, hr, hml, hown, hts, hX, hbl, hlocks, hgv, hnm⟩ := id C0
  have hA : ∀ a : Nat, a < s.heap.size → ¬ (fun q : Nat => s.heap.size ≤ q) a := fun a h => Nat.not_le.mpr h
  obtain ⟨dC, dI, hKc⟩ := e_cl hts
  obtain ⟨cA, hTy⟩ := e_ty hts
  obtain ⟨a0, t0, z0, y0⟩ := e_s0 hgv hA
  obtain ⟨a1, t1, z1, y1⟩ := e_s1 hgv hA
  obtain ⟨a2, t2, z2, y2⟩ := e_s2 hgv hA
  obtain ⟨a3, t3, z3, y3⟩ := e_s3 hgv hA
  obtain ⟨f, f1, f2⟩ := e_fac hgv hA
  have f3 := va_Zref (hts _ wl_fac) (hts _ wi_5) f1 hA
  have hT : va_T .int b L (fun j => .int (xs j)) (fun q : Nat => s.heap.size ≤ q) s s.heap := by
    obtain ⟨scr, h1, h2, h3, h4, h5⟩ := hX
    exact ⟨scr, h1, h2, h3, Nat.le_of_eq h4.symm, by rw [h4], h5, hA b hbl⟩
  obtain ⟨t, ht⟩ : ∃ t : Nat, va_Z "jdk/internal/util/Preconditions" "SIOOBE_FORMATTER" "Ljava/util/function/BiFunction;" .null (fun q : Nat => s.heap.size ≤ q) s s.heap ∨ va_Z "jdk/internal/util/Preconditions" "SIOOBE_FORMATTER" "Ljava/util/function/BiFunction;" (.ref t) (fun q : Nat => s.heap.size ≤ q) s s.heap := by
    rcases e_si hts hgv hA with h | ⟨t, h⟩
    · exact ⟨0, Or.inl h⟩
    · exact ⟨t, Or.inr h⟩
  have hS : zStr (l, (dC, dI), cA, (fun k => [f, b, t, 0, 0, 0, 0, 0, 0, 0, a0, a1, a2, a3, 0, 0, 0, 0, 0, 0, t0, t1, t2, t3].getD k 0), L, xs) (fun q : Nat => s.heap.size ≤ q) s s.heap := by
    intro i hi
    match i, hi with
    | 0, _ => exact y0
    | 1, _ => exact y1
    | 2, _ => exact y2
    | 3, _ => exact y3
  exact law_core (g := (l, (dC, dI), cA, (fun k => [f, b, t, 0, 0, 0, 0, 0, 0, 0, a0, a1, a2, a3, 0, 0, 0, 0, 0, 0, t0, t1, t2, t3].getD k 0), L, xs)) rfl hL
    ⟨hx, hb, hml, hown, e_tb hts, ⟨e_nw hts, ⟨hKc, hTy⟩, va_AO.of (hts _ wo7), va_AO.of (hts _ wo8), va_AO.of (hts _ wo3), vk_R.of (hts _ wr_0) z0, vk_R.of (hts _ wr_1) z1, vk_R.of (hts _ wr_2) z2, vk_R.of (hts _ wr_3) z3⟩, ⟨f3, f2, hT, hS, e_cs hts hgv hA, ht⟩, fun _ h => h, hr, hlocks, hnm⟩
