/-! Math.floorMod: its class isn't plainly named, but no row of the natives stands for it; remainders -/
theorem zq_rem {x : Int32} {n : Nat} (h0 : 0 < n) (hn : n ≤ 6) : (x - x / nI n * nI n).toInt = x.toInt.tmod n ∧ -6 < x.toInt.tmod n ∧ x.toInt.tmod n < 6 ∧ (0 ≤ x.toInt → 0 ≤ x.toInt.tmod n) ∧ (x.toInt < 0 → x.toInt.tmod n ≤ 0) ∧ (if x.toInt.tmod n < 0 then x.toInt.tmod n + n else x.toInt.tmod n) = x.toInt % n := by
  have hy : (nI n).toInt = n := nI_toInt (by omega)
  have hne : nI n ≠ -1 := by
    intro h
    have h2 := congrArg Int32.toInt h
    rw [hy] at h2
    have h3 : ((-1 : Int32)).toInt = -1 := by decide
    omega
  have hx1 := Int32.toInt_lt x
  have hx2 := Int32.le_toInt x
  have hd := Int32.toInt_div_of_ne_right x (nI n) hne
  rw [hy] at hd
  have hm := Int.tmod_def x.toInt n
  have key : -6 < x.toInt.tmod n ∧ x.toInt.tmod n < 6 ∧ (0 ≤ x.toInt → 0 ≤ x.toInt.tmod n ∧ x.toInt.tmod n ≤ x.toInt) ∧ (x.toInt < 0 → x.toInt.tmod n ≤ 0 ∧ x.toInt ≤ x.toInt.tmod n) ∧ (if x.toInt.tmod n < 0 then x.toInt.tmod n + n else x.toInt.tmod n) = x.toInt % n := by
    have hh : n = 1 ∨ n = 2 ∨ n = 3 ∨ n = 4 ∨ n = 5 ∨ n = 6 := by omega
    rcases Int.lt_or_le x.toInt 0 with q | q
    · have e : x.toInt.tmod n = -((-x.toInt) % n) := by
        have h1 : x.toInt.tmod n = -((-x.toInt).tmod n) := by rw [Int.neg_tmod, Int.neg_neg]
        rw [h1, Int.tmod_eq_emod_of_nonneg (by omega)]
      rw [e]
      rcases hh with rfl | rfl | rfl | rfl | rfl | rfl <;> (refine ⟨by omega, by omega, fun z => by omega, fun z => by omega, ?_⟩; split <;> omega)
    · rw [Int.tmod_eq_emod_of_nonneg q]
      rcases hh with rfl | rfl | rfl | rfl | rfl | rfl <;> (refine ⟨by omega, by omega, fun z => by omega, fun z => by omega, ?_⟩; split <;> omega)
  obtain ⟨k1, k2, k3, k4, k5⟩ := key
  refine ⟨?_, k1, k2, fun z => (k3 z).1, fun z => (k4 z).1, k5⟩
  have hmul : (x / nI n * nI n).toInt = x.toInt - x.toInt.tmod n := by
    rw [Int32.toInt_mul, hd, hy, Int.mul_comm]
    rw [Int.bmod_eq_of_le]
    · omega
    · rcases Int.lt_or_le x.toInt 0 with q | q
      · have := k4 q; omega
      · have := k3 q; omega
    · rcases Int.lt_or_le x.toInt 0 with q | q
      · have := k4 q; omega
      · have := k3 q; omega
  rw [Int32.toInt_sub, hmul, Int.bmod_eq_of_le]
  · omega
  · omega
  · omega
/-- the drawer that a told number stands for -/
def zq_fm (x : Int32) (n : Nat) : Nat := (x.toInt % (n : Int)).toNat
theorem zq_fm_lt {x : Int32} {n : Nat} (h0 : 0 < n) : zq_fm x n < n := by
  unfold zq_fm
  have h1 := Int.emod_lt_of_pos x.toInt (show (0 : Int) < n by omega)
  have h2 := Int.emod_nonneg x.toInt (show (n : Int) ≠ 0 by omega)
  omega
theorem zq_fm_pos {x : Int32} {n : Nat} (h0 : 0 < n) (hn : n ≤ 6) (h : ¬ (x - x / nI n * nI n) < 0) : x - x / nI n * nI n = nI (zq_fm x n) := by
  obtain ⟨h1, h2, h3, -, -, h6⟩ := zq_rem (x := x) h0 hn
  have hl := zq_fm_lt (x := x) h0
  rw [Int32.lt_iff_toInt_lt, h1] at h
  have h : ¬ x.toInt.tmod n < 0 := h
  rw [if_neg h] at h6
  apply Int32.toInt_inj.mp
  rw [h1, nI_toInt (by omega), h6]
  unfold zq_fm
  have := Int.emod_nonneg x.toInt (show (n : Int) ≠ 0 by omega)
  omega
theorem zq_fm_neg {x : Int32} {n : Nat} (h0 : 0 < n) (hn : n ≤ 6) (h : (x - x / nI n * nI n) < 0) : x - x / nI n * nI n + nI n = nI (zq_fm x n) := by
  obtain ⟨h1, h2, h3, -, -, h6⟩ := zq_rem (x := x) h0 hn
  have hl := zq_fm_lt (x := x) h0
  rw [Int32.lt_iff_toInt_lt, h1] at h
  have h : x.toInt.tmod n < 0 := h
  rw [if_pos h] at h6
  apply Int32.toInt_inj.mp
  rw [Int32.toInt_add, h1, nI_toInt (by omega), nI_toInt (by omega), Int.bmod_eq_of_le (by omega) (by omega), h6]
  unfold zq_fm
  have := Int.emod_nonneg x.toInt (show (n : Int) ≠ 0 by omega)
  omega
theorem zq_xor {x : Int32} {n : Nat} (hn : n ≤ 6) : x ^^^ nI n < 0 ↔ x < 0 := by
  have hy : (nI n).toBitVec.msb = false := by
    clear x
    revert n
    decide
  have e : ∀ z : Int32, z < 0 ↔ z.toBitVec.msb = true := fun z => by
    rw [Int32.lt_iff_toInt_lt, BitVec.msb_eq_toInt, decide_eq_true_eq]
    exact Iff.rfl
  rw [e, e, Int32.toBitVec_xor, BitVec.msb_xor, hy, Bool.xor_false]
theorem Met.ofWF {l : Launch} {y : MethodName} {ws ws' : List Cond} {rm : Room} {Pc : Array Value → State → Prop} {Qc : Array Value → State → Outcome → State → Prop} {mc ms : Nat} {free : Addr → Prop} {cc : ByteArray} {maxL : Nat} {ret : Option FieldType}
    (hy : plainFor y = true) (hw : ws = Cond.code y cc maxL ret :: ws')
    (body : ∀ p e s m args below meth c s₁, BodyLoose p l y (headSpec ws rm) cc maxL ret e s m args below meth c s₁ → c.maxLocals = maxL → Pc args s →
      W p l e (headSpec ws rm).room s m args below meth c s.heap [] 0 0 (MQ below Qc args s mc ms free) (entryFrame m args maxL)) : Met l y ws rm Pc Qc mc ms free := by
  refine MetFree.of_bodySF (code := cc) (maxLocals := maxL) (ret := ret) hy ?_ ?_
  · intro args s m h hn
    obtain ⟨meth, c, h1, h2, h3, h4, h5, h6, -, -⟩ := Cond.code_spec hn (atoms_spec (ws := ws) h _ (by rw [hw]; exact List.mem_cons_self))
    exact ⟨meth, c, h1, h2, h3, h4, h5, h6⟩
  · intro p e s m args below meth c s₁ B hml hP _
    have hh0 : s₁.heap = s.heap := by rw [B.state]; rfl
    obtain ⟨t, a1, o, b1, b2, b3⟩ := body p e s m args below meth c s₁ B hml hP s₁ hh0 (Stand.of_body B)
    exact ⟨t, o, a1, b1, b2, ⟨b3.1, b3.2⟩⟩
theorem z_metF {g : zG} {d κ σ sz : Nat} {mz : zMe} {as : List Value} {h : zH} {Q : Option Value → zH → Prop} {ad : Nat → Nat} (hC : plainFor mz.1 = true) (hlen : (z_fl as).length ≤ mz.2.2.1) (hw : z_wh h) (hwa : ∀ v ∈ as, z_wv h.length v) (C : Zw g d κ σ mz 0 (z_ent mz.2.2.1 as) [] h Q) :
    Met g.1 mz.1 (Cond.code mz.1 mz.2.1 mz.2.2.1 mz.2.2.2 :: zTb) (z_rm d κ σ) (va_Pc (as.map (z_v g ad)) (z_pc g ad h sz)) (z_qc g ad h sz Q) κ σ (va_A (z_w g ad h) sz) := by
  refine Met.ofWF (cc := mz.2.1) (maxL := mz.2.2.1) (ret := mz.2.2.2) hC rfl ?_
  intro p e s m args below meth c s₁ B hml hv
  obtain ⟨rfl, hsz, hP, hD0, hT, hF⟩ := hv
  subst hsz
  have hts := atoms_spec (ws := Cond.code mz.1 mz.2.1 mz.2.2.1 mz.2.2.2 :: zTb) B.pre
  have hown := findClass_of_methodNamed B.named
  have hnm : meth.name = mz.1.name := (name_of_methodNamed B.named B.method).1
  have hlocks := B.notSynchronized
  rw [lg_entry_eq]
  refine C p e (headSpec (Cond.code mz.1 mz.2.1 mz.2.2.1 mz.2.2.2 :: zTb) (z_rm d κ σ)).room s m _ below meth c s.heap [] 0 0 κ σ _ (va_A (z_w g ad h) s.heap.size) ad _ ⟨B.exec, B.bytes, hml, hown, fun w hw => hts w (List.mem_cons_of_mem _ hw), hT, hF, fun q hq => Or.inr hq, B.returns, hlocks, hnm⟩ ⟨hw, hP, hD0.self, va_S.rf⟩ (z_ent_ls hlen hwa) (fun v hv => by cases hv) (Nat.le_refl _) (Nat.le_refl _) (by omega) (by omega) (Nat.le_refl _) (Nat.le_refl _) ?_
  intro v h' ad' H' locs' cells' slots' pc' ls' q1 q2 q3 q4 q5 q6 q7 q8
  refine W.widen q7 q8 ?_
  have hq : ∀ t : State, t.heap = H' → s.WarmedH t.vm → z_qc g ad h s.heap.size Q (as.map (z_v g ad)).toArray s (.returned (v.map (z_v g ad'))) t := fun t ht _ => ⟨⟨v, h', ad', rfl, q1, q3, q4, q5, q2.1, by rw [ht]; exact q2.2.1, q2.2.2.1⟩, q2.2.2.2.F ht⟩
  have hf := q2.2.2.2.2.2
  match v, q6, hq with
  | none, q6, hq => exact W.vret B.exec B.bytes (B.returns.trans q6.2) hq hf q6.1
  | some (.int x), q6, hq =>
    obtain ⟨a1, ty, a2, a3⟩ := q6
    exact W.zret B.exec B.bytes (B.returns.trans a2) a3 hq hf a1
  | some (.long x), q6, hq => exact W.lret B.exec B.bytes (B.returns.trans q6.2) hq hf q6.1
  | some (.ref i), q6, hq =>
    obtain ⟨a1, ty, a2, a3⟩ := q6
    exact W.aret B.exec B.bytes (B.returns.trans a2) a3 (Or.inr ⟨_, rfl⟩) hq hf a1
  | some .null, q6, hq =>
    obtain ⟨a1, ty, a2, a3⟩ := q6
    exact W.aret B.exec B.bytes (B.returns.trans a2) a3 (Or.inl rfl) hq hf a1
def mFM : zMe := (⟨"java/lang/Math", "floorMod", "(II)I"⟩, cJ9_floorMod_7cf53, 3, some .int)
theorem mFM_plain : plainFor mFM.1 = true := by decide +kernel
section ZFM
variable {g : zG} {d κ σ : Nat} {h : zH} {m : zMe} {pc : Nat} {ls : zL} {st : List Value} {Q : Option Value → zH → Prop}
theorem c_floorMod {x : Int32} {n : Nat} (h0 : 0 < n) (hn : n ≤ 6) : Zm g d 0 0 mFM [.int x, .int (nI n)] h (rI (nI (zq_fm x n)) h) := by
  obtain ⟨h1, h2, h3, h4, h5, h6⟩ := zq_rem (x := x) h0 hn
  show Zw g d 0 0 mFM 0 [some (.int x), some (.int (nI n)), none] [] h _
  refine x_il0 dJ9_floorMod_7cf53_0 ?_
  refine x_il1 dJ9_floorMod_7cf53_1 ?_
  refine x_irem (nI_ne0 h0 (by omega)) rfl dJ9_floorMod_7cf53_2 ?_
  refine x_is2 rfl dJ9_floorMod_7cf53_3 ?_
  refine x_il0 dJ9_floorMod_7cf53_4 ?_
  refine x_il1 dJ9_floorMod_7cf53_5 ?_
  refine x_ixor rfl dJ9_floorMod_7cf53_6 ?_
  refine x_if_ge (tgt := 18) dJ9_floorMod_7cf53_7 rfl (fun q1 => ?_) (fun q1 => ?_)
  · have hx : ¬ x < 0 := fun z => absurd (zq_xor (x := x) hn |>.mpr z) (by simp only [Int32.lt_iff_toInt_lt, Int32.le_iff_toInt_le] at *; omega)
    have hr : ¬ (x - x / nI n * nI n) < 0 := by
      rw [Int32.lt_iff_toInt_lt, h1]
      have : 0 ≤ x.toInt := by
        rw [Int32.lt_iff_toInt_lt] at hx
        exact Int.not_lt.mp hx
      exact Int.not_lt.mpr (h4 this)
    refine x_il2 dJ9_floorMod_7cf53_18 ?_
    exact x_iret rfl rfl dJ9_floorMod_7cf53_19 ⟨by rw [zq_fm_pos h0 hn hr], rfl⟩
  · have hx : x < 0 := by
      refine (zq_xor hn).mp ?_
      simp only [Int32.lt_iff_toInt_lt, Int32.le_iff_toInt_le] at *
      omega
    have hx2 : x.toInt < 0 := by rw [Int32.lt_iff_toInt_lt] at hx; exact hx
    have hr2 := h5 hx2
    refine x_il2 dJ9_floorMod_7cf53_10 ?_
    refine x_if_eq (tgt := 18) dJ9_floorMod_7cf53_11 rfl (fun q2 => ?_) (fun q2 => ?_)
    · have hr : ¬ (x - x / nI n * nI n) < 0 := by rw [q2]; decide
      refine x_il2 dJ9_floorMod_7cf53_18 ?_
      exact x_iret rfl rfl dJ9_floorMod_7cf53_19 ⟨by rw [zq_fm_pos h0 hn hr], rfl⟩
    · have hr : (x - x / nI n * nI n) < 0 := by
        rw [Int32.lt_iff_toInt_lt, h1]
        rcases Int.lt_or_le (x.toInt.tmod n) 0 with z | z
        · exact z
        · exact absurd (Int32.toInt_inj.mp (by rw [h1]; show x.toInt.tmod n = 0; omega)) q2
      refine x_il2 dJ9_floorMod_7cf53_14 ?_
      refine x_il1 dJ9_floorMod_7cf53_15 ?_
      refine x_iadd (rfl) dJ9_floorMod_7cf53_16 ?_
      exact x_iret rfl rfl dJ9_floorMod_7cf53_17 ⟨by rw [zq_fm_neg h0 hn hr], rfl⟩
theorem x_fmod {k : Nat} {x : Int32} {n : Nat} {rest : List Value} (hL : Cond.methodLink m.1.cls k ⟨"java/lang/Math", "floorMod", "(II)I"⟩ ∈ zTb) (hr : (rest.map fun v => v.category).sum ≤ 8) (h0 : 0 < n) (hn : n ≤ 6) (hd : decode m.2.1 pc = .ok (.invokestatic k, 3)) (kk : Zw g (d + 1) κ σ m (pc + 3) ls (.int (nI (zq_fm x n)) :: rest) h Q) : Zw g (d + 1) κ σ m pc ls (.int (nI n) :: .int x :: rest) h Q := by
  intro p e R s mid args below meth c H locs cells slots mc ms Z A ad lsC O T L S r1 r2 r3 r4 r5 r6 K
  have C : Zw g d 0 0 mFM 0 (z_ent mFM.2.2.1 [.int x, .int (nI n)]) [] h (rI (nI (zq_fm x n)) h) := c_floorMod h0 hn
  have hwa : ∀ v ∈ [Value.int x, Value.int (nI n)], z_wv h.length v := fun v hv i hi => by subst hi; simp at hv
  have hwr : ∀ v ∈ rest, z_wv h.length v := z_tl (z_tl S)
  have hmet := z_metF (sz := H.size) (ad := ad) mFM_plain (Nat.le_of_ble_eq_true rfl) T.1 hwa C
  have hR : (z_rm d 0 0).frames + 1 ≤ R.frames ∧ 8 + (mFM.2.2.1 + 11) + (z_rm d 0 0).locals ≤ R.locals := ⟨r1, by show 8 + (3 + 11) + 64 * d ≤ R.locals; omega⟩
  have hfix : CallFix p mid c m.2.1 m.2.2.1 s args zTb m.1.cls := ⟨O.1, O.2.1, O.2.2.1, O.2.2.2.1, O.2.2.2.2.1⟩
  have hts := O.2.2.2.2.1
  have hgood : GoodIn zTb (Cond.code mFM.1 mFM.2.1 mFM.2.2.1 mFM.2.2.2 :: zTb) := fun w hw => by
    have hw' : w ∈ zTb := by
      rcases List.mem_cons.mp hw with rfl | q
      · exact kd_fmod
      · exact q
    exact ⟨hw', good_of_word (List.mem_filter.mp hw').2⟩
  have hp : PreS s H (va_Pc ([Value.int x, Value.int (nI n)].map (z_v g ad)) (z_pc g ad h H.size)) ([Value.int x, Value.int (nI n)].map (z_v g ad)) := ⟨z_blind, fun U hU hW => ⟨rfl, z_pcOf O T U hU hW⟩⟩
  refine z_back (κ1 := 0) (σ1 := 0) (κ2 := κ) (σ2 := σ) (a := ([Value.int x, Value.int (nI n)].map (z_v g ad)).toArray) (rest := rest) O T L hwr r1 r2 (by omega) (by omega) r5 r6 K (fun v h' hq => ?_) (va_runS (y := mFM.1) (bytes := mFM.2.1) (maxL := mFM.2.2.1) (ret := mFM.2.2.2) (n := 2) hfix hmet ⟨callB_of 2 hts hgood rfl rfl rfl (hts _ knJ9) (hts _ hL) (by decide +kernel) hR, hts _ ks_static_floorMod_I⟩ hp rfl rfl L.1.1 rfl (by show 2 * 0 + _ ≤ 8; rw [z_cats]; omega) hd ⟨by omega, by omega⟩)
  obtain ⟨rfl, rfl⟩ := hq
  exact kk
end ZFM

