/-- the locals at a method's entry -/
def z_fl (as : List Value) : zL := as.flatMap (fun v => if v.category = 2 then [some v, none] else [some v])
def z_ent (n : Nat) (as : List Value) : zL := z_fl as ++ List.replicate (n - (z_fl as).length) none
def z_sl (g : zG) (ad : Nat → Nat) (o : Option Value) : Slot := match o with
  | some v => .val (z_v g ad v)
  | none => .second
theorem z_fl_sl {g : zG} {ad : Nat → Nat} (as : List Value) : lg_sl (as.map (z_v g ad)) = (z_fl as).map (z_sl g ad) := by
  induction as with
  | nil => rfl
  | cons v t ih =>
    have e1 : lg_sl ((v :: t).map (z_v g ad)) = (if (z_v g ad v).category = 2 then [.val (z_v g ad v), .second] else [.val (z_v g ad v)]) ++ lg_sl (t.map (z_v g ad)) := by simp [lg_sl]
    have e2 : z_fl (v :: t) = (if v.category = 2 then [some v, none] else [some v]) ++ z_fl t := by simp [z_fl]
    rw [e1, e2, ih, List.map_append, z_v_cat]
    split <;> rfl
theorem z_ent_ls {g : zG} {ad : Nat → Nat} {n N : Nat} {as : List Value} (hl : (z_fl as).length ≤ n) (hw : ∀ v ∈ as, z_wv N v) : zLs g ad n N (z_ent n as) (lg_sl (as.map (z_v g ad)) ++ List.replicate (n - (lg_sl (as.map (z_v g ad))).length) Slot.unset).toArray := by
  have hle : (lg_sl (as.map (z_v g ad))).length = (z_fl as).length := by rw [z_fl_sl, List.length_map]
  have h0 := lv_entry (as.map (z_v g ad)) (n := n) (by rw [hle]; exact hl)
  refine ⟨⟨h0.1, h0.2.1, fun q hq => by cases hq⟩, fun i v hi => ?_, ?_⟩
  · have hmem : some v ∈ z_fl as := by
      have hm := List.mem_of_getElem? hi
      rcases List.mem_append.mp hm with q | q
      · exact q
      · have := List.eq_of_mem_replicate q
        cases this
    have hv : v ∈ as := by
      obtain ⟨w, hw1, hw2⟩ := List.mem_flatMap.mp hmem
      split at hw2 <;> simp at hw2 <;> subst hw2 <;> exact hw1
    have hil : i < (z_fl as).length := by
      rcases Nat.lt_or_ge i (z_fl as).length with q | q
      · exact q
      · unfold z_ent at hi
        rw [List.getElem?_append_right q] at hi
        have := List.eq_of_mem_replicate (List.mem_of_getElem? hi)
        cases this
    refine ⟨?_, hw v hv⟩
    unfold z_ent at hi
    rw [List.getElem?_append_left hil] at hi
    rw [List.getElem?_toArray, List.getElem?_append_left (by rw [hle]; exact hil), z_fl_sl, List.getElem?_map, hi]
    rfl
  · unfold z_ent
    rw [List.length_append, List.length_replicate]
    omega
def z_pc (g : zG) (ad : Nat → Nat) (h : zH) (sz : Nat) (U : State) : Prop := U.heap.size = sz ∧ va_P g.2.1 vwCl (z_w g ad h) U.heap ∧ va_D (fun _ => True) (z_w g ad h) ∧ zTab g U ∧ zFor g (va_A (z_w g ad h) sz) U U.heap
def z_qc (g : zG) (ad : Nat → Nat) (h : zH) (sz : Nat) (Q : Option Value → zH → Prop) : Array Value → State → Outcome → State → Prop := fun _ st oc t =>
  (∃ (v : Option Value) (h' : zH) (ad' : Nat → Nat), oc = .returned (v.map (z_v g ad')) ∧ Q v h' ∧ (∀ w, v = some w → z_wv h'.length w) ∧ h.length ≤ h'.length ∧ (∀ i, i < h.length → ad' i = ad i) ∧ z_wh h' ∧ va_P g.2.1 vwCl (z_w g ad' h') t.heap ∧ va_D (va_A (z_w g ad h) sz) (z_w g ad' h')) ∧ va_F (va_A (z_w g ad h) sz) st t
def z_rm (d κ σ : Nat) : Room := { frames := d, cells := κ, slots := σ, locals := 64 * d }
/-- a frame's judgement at the entry is the method's contract -/
theorem z_met {g : zG} {d κ σ n sz : Nat} {mz : zMe} {as : List Value} {h : zH} {Q : Option Value → zH → Prop} {ad : Nat → Nat} (hC : zMC mz n) (hlen : (z_fl as).length ≤ mz.2.2.1) (hw : z_wh h) (hwa : ∀ v ∈ as, z_wv h.length v) (C : Zw g d κ σ mz 0 (z_ent mz.2.2.1 as) [] h Q) :
    Met g.1 mz.1 (Cond.code mz.1 mz.2.1 mz.2.2.1 mz.2.2.2 :: zTb) (z_rm d κ σ) (va_Pc (as.map (z_v g ad)) (z_pc g ad h sz)) (z_qc g ad h sz Q) κ σ (va_A (z_w g ad h) sz) := by
  refine Met.ofW (cc := mz.2.1) (maxL := mz.2.2.1) (ret := mz.2.2.2) hC.1 rfl ?_
  intro p e s m args below meth c s₁ B hml hv
  obtain ⟨rfl, hsz, hP, hD0, hT, hF⟩ := hv
  subst hsz
  have hts := atoms_spec (ws := Cond.code mz.1 mz.2.1 mz.2.2.1 mz.2.2.2 :: zTb) B.pre
  have hown := findClass_of_methodNamed B.named
  have hnm : meth.name = mz.1.name := (name_of_methodNamed B.named B.method).1
  have hlocks := B.notSynchronized
  rw [lg_entry_eq]
  refine C p e (headSpec (Cond.code mz.1 mz.2.1 mz.2.2.1 mz.2.2.2 :: zTb) (z_rm d κ σ)).room s m _ below meth c s.heap [] 0 0 κ σ _ (va_A (z_w g ad h) s.heap.size) ad _ ⟨B.exec, B.bytes, hml, hown, fun w hw => hts w (List.mem_cons_of_mem _ hw), hT, hF, fun q hq => Or.inr hq, B.returns, hlocks, hnm⟩ ⟨hw, hP, hD0.self, va_S.rf⟩ (z_ent_ls hlen hwa) (fun v hv => by cases hv) (Nat.le_refl _) (Nat.le_refl _) (by omega) (by omega) (Nat.le_refl _) (Nat.le_refl _) ?_
  intro v h' ad' H' locs' cells' slots' pc' ls' q1 q2 q3 q4 q5 q6 q7 q8
  refine W.widen q7 q8 ?_
  have hq : ∀ t : State, t.heap = H' → s.WarmedH t.vm → z_qc g ad h s.heap.size Q (as.map (z_v g ad)).toArray s (.returned (v.map (z_v g ad'))) t := fun t ht _ => ⟨⟨v, h', ad', rfl, q1, q3, q4, q5, q2.1, by rw [ht]; exact q2.2.1, q2.2.2.1⟩, q2.2.2.2.F ht⟩
  have hf := q2.2.2.2.2.2
  match v, q6, hq with
  | none, q6, hq => exact W.vret B.exec B.bytes (B.returns.trans q6.2) hq hf q6.1
  | some (.int x), q6, hq =>
    obtain ⟨a1, ty, a2, a3⟩ := q6
    exact W.zret B.exec B.bytes (B.returns.trans a2) a3 hq hf a1
  | some (.long x), q6, hq => exact W.lret B.exec B.bytes (B.returns.trans q6.2) hq hf q6.1
  | some (.ref i), q6, hq =>
    obtain ⟨a1, ty, a2, a3⟩ := q6
    exact W.aret B.exec B.bytes (B.returns.trans a2) a3 (Or.inr ⟨_, rfl⟩) hq hf a1
  | some .null, q6, hq =>
    obtain ⟨a1, ty, a2, a3⟩ := q6
    exact W.aret B.exec B.bytes (B.returns.trans a2) a3 (Or.inl rfl) hq hf a1
theorem z_blind {g : zG} {ad : Nat → Nat} {h : zH} {sz : Nat} {av : List Value} : FrameBlind (va_Pc av (z_pc g ad h sz)) := fun a U g' mk q => by
  obtain ⟨q0, q1, qP, qD, qT, qF⟩ := q
  exact ⟨q0, q1, qP, qD, zTab.same (u := U) rfl qT, zFor.moved (u := U) (U := U.calling g' mk a) (Vm.Alike.refl U.vm) qF⟩
theorem z_good {mz : zMe} {n : Nat} (hC : zMC mz n) : GoodIn zTb (Cond.code mz.1 mz.2.1 mz.2.2.1 mz.2.2.2 :: zTb) := fun w hw => by
  have hw' : w ∈ zTb := by
    rcases List.mem_cons.mp hw with rfl | q
    · exact hC.2.1
    · exact q
  exact ⟨hw', good_of_word (List.mem_filter.mp hw').2⟩
theorem z_freeA {g : zG} {A : Nat → Prop} {s : State} {ad : Nat → Nat} {h : zH} {H : Heap} {locs : List Loc} (hA : ∀ q : Nat, s.heap.size ≤ q → A q) (T : zAt g A s ad h H locs) : ∀ q, va_A (z_w g ad h) H.size q → A q := fun q hq => by
  rcases hq with ⟨k, e, hk⟩ | hq
  · exact T.2.2.1.2 k _ hk
  · exact hA q (Nat.le_trans T.2.2.2.1 hq)
theorem z_pcOf {g : zG} {m : zMe} {p : Program} {s : State} {mid : MethodId} {args : Array Value} {meth : Method} {c : Code} {A : Nat → Prop} {ad : Nat → Nat} {h : zH} {H : Heap} {locs : List Loc} (O : zOk g m p s mid args meth c A) (T : zAt g A s ad h H locs) : ∀ U : State, U.heap = H → s.WarmedH U.vm → z_pc g ad h H.size U := fun U hU hW => by
  refine ⟨by rw [hU], by rw [hU]; exact T.2.1, T.2.2.1.weaken (fun _ _ _ _ => trivial), O.2.2.2.2.2.1.warm hW, ?_⟩
  have hF := (O.2.2.2.2.2.2.1.kept T.2.2.2.2.1).narrow (z_freeA O.2.2.2.2.2.2.2.1 T)
  rw [hU]
  exact zFor.moved hW.alike hF
theorem z_cats {g : zG} {ad : Nat → Nat} {st : List Value} : ((st.map (z_v g ad)).map fun v => v.category).sum = (st.map fun v => v.category).sum := by
  rw [List.map_map]
  exact congrArg List.sum (List.map_congr_left (fun v _ => z_v_cat))
/-- behind a call -/
theorem z_back {g : zG} {d κ2 σ2 κ1 σ1 : Nat} {m : zMe} {pc : Nat} {ls : zL} {rest : List Value} {h : zH} {Q Q1 : Option Value → zH → Prop} {p : Program} {e : Env} {R : Room} {s : State} {mid : MethodId} {args : Array Value} {below : List Frame} {meth : Method} {c : Code} {H : Heap} {locs : List Loc} {cells slots mc ms : Nat} {Z : State → Prop} {A : Nat → Prop} {ad : Nat → Nat} {lsC : Array Slot} {st0 : List Value} {a : Array Value}
    (O : zOk g m p s mid args meth c A) (T : zAt g A s ad h H locs) (L : zLs g ad m.2.2.1 h.length ls lsC) (S : ∀ v ∈ rest, z_wv h.length v) (r1 : d ≤ R.frames) (r2 : 64 * d ≤ R.locals) (r3 : cells + κ1 + κ2 ≤ mc) (r4 : slots + σ1 + σ2 ≤ ms) (r5 : mc ≤ R.cells) (r6 : ms ≤ R.slots) (K : zKo g m p e R s mid args below meth c mc ms Z A ad h.length Q)
    (kk : ∀ v h', Q1 v h' → Zw g d κ2 σ2 m (pc + 3) ls (v.toList ++ rest) h' Q)
    (hr : va_Run p g.1 e R s mid args below meth c H locs cells slots κ1 σ1 (F0 mid pc lsC st0) (rest.map (z_v g ad)) (z_qc g ad h H.size Q1 a) (va_A (z_w g ad h) H.size)) :
    W p g.1 e R s mid args below meth c H locs cells slots Z (F0 mid pc lsC st0) := by
  intro T0 hT X
  obtain ⟨v, st₀, t, T', Lx, h0, X', hL, e1, e2, ⟨⟨v', h', ad', hv, hq, hwv, hle, hag, hwh, hP, hD⟩, hz, hk⟩, hst⟩ := hr T0 hT X
  cases hv
  rw [h0] at hz hk
  have hfr := z_freeA O.2.2.2.2.2.2.2.1 T
  have hS := T.2.2.2
  have hS' : va_S A s.heap T'.heap (locs ++ Lx) := ⟨Nat.le_trans hS.1 (by rw [e1]; exact hz), fun q h1 h2 => by rw [e1, hk q (Nat.lt_of_lt_of_le h1 hS.1) (fun z => h2 (hfr q z))]; exact hS.2.1 q h1 h2, fun q hq => by
      rcases List.mem_append.mp hq with h | h
      · exact hS.2.2 q h
      · exact hfr _ (hL q h)⟩
  have hT' : zAt g A s ad' h' T'.heap (locs ++ Lx) := ⟨hwh, by rw [e1]; exact hP, hD.weaken (fun _ q _ hq => hfr _ hq), hS'⟩
  have hW := kk v' h' hq p e R s mid args below meth c T'.heap (locs ++ Lx) (cells + κ1) (slots + σ1) mc ms Z A ad' lsC O hT' (L.move hle hag) (fun w hw => by
      rcases List.mem_append.mp hw with q | q
      · cases v' with
        | none => cases q
        | some u => simp at q; subst q; exact hwv _ rfl
      · exact z_wv_mono hle (S w q)) r1 r2 r3 r4 r5 r6 (K.mono hle hag)
  have es : (v'.toList ++ rest).map (z_v g ad') = (v'.map (z_v g ad')).toList ++ rest.map (z_v g ad) := by
    rw [List.map_append, List.map_congr_left (fun w hw => z_v_agree (g := g) hag (S w hw))]
    cases v' <;> rfl
  rw [es] at hW
  obtain ⟨t2, a1, b1⟩ := hW T' rfl X'
  exact ⟨t2, hst t2 a1, b1⟩
section ZR
variable {g : zG} {d κ σ : Nat} {m : zMe} {pc : Nat} {ls : zL} {st : List Value} {h : zH} {Q : Option Value → zH → Prop}
theorem x_callS {n nn κ1 σ1 κ2 σ2 : Nat} {mz : zMe} {as rest : List Value} {Q1 : Option Value → zH → Prop} (hM : zMS mz nn) (hL : zLk m.1.cls n mz) (hn : as.length = nn) (hfl : (z_fl as).length ≤ mz.2.2.1) (hr : (rest.map fun v => v.category).sum ≤ 8) (hd : decode m.2.1 pc = .ok (.invokestatic n, 3)) (h1 : κ1 + κ2 ≤ κ) (h2 : σ1 + σ2 ≤ σ) (C : Zw g d κ1 σ1 mz 0 (z_ent mz.2.2.1 as) [] h Q1) (kk : ∀ v h', Q1 v h' → Zw g (d + 1) κ2 σ2 m (pc + 3) ls (v.toList ++ rest) h' Q) : Zw g (d + 1) κ σ m pc ls (as.reverse ++ rest) h Q := by
  intro p e R s mid args below meth c H locs cells slots mc ms Z A ad lsC O T L S r1 r2 r3 r4 r5 r6 K
  have hwa : ∀ v ∈ as, z_wv h.length v := fun v hv => S v (by simp [hv])
  have hwr : ∀ v ∈ rest, z_wv h.length v := fun v hv => S v (by simp [hv])
  have hmet := z_met (sz := H.size) (ad := ad) hM.1 hfl T.1 hwa C
  have hml : mz.2.2.1 ≤ 40 := hM.1.2.2.2.2
  have hR : (z_rm d κ1 σ1).frames + 1 ≤ R.frames ∧ 8 + (mz.2.2.1 + 11) + (z_rm d κ1 σ1).locals ≤ R.locals := ⟨r1, by show 8 + (mz.2.2.1 + 11) + 64 * d ≤ R.locals; omega⟩
  have hfix : CallFix p mid c m.2.1 m.2.2.1 s args zTb m.1.cls := ⟨O.1, O.2.1, O.2.2.1, O.2.2.2.1, O.2.2.2.2.1⟩
  have hts := O.2.2.2.2.1
  have hp : PreS s H (va_Pc (as.map (z_v g ad)) (z_pc g ad h H.size)) (as.map (z_v g ad)) := ⟨z_blind, fun U hU hW => ⟨rfl, z_pcOf O T U hU hW⟩⟩
  have hst : (as.reverse ++ rest).map (z_v g ad) = (as.map (z_v g ad)).reverse ++ rest.map (z_v g ad) := by rw [List.map_append, List.map_reverse]
  rw [hst]
  refine z_back (κ1 := κ1) (σ1 := σ1) (a := (as.map (z_v g ad)).toArray) O T L hwr r1 r2 (by omega) (by omega) r5 r6 K kk ?_
  rcases hL with hL | ⟨host, hL⟩
  · exact va_runS hfix hmet ⟨callB_of nn hts (z_good hM.1) rfl rfl rfl (hts _ hM.1.2.2.1) (hts _ hL) hM.1.2.2.2.1 hR, hts _ hM.2⟩ hp rfl (by rw [List.length_map]; exact hn) L.1.1 rfl (by show 2 * 0 + _ ≤ 8; rw [z_cats]; omega) hd ⟨by omega, by omega⟩
  · exact va_runSN hfix hmet ⟨va_cnB nn hts (z_good hM.1) rfl rfl rfl (O.2.2.2.2.2.1.1 _ hL) (hts _ hM.1.2.2.1) hM.1.2.2.2.1 hR, hts _ hM.2, trivial⟩ hp rfl (by rw [List.length_map]; exact hn) L.1.1 rfl (by show 2 * 0 + _ ≤ 8; rw [z_cats]; omega) hd ⟨by omega, by omega⟩
theorem x_callI {n nn i κ1 σ1 κ2 σ2 : Nat} {mz : zMe} {as rest : List Value} {Q1 : Option Value → zH → Prop} (hM : zMI mz nn) (hret : mz.2.2.2 = none) (hL : zLk m.1.cls n mz) (hn : as.length = nn) (hfl : (z_fl (.ref i :: as)).length ≤ mz.2.2.1) (hr : (rest.map fun v => v.category).sum ≤ 8) (hd : decode m.2.1 pc = .ok (.invokespecial n, 3)) (h1 : κ1 + κ2 ≤ κ) (h2 : σ1 + σ2 ≤ σ) (C : Zw g d κ1 σ1 mz 0 (z_ent mz.2.2.1 (.ref i :: as)) [] h Q1) (kk : ∀ v h', Q1 v h' → Zw g (d + 1) κ2 σ2 m (pc + 3) ls (v.toList ++ rest) h' Q) : Zw g (d + 1) κ σ m pc ls (as.reverse ++ .ref i :: rest) h Q := by
  intro p e R s mid args below meth c H locs cells slots mc ms Z A ad lsC O T L S r1 r2 r3 r4 r5 r6 K
  have hwa : ∀ v ∈ Value.ref i :: as, z_wv h.length v := fun v hv => S v (by rcases List.mem_cons.mp hv with q | q <;> simp [q])
  have hwr : ∀ v ∈ rest, z_wv h.length v := fun v hv => S v (by simp [hv])
  have hmet := z_met (sz := H.size) (ad := ad) hM.1 hfl T.1 hwa C
  have hml : mz.2.2.1 ≤ 40 := hM.1.2.2.2.2
  have hR : (z_rm d κ1 σ1).frames + 1 ≤ R.frames ∧ 8 + (mz.2.2.1 + 11) + (z_rm d κ1 σ1).locals ≤ R.locals := ⟨r1, by show 8 + (mz.2.2.1 + 11) + 64 * d ≤ R.locals; omega⟩
  have hfix : CallFix p mid c m.2.1 m.2.2.1 s args zTb m.1.cls := ⟨O.1, O.2.1, O.2.2.1, O.2.2.2.1, O.2.2.2.2.1⟩
  have hts := O.2.2.2.2.1
  have hp : PreS s H (va_Pc ((Value.ref i :: as).map (z_v g ad)) (z_pc g ad h H.size)) (.ref (ad i) :: as.map (z_v g ad)) := ⟨z_blind, fun U hU hW => ⟨rfl, z_pcOf O T U hU hW⟩⟩
  have hst : (as.reverse ++ .ref i :: rest).map (z_v g ad) = (as.map (z_v g ad)).reverse ++ .ref (ad i) :: rest.map (z_v g ad) := by rw [List.map_append, List.map_reverse]; rfl
  rw [hst]
  refine z_back (κ1 := κ1) (σ1 := σ1) (a := (Value.ref (ad i) :: as.map (z_v g ad)).toArray) O T L hwr r1 r2 (by omega) (by omega) r5 r6 K kk ?_
  have hgd := z_good hM.1
  have hcd := hM.1.2.1
  rw [hret] at hmet hgd hcd
  rcases hL with hL | ⟨host, hL⟩
  · exact va_runI hfix hmet ⟨callB_of nn hts hgd rfl rfl rfl (hts _ hM.1.2.2.1) (hts _ hL) hM.1.2.2.2.1 hR, hM.2.1, hts _ hM.2.2⟩ hp rfl (by rw [List.length_map]; exact hn) L.1.1 rfl (by show 2 * 0 + _ ≤ 8; rw [z_cats]; omega) hd ⟨by omega, by omega⟩
  · exact va_runIN hfix hmet ⟨va_cnB nn hts hgd rfl rfl rfl (O.2.2.2.2.2.1.1 _ hL) (hts _ hM.1.2.2.1) hM.1.2.2.2.1 hR, hM.2.1, hts _ hM.2.2⟩ hp rfl (by rw [List.length_map]; exact hn) L.1.1 rfl (by show 2 * 0 + _ ≤ 8; rw [z_cats]; omega) hd ⟨by omega, by omega⟩
theorem x_callV {n nn i ci κ1 σ1 κ2 σ2 : Nat} {fs : List Value} {mz : zMe} {as rest : List Value} {Q1 : Option Value → zH → Prop} (hM : zMV mz nn) (hL : zLk m.1.cls n mz) (hcl : vwCl[ci]?.map (fun q => q.1) = some mz.1.cls) (hn : as.length = nn) (hfl : (z_fl (.ref i :: as)).length ≤ mz.2.2.1) (hr : (rest.map fun v => v.category).sum ≤ 8) (hd : decode m.2.1 pc = .ok (.invokevirtual n, 3)) (he : h[i]? = some (.inr (ci, fs))) (h1 : κ1 + κ2 ≤ κ) (h2 : σ1 + σ2 ≤ σ) (C : Zw g d κ1 σ1 mz 0 (z_ent mz.2.2.1 (.ref i :: as)) [] h Q1) (kk : ∀ v h', Q1 v h' → Zw g (d + 1) κ2 σ2 m (pc + 3) ls (v.toList ++ rest) h' Q) : Zw g (d + 1) κ σ m pc ls (as.reverse ++ .ref i :: rest) h Q := by
  intro p e R s mid args below meth c H locs cells slots mc ms Z A ad lsC O T L S r1 r2 r3 r4 r5 r6 K
  have hwa : ∀ v ∈ Value.ref i :: as, z_wv h.length v := fun v hv => S v (by rcases List.mem_cons.mp hv with q | q <;> simp [q])
  have hwr : ∀ v ∈ rest, z_wv h.length v := fun v hv => S v (by simp [hv])
  have hmet := z_met (sz := H.size) (ad := ad) hM.1 hfl T.1 hwa C
  have hml : mz.2.2.1 ≤ 40 := hM.1.2.2.2.2
  have hR : (z_rm d κ1 σ1).frames + 1 ≤ R.frames ∧ 8 + (mz.2.2.1 + 11) + (z_rm d κ1 σ1).locals ≤ R.locals := ⟨r1, by show 8 + (mz.2.2.1 + 11) + 64 * d ≤ R.locals; omega⟩
  have hfix : CallFix p mid c m.2.1 m.2.2.1 s args zTb m.1.cls := ⟨O.1, O.2.1, O.2.2.1, O.2.2.2.1, O.2.2.2.2.1⟩
  have hts := O.2.2.2.2.1
  have hrecv : ∃ cell : Cell, H[ad i]? = some cell ∧ cell.vm.isStatics = false ∧ s.vm.findClass mz.1.cls = some cell.cls := by
    cases hci : vwCl[ci]? with
    | none => rw [hci] at hcl; cases hcl
    | some q =>
      rw [hci] at hcl
      have hq : q.1 = mz.1.cls := Option.some.inj hcl
      rw [← hq]
      exact va_recv O.2.2.2.2.2.1.2.1 T.2.1 hci (z_w_get he)
  have hp : PreV s H mz.1.cls (ad i) (va_Pc ((Value.ref i :: as).map (z_v g ad)) (z_pc g ad h H.size)) (as.map (z_v g ad)) := ⟨z_blind, hrecv, fun U hU hW => ⟨rfl, z_pcOf O T U hU hW⟩⟩
  have hst : (as.reverse ++ Value.ref i :: rest).map (z_v g ad) = (as.map (z_v g ad)).reverse ++ .ref (ad i) :: rest.map (z_v g ad) := by rw [List.map_append, List.map_reverse]; rfl
  rw [hst]
  refine z_back (κ1 := κ1) (σ1 := σ1) (a := (Value.ref (ad i) :: as.map (z_v g ad)).toArray) O T L hwr r1 r2 (by omega) (by omega) r5 r6 K kk ?_
  rcases hL with hL | ⟨host, hL⟩
  · exact va_runV hfix hmet ⟨callB_of nn hts (z_good hM.1) rfl rfl rfl (hts _ hM.1.2.2.1) (hts _ hL) hM.1.2.2.2.1 hR, hts _ hM.2.1, hts _ hM.2.2⟩ hp rfl (by rw [List.length_map]; exact hn) L.1.1 rfl (by show 2 * 0 + _ ≤ 8; rw [z_cats]; omega) hd ⟨by omega, by omega⟩
  · exact va_runVN hfix hmet ⟨va_cnB nn hts (z_good hM.1) rfl rfl rfl (O.2.2.2.2.2.1.1 _ hL) (hts _ hM.1.2.2.1) hM.1.2.2.2.1 hR, hts _ hM.2.1, hts _ hM.2.2⟩ hp rfl (by rw [List.length_map]; exact hn) L.1.1 rfl (by show 2 * 0 + _ ≤ 8; rw [z_cats]; omega) hd ⟨by omega, by omega⟩
theorem x_callT {n nn j κ1 σ1 κ2 σ2 : Nat} {mz : zMe} {as rest : List Value} {Q1 : Option Value → zH → Prop} (hM : zMV mz nn) (hL : zLk m.1.cls n mz) (hcl : mz.1.cls = "java/lang/String") (hj : j < 4) (hn : as.length = nn) (hfl : (z_fl (.retAddr (10 + j) :: as)).length ≤ mz.2.2.1) (hr : (rest.map fun v => v.category).sum ≤ 8) (hd : decode m.2.1 pc = .ok (.invokevirtual n, 3)) (h1 : κ1 + κ2 ≤ κ) (h2 : σ1 + σ2 ≤ σ) (C : Zw g d κ1 σ1 mz 0 (z_ent mz.2.2.1 (.retAddr (10 + j) :: as)) [] h Q1) (kk : ∀ v h', Q1 v h' → Zw g (d + 1) κ2 σ2 m (pc + 3) ls (v.toList ++ rest) h' Q) : Zw g (d + 1) κ σ m pc ls (as.reverse ++ .retAddr (10 + j) :: rest) h Q := by
  intro p e R s mid args below meth c H locs cells slots mc ms Z A ad lsC O T L S r1 r2 r3 r4 r5 r6 K
  have hwa : ∀ v ∈ Value.retAddr (10 + j) :: as, z_wv h.length v := fun v hv => S v (by rcases List.mem_cons.mp hv with q | q <;> simp [q])
  have hwr : ∀ v ∈ rest, z_wv h.length v := fun v hv => S v (by simp [hv])
  have hmet := z_met (sz := H.size) (ad := ad) hM.1 hfl T.1 hwa C
  have hml : mz.2.2.1 ≤ 40 := hM.1.2.2.2.2
  have hR : (z_rm d κ1 σ1).frames + 1 ≤ R.frames ∧ 8 + (mz.2.2.1 + 11) + (z_rm d κ1 σ1).locals ≤ R.locals := ⟨r1, by show 8 + (mz.2.2.1 + 11) + 64 * d ≤ R.locals; omega⟩
  have hfix : CallFix p mid c m.2.1 m.2.2.1 s args zTb m.1.cls := ⟨O.1, O.2.1, O.2.2.1, O.2.2.2.1, O.2.2.2.2.1⟩
  have hts := O.2.2.2.2.1
  have hrecv : ∃ cell : Cell, H[g.2.2.2.1 (10 + j)]? = some cell ∧ cell.vm.isStatics = false ∧ s.vm.findClass mz.1.cls = some cell.cls := by
    obtain ⟨cell, h1, h2, h3, -⟩ := (O.2.2.2.2.2.2.1.2.2.2.1 j hj).1.kept T.2.2.2.2.1
    exact ⟨cell, h1, h2, by rw [hcl]; exact h3⟩
  have hp : PreV s H mz.1.cls (g.2.2.2.1 (10 + j)) (va_Pc ((Value.retAddr (10 + j) :: as).map (z_v g ad)) (z_pc g ad h H.size)) (as.map (z_v g ad)) := ⟨z_blind, hrecv, fun U hU hW => ⟨rfl, z_pcOf O T U hU hW⟩⟩
  have hst : (as.reverse ++ Value.retAddr (10 + j) :: rest).map (z_v g ad) = (as.map (z_v g ad)).reverse ++ .ref (g.2.2.2.1 (10 + j)) :: rest.map (z_v g ad) := by rw [List.map_append, List.map_reverse]; rfl
  rw [hst]
  refine z_back (κ1 := κ1) (σ1 := σ1) (a := (Value.ref (g.2.2.2.1 (10 + j)) :: as.map (z_v g ad)).toArray) O T L hwr r1 r2 (by omega) (by omega) r5 r6 K kk ?_
  rcases hL with hL | ⟨host, hL⟩
  · exact va_runV hfix hmet ⟨callB_of nn hts (z_good hM.1) rfl rfl rfl (hts _ hM.1.2.2.1) (hts _ hL) hM.1.2.2.2.1 hR, hts _ hM.2.1, hts _ hM.2.2⟩ hp rfl (by rw [List.length_map]; exact hn) L.1.1 rfl (by show 2 * 0 + _ ≤ 8; rw [z_cats]; omega) hd ⟨by omega, by omega⟩
  · exact va_runVN hfix hmet ⟨va_cnB nn hts (z_good hM.1) rfl rfl rfl (O.2.2.2.2.2.1.1 _ hL) (hts _ hM.1.2.2.1) hM.1.2.2.2.1 hR, hts _ hM.2.1, hts _ hM.2.2⟩ hp rfl (by rw [List.length_map]; exact hn) L.1.1 rfl (by show 2 * 0 + _ ≤ 8; rw [z_cats]; omega) hd ⟨by omega, by omega⟩
end ZR
