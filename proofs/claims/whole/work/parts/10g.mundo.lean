/-! the model's stores, isAgain, notes -/
theorem MLaw.c {al al' : Nat → Int32} {lw : Nat} {b : Bool} {code : Option (List Nat)} (a : MLaw al lw b code) (h2 : lw < 2) (h : ∀ k, (k < 21 ∨ (55 ≤ k ∧ k < 956)) → al' k = al k) : MLaw al' lw b code := by
  cases code with
  | none =>
    show al' (3 + lw) = nI 0
    rw [h _ (by omega)]
    exact a
  | some cs =>
    obtain ⟨a1, fr, a2, a3, a4, a5, a6⟩ := a
    refine ⟨by rw [h _ (by omega)]; exact a1, fr, a2, by rw [h _ (by omega)]; exact a3, by rw [h _ (by omega)]; exact a4, fun j c hj => ?_, a6⟩
    have := (List.getElem?_eq_some_iff.mp hj).1
    rw [h _ (by omega)]
    exact a5 j c hj
theorem MDa.c {al al' : Nat → Int32} {n op ng li : Nat} {nx sp : Option (List Nat)} (a : MDa al n op ng li nx sp) (h : ∀ k, (k < 21 ∨ (55 ≤ k ∧ k < 956)) → al' k = al k) : MDa al' n op ng li nx sp := by
  obtain ⟨a1, a2, a3, a4, a5, a6, a7⟩ := a
  refine ⟨a1, by rw [h _ (by omega)]; exact a2, by rw [h _ (by omega)]; exact a3, by rw [h _ (by omega)]; exact a4, a5.c (by omega) h, a6.c (by omega) h, fun i hi => ?_⟩
  have := a1.2.1
  rw [h _ (by omega)]
  exact a7 i hi
section ZMu
variable {g : zG} {d : Nat} {h0 h : zH} {s : Nat → Value} {M : Nat → Nat → Int32} {L : Nat → Nat → Int64} {dk : zDk} {st : zSt} {un : List zSt} {tp : List Nat} {tr : Nat → zTr} {pi : Nat → zPi} {fl : Nat × Nat}
theorem MJ.u60 {f : Nat → Int32} {st' : zSt} {un' : List zSt} (J : MJ s M L dk st un tp tr pi fl) (hf : ∀ k, (k < 21 ∨ 55 ≤ k) → f k = M 60 k) (h3 : M3 f 21 dk.1 st') (hu : MUn f dk.1 un') : MJ s (upM M 60 f) L dk st' un' tp tr pi fl := by
  obtain ⟨a1, a2, a3, a4, a5, a6, a7⟩ := J
  refine ⟨MDk.of ?_ ?_ a1.2.2.2.2.2.2.2.2, ?_, ?_, a4, a5, ?_, a7⟩
  · rw [upM_eq]
    exact a1.da.c (fun k hk => hf k (by omega))
  · exact a1.2.2.2.2.2.2.2.1
  · rw [upM_eq]; exact h3
  · rw [upM_eq]; exact hu
  · intro t ht
    have b := a6 t ht
    split at b
    · exact b
    · next p q =>
      refine ⟨b.1, ?_, ?_⟩
      · rw [upM_eq]
        exact b.2.1.c (fun k hk => hf _ (by omega))
      · obtain ⟨c1, c2, c3, c4⟩ := b.2.2
        exact ⟨(hf (956 * (t + 1) + 21) (by omega)).trans c1, (hf (956 * (t + 1) + 22) (by omega)).trans c2, (hf (956 * (t + 1) + 23) (by omega)).trans c3, c4⟩
theorem upM_self {α : Type} {M : Nat → α} {i : Nat} : upM M i (M i) = M := by
  funext j
  unfold upM
  split
  · next q => rw [q]
  · rfl
theorem MW.u (i : Nat) (W : MW h0 h s M L) : MW h0 h s (upM M i (M i)) L := by rw [upM_self]; exact W
theorem x_mstU {κ σ : Nat} {m : zMe} {pc : Nat} {lc : zL} {sk : List Value} {Q : Option Value → zH → Prop} {i len j : Nat} {x : Int32} {f : Nat → Int32} (W : MW h0 h s (upM M i f) L) (hi : mIs i = true) (hl : mLen i = len) (hL : len < 2 ^ 31) (hj : j < len) (hd : decode m.2.1 pc = .ok (.iastore, 1)) (kk : ∀ h, MW h0 h s (upM M i (upd f j x)) L → Zw g d κ σ m (pc + 1) lc sk h Q) : Zw g d κ σ m pc lc (.int x :: .int (nI j) :: .ref i :: sk) h Q := x_mst W hi hl hL hj hd (fun h W => kk h (by rw [upM_upM, upM_eq] at W; exact W))
/-- a state stands in was -/
def Was (M : Nat → Nat → Int32) (a : zSt) : Prop := M 69 0 = nI a.1 ∧ M 69 1 = nI a.2.1 ∧ M 69 2 = a.2.2
theorem j_stores (W : MW h0 h s M L) (J : MJ s M L dk st un tp tr pi fl) : Zm g d 0 0 mX12_stores [.ref 59] h (rVp (fun h' => ∃ M', MW h0 h' s M' L ∧ MJ s M' L dk st un tp tr pi fl ∧ Un [] [69] [] s s M M' L L ∧ Was M' st)) := by
  obtain ⟨D, hn0, hn6, ho0, ho9, hng, hli, e0, e1, e2, m1, m2, m3, m4, m5, u1, u2, t1, t2, r1, hf⟩ := MJ.o J
  show Zw g d 0 0 mX12_stores 0 [some (.ref 59), none] [] h _
  refine x_iconst (v := nI 0) dX12_stores_0 rfl ?_
  refine x_is1 rfl dX12_stores_1 ?_
  refine x_il1 dX12_stores_2 ?_
  refine x_iconst (v := nI 3) dX12_stores_3 rfl ?_
  refine x_icmp_ge (tgt := 28) dX12_stores_4 rfl (fun q4 => ?_) (fun q4 => ?_)
  · skip
    first | (simp only [cmp_lt, cmp_gt, cmp_eq, zN_cge, zN_cle, Decidable.not_not] at q4) | (simp (disch := omega) only [zN_le, zN_lt, zN_0, zN_1, nI_toInt, zN_eq, zN_eq0, b2_z, b2_nz, Decidable.not_not, Int.not_lt, Int.not_le, zK0, zK1, zK2, zK3, zK5, zK7, zK8, zK9, zK10, zK19, zK20, zK40, zK99, zK100, zK199] at q4) | skip
    omega
  · skip
    first | (simp only [cmp_lt, cmp_gt, cmp_eq, zN_cge, zN_cle, Decidable.not_not] at q4) | (simp (disch := omega) only [zN_le, zN_lt, zN_0, zN_1, nI_toInt, zN_eq, zN_eq0, b2_z, b2_nz, Decidable.not_not, Int.not_lt, Int.not_le, zK0, zK1, zK2, zK3, zK5, zK7, zK8, zK9, zK10, zK19, zK20, zK40, zK99, zK100, zK199] at q4) | skip
    refine x_al0 rfl dX12_stores_7 ?_
    refine x_gm fdX12_45 W.hM (by decide) W.hF.f23 dX12_stores_8 ?_
    refine x_il1 dX12_stores_11 ?_
    refine x_al0 rfl dX12_stores_12 ?_
    refine x_gm fdX12_13 W.hM (by decide) W.hF.f1 dX12_stores_13 ?_
    refine x_bipush (v := nI 21) dX12_stores_16 rfl ?_
    refine x_il1 dX12_stores_18 ?_
    first | refine x_iadd (nI_add _ _) dX12_stores_19 ?_ | refine x_iadd rfl dX12_stores_19 ?_
    refine x_mld (len := 2868) W rfl rfl (by decide) (by omega) (by first | assumption | rfl) dX12_stores_20 ?_
    refine x_mstJ (len := 3) W J rfl rfl (by decide) rfl (by omega) dX12_stores_21 (fun h W J => ?_)
    first | refine x_ii1 rfl (nI_1 _) dX12_stores_22 ?_ | refine x_ii1 rfl rfl dX12_stores_22 ?_
    refine x_goto (tgt := 2) dX12_stores_25 rfl ?_
    refine x_il1 dX12_stores_2 ?_
    refine x_iconst (v := nI 3) dX12_stores_3 rfl ?_
    refine x_icmp_ge (tgt := 28) dX12_stores_4 rfl (fun q4 => ?_) (fun q4 => ?_)
    · skip
      first | (simp only [cmp_lt, cmp_gt, cmp_eq, zN_cge, zN_cle, Decidable.not_not] at q4) | (simp (disch := omega) only [zN_le, zN_lt, zN_0, zN_1, nI_toInt, zN_eq, zN_eq0, b2_z, b2_nz, Decidable.not_not, Int.not_lt, Int.not_le, zK0, zK1, zK2, zK3, zK5, zK7, zK8, zK9, zK10, zK19, zK20, zK40, zK99, zK100, zK199] at q4) | skip
      omega
    · skip
      first | (simp only [cmp_lt, cmp_gt, cmp_eq, zN_cge, zN_cle, Decidable.not_not] at q4) | (simp (disch := omega) only [zN_le, zN_lt, zN_0, zN_1, nI_toInt, zN_eq, zN_eq0, b2_z, b2_nz, Decidable.not_not, Int.not_lt, Int.not_le, zK0, zK1, zK2, zK3, zK5, zK7, zK8, zK9, zK10, zK19, zK20, zK40, zK99, zK100, zK199] at q4) | skip
      refine x_al0 rfl dX12_stores_7 ?_
      refine x_gm fdX12_45 W.hM (by decide) W.hF.f23 dX12_stores_8 ?_
      refine x_il1 dX12_stores_11 ?_
      refine x_al0 rfl dX12_stores_12 ?_
      refine x_gm fdX12_13 W.hM (by decide) W.hF.f1 dX12_stores_13 ?_
      refine x_bipush (v := nI 21) dX12_stores_16 rfl ?_
      refine x_il1 dX12_stores_18 ?_
      first | refine x_iadd (nI_add _ _) dX12_stores_19 ?_ | refine x_iadd rfl dX12_stores_19 ?_
      refine x_mld (len := 2868) W rfl rfl (by decide) (by omega) (by first | assumption | rfl) dX12_stores_20 ?_
      refine x_mstJ (len := 3) W J rfl rfl (by decide) rfl (by omega) dX12_stores_21 (fun h W J => ?_)
      first | refine x_ii1 rfl (nI_1 _) dX12_stores_22 ?_ | refine x_ii1 rfl rfl dX12_stores_22 ?_
      refine x_goto (tgt := 2) dX12_stores_25 rfl ?_
      refine x_il1 dX12_stores_2 ?_
      refine x_iconst (v := nI 3) dX12_stores_3 rfl ?_
      refine x_icmp_ge (tgt := 28) dX12_stores_4 rfl (fun q4 => ?_) (fun q4 => ?_)
      · skip
        first | (simp only [cmp_lt, cmp_gt, cmp_eq, zN_cge, zN_cle, Decidable.not_not] at q4) | (simp (disch := omega) only [zN_le, zN_lt, zN_0, zN_1, nI_toInt, zN_eq, zN_eq0, b2_z, b2_nz, Decidable.not_not, Int.not_lt, Int.not_le, zK0, zK1, zK2, zK3, zK5, zK7, zK8, zK9, zK10, zK19, zK20, zK40, zK99, zK100, zK199] at q4) | skip
        omega
      · skip
        first | (simp only [cmp_lt, cmp_gt, cmp_eq, zN_cge, zN_cle, Decidable.not_not] at q4) | (simp (disch := omega) only [zN_le, zN_lt, zN_0, zN_1, nI_toInt, zN_eq, zN_eq0, b2_z, b2_nz, Decidable.not_not, Int.not_lt, Int.not_le, zK0, zK1, zK2, zK3, zK5, zK7, zK8, zK9, zK10, zK19, zK20, zK40, zK99, zK100, zK199] at q4) | skip
        refine x_al0 rfl dX12_stores_7 ?_
        refine x_gm fdX12_45 W.hM (by decide) W.hF.f23 dX12_stores_8 ?_
        refine x_il1 dX12_stores_11 ?_
        refine x_al0 rfl dX12_stores_12 ?_
        refine x_gm fdX12_13 W.hM (by decide) W.hF.f1 dX12_stores_13 ?_
        refine x_bipush (v := nI 21) dX12_stores_16 rfl ?_
        refine x_il1 dX12_stores_18 ?_
        first | refine x_iadd (nI_add _ _) dX12_stores_19 ?_ | refine x_iadd rfl dX12_stores_19 ?_
        refine x_mld (len := 2868) W rfl rfl (by decide) (by omega) (by first | assumption | rfl) dX12_stores_20 ?_
        refine x_mstJ (len := 3) W J rfl rfl (by decide) rfl (by omega) dX12_stores_21 (fun h W J => ?_)
        first | refine x_ii1 rfl (nI_1 _) dX12_stores_22 ?_ | refine x_ii1 rfl rfl dX12_stores_22 ?_
        refine x_goto (tgt := 2) dX12_stores_25 rfl ?_
        refine x_il1 dX12_stores_2 ?_
        refine x_iconst (v := nI 3) dX12_stores_3 rfl ?_
        refine x_icmp_ge (tgt := 28) dX12_stores_4 rfl (fun q4 => ?_) (fun q4 => ?_)
        · skip
          first | (simp only [cmp_lt, cmp_gt, cmp_eq, zN_cge, zN_cle, Decidable.not_not] at q4) | (simp (disch := omega) only [zN_le, zN_lt, zN_0, zN_1, nI_toInt, zN_eq, zN_eq0, b2_z, b2_nz, Decidable.not_not, Int.not_lt, Int.not_le, zK0, zK1, zK2, zK3, zK5, zK7, zK8, zK9, zK10, zK19, zK20, zK40, zK99, zK100, zK199] at q4) | skip
          exact x_vret rfl dX12_stores_28 ⟨rfl, _, W, J, ((Un.rf.m (by simp)).m (by simp)).m (by simp), rfl, rfl, rfl⟩
        · skip
          first | (simp only [cmp_lt, cmp_gt, cmp_eq, zN_cge, zN_cle, Decidable.not_not] at q4) | (simp (disch := omega) only [zN_le, zN_lt, zN_0, zN_1, nI_toInt, zN_eq, zN_eq0, b2_z, b2_nz, Decidable.not_not, Int.not_lt, Int.not_le, zK0, zK1, zK2, zK3, zK5, zK7, zK8, zK9, zK10, zK19, zK20, zK40, zK99, zK100, zK199] at q4) | skip
          omega
theorem j_isAgain {a : zSt} (W : MW h0 h s M L) (J : MJ s M L dk st un tp tr pi fl) (hw : Was M a) (ha : a.1 < fct dk.1 ∧ a.2.1 < 10) : Zm g d 0 0 mX12_isAgain [.ref 59] h (rVp (fun h' => ∃ M', MW h0 h' s M' L ∧ MJ s M' L dk a un tp tr pi fl ∧ Un [] [60] [] s s M M' L L)) := by
  obtain ⟨D, hn0, hn6, ho0, ho9, hng, hli, e0, e1, e2, m1, m2, m3, m4, m5, u1, u2, t1, t2, r1, hf⟩ := MJ.o J
  obtain ⟨w1, w2, w3⟩ := hw
  replace W := W.u 60
  show Zw g d 0 0 mX12_isAgain 0 [some (.ref 59), none] [] h _
  refine x_iconst (v := nI 0) dX12_isAgain_0 rfl ?_
  refine x_is1 rfl dX12_isAgain_1 ?_
  refine x_il1 dX12_isAgain_2 ?_
  refine x_iconst (v := nI 3) dX12_isAgain_3 rfl ?_
  refine x_icmp_ge (tgt := 28) dX12_isAgain_4 rfl (fun q4 => ?_) (fun q4 => ?_)
  · skip
    first | (simp only [cmp_lt, cmp_gt, cmp_eq, zN_cge, zN_cle, Decidable.not_not] at q4) | (simp (disch := omega) only [zN_le, zN_lt, zN_0, zN_1, nI_toInt, zN_eq, zN_eq0, b2_z, b2_nz, Decidable.not_not, Int.not_lt, Int.not_le, zK0, zK1, zK2, zK3, zK5, zK7, zK8, zK9, zK10, zK19, zK20, zK40, zK99, zK100, zK199] at q4) | skip
    omega
  · skip
    first | (simp only [cmp_lt, cmp_gt, cmp_eq, zN_cge, zN_cle, Decidable.not_not] at q4) | (simp (disch := omega) only [zN_le, zN_lt, zN_0, zN_1, nI_toInt, zN_eq, zN_eq0, b2_z, b2_nz, Decidable.not_not, Int.not_lt, Int.not_le, zK0, zK1, zK2, zK3, zK5, zK7, zK8, zK9, zK10, zK19, zK20, zK40, zK99, zK100, zK199] at q4) | skip
    refine x_al0 rfl dX12_isAgain_7 ?_
    refine x_gm fdX12_13 W.hM (by decide) W.hF.f1 dX12_isAgain_8 ?_
    refine x_bipush (v := nI 21) dX12_isAgain_11 rfl ?_
    refine x_il1 dX12_isAgain_13 ?_
    first | refine x_iadd (nI_add _ _) dX12_isAgain_14 ?_ | refine x_iadd rfl dX12_isAgain_14 ?_
    refine x_al0 rfl dX12_isAgain_15 ?_
    refine x_gm fdX12_45 W.hM (by decide) W.hF.f23 dX12_isAgain_16 ?_
    refine x_il1 dX12_isAgain_19 ?_
    refine x_mld (len := 3) W rfl rfl (by decide) (by omega) (by first | assumption | rfl) dX12_isAgain_20 ?_
    refine x_mstU (len := 2868) W rfl rfl (by decide) (by omega) dX12_isAgain_21 (fun h W => ?_)
    first | refine x_ii1 rfl (nI_1 _) dX12_isAgain_22 ?_ | refine x_ii1 rfl rfl dX12_isAgain_22 ?_
    refine x_goto (tgt := 2) dX12_isAgain_25 rfl ?_
    refine x_il1 dX12_isAgain_2 ?_
    refine x_iconst (v := nI 3) dX12_isAgain_3 rfl ?_
    refine x_icmp_ge (tgt := 28) dX12_isAgain_4 rfl (fun q4 => ?_) (fun q4 => ?_)
    · skip
      first | (simp only [cmp_lt, cmp_gt, cmp_eq, zN_cge, zN_cle, Decidable.not_not] at q4) | (simp (disch := omega) only [zN_le, zN_lt, zN_0, zN_1, nI_toInt, zN_eq, zN_eq0, b2_z, b2_nz, Decidable.not_not, Int.not_lt, Int.not_le, zK0, zK1, zK2, zK3, zK5, zK7, zK8, zK9, zK10, zK19, zK20, zK40, zK99, zK100, zK199] at q4) | skip
      omega
    · skip
      first | (simp only [cmp_lt, cmp_gt, cmp_eq, zN_cge, zN_cle, Decidable.not_not] at q4) | (simp (disch := omega) only [zN_le, zN_lt, zN_0, zN_1, nI_toInt, zN_eq, zN_eq0, b2_z, b2_nz, Decidable.not_not, Int.not_lt, Int.not_le, zK0, zK1, zK2, zK3, zK5, zK7, zK8, zK9, zK10, zK19, zK20, zK40, zK99, zK100, zK199] at q4) | skip
      refine x_al0 rfl dX12_isAgain_7 ?_
      refine x_gm fdX12_13 W.hM (by decide) W.hF.f1 dX12_isAgain_8 ?_
      refine x_bipush (v := nI 21) dX12_isAgain_11 rfl ?_
      refine x_il1 dX12_isAgain_13 ?_
      first | refine x_iadd (nI_add _ _) dX12_isAgain_14 ?_ | refine x_iadd rfl dX12_isAgain_14 ?_
      refine x_al0 rfl dX12_isAgain_15 ?_
      refine x_gm fdX12_45 W.hM (by decide) W.hF.f23 dX12_isAgain_16 ?_
      refine x_il1 dX12_isAgain_19 ?_
      refine x_mld (len := 3) W rfl rfl (by decide) (by omega) (by first | assumption | rfl) dX12_isAgain_20 ?_
      refine x_mstU (len := 2868) W rfl rfl (by decide) (by omega) dX12_isAgain_21 (fun h W => ?_)
      first | refine x_ii1 rfl (nI_1 _) dX12_isAgain_22 ?_ | refine x_ii1 rfl rfl dX12_isAgain_22 ?_
      refine x_goto (tgt := 2) dX12_isAgain_25 rfl ?_
      refine x_il1 dX12_isAgain_2 ?_
      refine x_iconst (v := nI 3) dX12_isAgain_3 rfl ?_
      refine x_icmp_ge (tgt := 28) dX12_isAgain_4 rfl (fun q4 => ?_) (fun q4 => ?_)
      · skip
        first | (simp only [cmp_lt, cmp_gt, cmp_eq, zN_cge, zN_cle, Decidable.not_not] at q4) | (simp (disch := omega) only [zN_le, zN_lt, zN_0, zN_1, nI_toInt, zN_eq, zN_eq0, b2_z, b2_nz, Decidable.not_not, Int.not_lt, Int.not_le, zK0, zK1, zK2, zK3, zK5, zK7, zK8, zK9, zK10, zK19, zK20, zK40, zK99, zK100, zK199] at q4) | skip
        omega
      · skip
        first | (simp only [cmp_lt, cmp_gt, cmp_eq, zN_cge, zN_cle, Decidable.not_not] at q4) | (simp (disch := omega) only [zN_le, zN_lt, zN_0, zN_1, nI_toInt, zN_eq, zN_eq0, b2_z, b2_nz, Decidable.not_not, Int.not_lt, Int.not_le, zK0, zK1, zK2, zK3, zK5, zK7, zK8, zK9, zK10, zK19, zK20, zK40, zK99, zK100, zK199] at q4) | skip
        refine x_al0 rfl dX12_isAgain_7 ?_
        refine x_gm fdX12_13 W.hM (by decide) W.hF.f1 dX12_isAgain_8 ?_
        refine x_bipush (v := nI 21) dX12_isAgain_11 rfl ?_
        refine x_il1 dX12_isAgain_13 ?_
        first | refine x_iadd (nI_add _ _) dX12_isAgain_14 ?_ | refine x_iadd rfl dX12_isAgain_14 ?_
        refine x_al0 rfl dX12_isAgain_15 ?_
        refine x_gm fdX12_45 W.hM (by decide) W.hF.f23 dX12_isAgain_16 ?_
        refine x_il1 dX12_isAgain_19 ?_
        refine x_mld (len := 3) W rfl rfl (by decide) (by omega) (by first | assumption | rfl) dX12_isAgain_20 ?_
        refine x_mstU (len := 2868) W rfl rfl (by decide) (by omega) dX12_isAgain_21 (fun h W => ?_)
        first | refine x_ii1 rfl (nI_1 _) dX12_isAgain_22 ?_ | refine x_ii1 rfl rfl dX12_isAgain_22 ?_
        refine x_goto (tgt := 2) dX12_isAgain_25 rfl ?_
        refine x_il1 dX12_isAgain_2 ?_
        refine x_iconst (v := nI 3) dX12_isAgain_3 rfl ?_
        refine x_icmp_ge (tgt := 28) dX12_isAgain_4 rfl (fun q4 => ?_) (fun q4 => ?_)
        · skip
          first | (simp only [cmp_lt, cmp_gt, cmp_eq, zN_cge, zN_cle, Decidable.not_not] at q4) | (simp (disch := omega) only [zN_le, zN_lt, zN_0, zN_1, nI_toInt, zN_eq, zN_eq0, b2_z, b2_nz, Decidable.not_not, Int.not_lt, Int.not_le, zK0, zK1, zK2, zK3, zK5, zK7, zK8, zK9, zK10, zK19, zK20, zK40, zK99, zK100, zK199] at q4) | skip
          refine x_vret rfl dX12_isAgain_28 ⟨rfl, _, W, J.u60 (fun k hk => ?_) ⟨rfl, rfl, rfl, ha⟩ ⟨u1, u2, fun i hi => ?_⟩, Un.rf.m (by simp)⟩
          · exact (if_neg (by omega)).trans ((if_neg (by omega)).trans (if_neg (by omega)))
          · obtain ⟨c1, c2, c3, c4⟩ := J.2.2.1.2.2 i hi
            exact ⟨((if_neg (by omega)).trans ((if_neg (by omega)).trans (if_neg (by omega)))).trans c1, ((if_neg (by omega)).trans ((if_neg (by omega)).trans (if_neg (by omega)))).trans c2, ((if_neg (by omega)).trans ((if_neg (by omega)).trans (if_neg (by omega)))).trans c3, c4⟩
        · skip
          first | (simp only [cmp_lt, cmp_gt, cmp_eq, zN_cge, zN_cle, Decidable.not_not] at q4) | (simp (disch := omega) only [zN_le, zN_lt, zN_0, zN_1, nI_toInt, zN_eq, zN_eq0, b2_z, b2_nz, Decidable.not_not, Int.not_lt, Int.not_le, zK0, zK1, zK2, zK3, zK5, zK7, zK8, zK9, zK10, zK19, zK20, zK40, zK99, zK100, zK199] at q4) | skip
          omega
theorem lp_notes {a : zSt} (W : MW h0 h s M L) (J : MJ s M L dk st un tp tr pi fl) (hw : Was M a) (ha : a.1 < fct dk.1 ∧ a.2.1 < 10) (hl : un.length < 10) (lc : Option Value) : Zw g d 0 0 mX12_notes 55 [some (.ref 59), lc] [] h (rVp (fun h' => ∃ M', MW h0 h' s M' L ∧ MJ s M' L dk st (un ++ [a]) tp tr pi fl ∧ Un [] [60] [] s s M M' L L)) := by
  obtain ⟨D, hn0, hn6, ho0, ho9, hng, hli, e0, e1, e2, m1, m2, m3, m4, m5, u1, u2, t1, t2, r1, hf⟩ := MJ.o J
  obtain ⟨w1, w2, w3⟩ := hw
  replace W := W.u 60
  refine x_iconst (v := nI 0) dX12_notes_55 rfl ?_
  refine x_is1 rfl dX12_notes_56 ?_
  refine x_il1 dX12_notes_57 ?_
  refine x_iconst (v := nI 3) dX12_notes_58 rfl ?_
  refine x_icmp_ge (tgt := 93) dX12_notes_59 rfl (fun q59 => ?_) (fun q59 => ?_)
  · skip
    first | (simp only [cmp_lt, cmp_gt, cmp_eq, zN_cge, zN_cle, Decidable.not_not] at q59) | (simp (disch := omega) only [zN_le, zN_lt, zN_0, zN_1, nI_toInt, zN_eq, zN_eq0, b2_z, b2_nz, Decidable.not_not, Int.not_lt, Int.not_le, zK0, zK1, zK2, zK3, zK5, zK7, zK8, zK9, zK10, zK19, zK20, zK40, zK99, zK100, zK199] at q59) | skip
    omega
  · skip
    first | (simp only [cmp_lt, cmp_gt, cmp_eq, zN_cge, zN_cle, Decidable.not_not] at q59) | (simp (disch := omega) only [zN_le, zN_lt, zN_0, zN_1, nI_toInt, zN_eq, zN_eq0, b2_z, b2_nz, Decidable.not_not, Int.not_lt, Int.not_le, zK0, zK1, zK2, zK3, zK5, zK7, zK8, zK9, zK10, zK19, zK20, zK40, zK99, zK100, zK199] at q59) | skip
    refine x_al0 rfl dX12_notes_62 ?_
    refine x_gm fdX12_13 W.hM (by decide) W.hF.f1 dX12_notes_63 ?_
    refine x_bipush (v := nI 25) dX12_notes_66 rfl ?_
    refine x_iconst (v := nI 3) dX12_notes_68 rfl ?_
    refine x_al0 rfl dX12_notes_69 ?_
    refine x_gm fdX12_13 W.hM (by decide) W.hF.f1 dX12_notes_70 ?_
    refine x_bipush (v := nI 24) dX12_notes_73 rfl ?_
    refine x_mld (len := 2868) W rfl rfl (by decide) (by omega) u1 dX12_notes_75 ?_
    first | refine x_imul (pk_mul _ _) dX12_notes_76 ?_ | refine x_imul rfl dX12_notes_76 ?_
    first | refine x_iadd (nI_add _ _) dX12_notes_77 ?_ | refine x_iadd rfl dX12_notes_77 ?_
    refine x_il1 dX12_notes_78 ?_
    first | refine x_iadd (nI_add _ _) dX12_notes_79 ?_ | refine x_iadd rfl dX12_notes_79 ?_
    refine x_al0 rfl dX12_notes_80 ?_
    refine x_gm fdX12_45 W.hM (by decide) W.hF.f23 dX12_notes_81 ?_
    refine x_il1 dX12_notes_84 ?_
    refine x_mld (len := 3) W rfl rfl (by decide) (by omega) (by first | assumption | rfl) dX12_notes_85 ?_
    refine x_mstU (len := 2868) W rfl rfl (by decide) (by omega) dX12_notes_86 (fun h W => ?_)
    first | refine x_ii1 rfl (nI_1 _) dX12_notes_87 ?_ | refine x_ii1 rfl rfl dX12_notes_87 ?_
    refine x_goto (tgt := 57) dX12_notes_90 rfl ?_
    refine x_il1 dX12_notes_57 ?_
    refine x_iconst (v := nI 3) dX12_notes_58 rfl ?_
    refine x_icmp_ge (tgt := 93) dX12_notes_59 rfl (fun q59 => ?_) (fun q59 => ?_)
    · skip
      first | (simp only [cmp_lt, cmp_gt, cmp_eq, zN_cge, zN_cle, Decidable.not_not] at q59) | (simp (disch := omega) only [zN_le, zN_lt, zN_0, zN_1, nI_toInt, zN_eq, zN_eq0, b2_z, b2_nz, Decidable.not_not, Int.not_lt, Int.not_le, zK0, zK1, zK2, zK3, zK5, zK7, zK8, zK9, zK10, zK19, zK20, zK40, zK99, zK100, zK199] at q59) | skip
      omega
    · skip
      first | (simp only [cmp_lt, cmp_gt, cmp_eq, zN_cge, zN_cle, Decidable.not_not] at q59) | (simp (disch := omega) only [zN_le, zN_lt, zN_0, zN_1, nI_toInt, zN_eq, zN_eq0, b2_z, b2_nz, Decidable.not_not, Int.not_lt, Int.not_le, zK0, zK1, zK2, zK3, zK5, zK7, zK8, zK9, zK10, zK19, zK20, zK40, zK99, zK100, zK199] at q59) | skip
      refine x_al0 rfl dX12_notes_62 ?_
      refine x_gm fdX12_13 W.hM (by decide) W.hF.f1 dX12_notes_63 ?_
      refine x_bipush (v := nI 25) dX12_notes_66 rfl ?_
      refine x_iconst (v := nI 3) dX12_notes_68 rfl ?_
      refine x_al0 rfl dX12_notes_69 ?_
      refine x_gm fdX12_13 W.hM (by decide) W.hF.f1 dX12_notes_70 ?_
      refine x_bipush (v := nI 24) dX12_notes_73 rfl ?_
      refine x_mld (len := 2868) W rfl rfl (by decide) (by omega) ((if_neg (by omega)).trans u1) dX12_notes_75 ?_
      first | refine x_imul (pk_mul _ _) dX12_notes_76 ?_ | refine x_imul rfl dX12_notes_76 ?_
      first | refine x_iadd (nI_add _ _) dX12_notes_77 ?_ | refine x_iadd rfl dX12_notes_77 ?_
      refine x_il1 dX12_notes_78 ?_
      first | refine x_iadd (nI_add _ _) dX12_notes_79 ?_ | refine x_iadd rfl dX12_notes_79 ?_
      refine x_al0 rfl dX12_notes_80 ?_
      refine x_gm fdX12_45 W.hM (by decide) W.hF.f23 dX12_notes_81 ?_
      refine x_il1 dX12_notes_84 ?_
      refine x_mld (len := 3) W rfl rfl (by decide) (by omega) (by first | assumption | rfl) dX12_notes_85 ?_
      refine x_mstU (len := 2868) W rfl rfl (by decide) (by omega) dX12_notes_86 (fun h W => ?_)
      first | refine x_ii1 rfl (nI_1 _) dX12_notes_87 ?_ | refine x_ii1 rfl rfl dX12_notes_87 ?_
      refine x_goto (tgt := 57) dX12_notes_90 rfl ?_
      refine x_il1 dX12_notes_57 ?_
      refine x_iconst (v := nI 3) dX12_notes_58 rfl ?_
      refine x_icmp_ge (tgt := 93) dX12_notes_59 rfl (fun q59 => ?_) (fun q59 => ?_)
      · skip
        first | (simp only [cmp_lt, cmp_gt, cmp_eq, zN_cge, zN_cle, Decidable.not_not] at q59) | (simp (disch := omega) only [zN_le, zN_lt, zN_0, zN_1, nI_toInt, zN_eq, zN_eq0, b2_z, b2_nz, Decidable.not_not, Int.not_lt, Int.not_le, zK0, zK1, zK2, zK3, zK5, zK7, zK8, zK9, zK10, zK19, zK20, zK40, zK99, zK100, zK199] at q59) | skip
        omega
      · skip
        first | (simp only [cmp_lt, cmp_gt, cmp_eq, zN_cge, zN_cle, Decidable.not_not] at q59) | (simp (disch := omega) only [zN_le, zN_lt, zN_0, zN_1, nI_toInt, zN_eq, zN_eq0, b2_z, b2_nz, Decidable.not_not, Int.not_lt, Int.not_le, zK0, zK1, zK2, zK3, zK5, zK7, zK8, zK9, zK10, zK19, zK20, zK40, zK99, zK100, zK199] at q59) | skip
        refine x_al0 rfl dX12_notes_62 ?_
        refine x_gm fdX12_13 W.hM (by decide) W.hF.f1 dX12_notes_63 ?_
        refine x_bipush (v := nI 25) dX12_notes_66 rfl ?_
        refine x_iconst (v := nI 3) dX12_notes_68 rfl ?_
        refine x_al0 rfl dX12_notes_69 ?_
        refine x_gm fdX12_13 W.hM (by decide) W.hF.f1 dX12_notes_70 ?_
        refine x_bipush (v := nI 24) dX12_notes_73 rfl ?_
        refine x_mld (len := 2868) W rfl rfl (by decide) (by omega) ((if_neg (by omega)).trans ((if_neg (by omega)).trans u1)) dX12_notes_75 ?_
        first | refine x_imul (pk_mul _ _) dX12_notes_76 ?_ | refine x_imul rfl dX12_notes_76 ?_
        first | refine x_iadd (nI_add _ _) dX12_notes_77 ?_ | refine x_iadd rfl dX12_notes_77 ?_
        refine x_il1 dX12_notes_78 ?_
        first | refine x_iadd (nI_add _ _) dX12_notes_79 ?_ | refine x_iadd rfl dX12_notes_79 ?_
        refine x_al0 rfl dX12_notes_80 ?_
        refine x_gm fdX12_45 W.hM (by decide) W.hF.f23 dX12_notes_81 ?_
        refine x_il1 dX12_notes_84 ?_
        refine x_mld (len := 3) W rfl rfl (by decide) (by omega) (by first | assumption | rfl) dX12_notes_85 ?_
        refine x_mstU (len := 2868) W rfl rfl (by decide) (by omega) dX12_notes_86 (fun h W => ?_)
        first | refine x_ii1 rfl (nI_1 _) dX12_notes_87 ?_ | refine x_ii1 rfl rfl dX12_notes_87 ?_
        refine x_goto (tgt := 57) dX12_notes_90 rfl ?_
        refine x_il1 dX12_notes_57 ?_
        refine x_iconst (v := nI 3) dX12_notes_58 rfl ?_
        refine x_icmp_ge (tgt := 93) dX12_notes_59 rfl (fun q59 => ?_) (fun q59 => ?_)
        · skip
          first | (simp only [cmp_lt, cmp_gt, cmp_eq, zN_cge, zN_cle, Decidable.not_not] at q59) | (simp (disch := omega) only [zN_le, zN_lt, zN_0, zN_1, nI_toInt, zN_eq, zN_eq0, b2_z, b2_nz, Decidable.not_not, Int.not_lt, Int.not_le, zK0, zK1, zK2, zK3, zK5, zK7, zK8, zK9, zK10, zK19, zK20, zK40, zK99, zK100, zK199] at q59) | skip
          refine x_al0 rfl dX12_notes_93 ?_
          refine x_gm fdX12_13 W.hM (by decide) W.hF.f1 dX12_notes_94 ?_
          refine x_bipush (v := nI 24) dX12_notes_97 rfl ?_
          refine x_dup2 rfl rfl dX12_notes_99 ?_
          refine x_mld (len := 2868) W rfl rfl (by decide) (by omega) ((if_neg (by omega)).trans ((if_neg (by omega)).trans ((if_neg (by omega)).trans u1))) dX12_notes_100 ?_
          refine x_iconst (v := nI 1) dX12_notes_101 rfl ?_
          first | refine x_iadd (nI_add _ _) dX12_notes_102 ?_ | refine x_iadd rfl dX12_notes_102 ?_
          refine x_mstU (len := 2868) W rfl rfl (by decide) (by omega) dX12_notes_103 (fun h W => ?_)
          refine x_vret rfl dX12_notes_104 ⟨rfl, _, W, J.u60 (fun k hk => ?_) ⟨?_, ?_, ?_, m4, m5⟩ ⟨?_, ?_, fun i hi => ?_⟩, Un.rf.m (by simp)⟩
          · exact (if_neg (by omega)).trans ((if_neg (by omega)).trans ((if_neg (by omega)).trans (if_neg (by omega))))
          · exact ((if_neg (by omega)).trans ((if_neg (by omega)).trans ((if_neg (by omega)).trans (if_neg (by omega))))).trans m1
          · exact ((if_neg (by omega)).trans ((if_neg (by omega)).trans ((if_neg (by omega)).trans (if_neg (by omega))))).trans m2
          · exact ((if_neg (by omega)).trans ((if_neg (by omega)).trans ((if_neg (by omega)).trans (if_neg (by omega))))).trans m3
          · rw [List.length_append]; rfl
          · rw [List.length_append]; exact hl
          · rw [List.length_append, List.length_singleton] at hi
            by_cases q : i = un.length
            · subst q
              rw [gD_n]
              exact ⟨(if_neg (by omega)).trans ((if_neg (by omega)).trans ((if_neg (by omega)).trans (if_pos (by omega)))), (if_neg (by omega)).trans ((if_neg (by omega)).trans (if_pos (by omega))), (if_neg (by omega)).trans (if_pos (by omega)), ha⟩
            · rw [gD_l (by omega)]
              obtain ⟨c1, c2, c3, c4⟩ := J.2.2.1.2.2 i (by omega)
              exact ⟨((if_neg (by omega)).trans ((if_neg (by omega)).trans ((if_neg (by omega)).trans (if_neg (by omega))))).trans c1, ((if_neg (by omega)).trans ((if_neg (by omega)).trans ((if_neg (by omega)).trans (if_neg (by omega))))).trans c2, ((if_neg (by omega)).trans ((if_neg (by omega)).trans ((if_neg (by omega)).trans (if_neg (by omega))))).trans c3, c4⟩
        · skip
          first | (simp only [cmp_lt, cmp_gt, cmp_eq, zN_cge, zN_cle, Decidable.not_not] at q59) | (simp (disch := omega) only [zN_le, zN_lt, zN_0, zN_1, nI_toInt, zN_eq, zN_eq0, b2_z, b2_nz, Decidable.not_not, Int.not_lt, Int.not_le, zK0, zK1, zK2, zK3, zK5, zK7, zK8, zK9, zK10, zK19, zK20, zK40, zK99, zK100, zK199] at q59) | skip
          omega
/-- the first three have gone -/
def shf (f : Nat → Int32) (i k : Nat) : Int32 := if 25 ≤ k ∧ k < 25 + i then f (k + 3) else f k
theorem j_notes {a : zSt} (W : MW h0 h s M L) (J : MJ s M L dk st un tp tr pi fl) (hw : Was M a) (ha : a.1 < fct dk.1 ∧ a.2.1 < 10) : Zm g d 0 0 mX12_notes [.ref 59] h (rVp (fun h' => ∃ M', MW h0 h' s M' L ∧ MJ s M' L dk st (pushU un a) tp tr pi fl ∧ Un [] [60] [] s s M M' L L)) := by
  obtain ⟨D, hn0, hn6, ho0, ho9, hng, hli, e0, e1, e2, m1, m2, m3, m4, m5, u1, u2, t1, t2, r1, hf⟩ := MJ.o J
  show Zw g d 0 0 mX12_notes 0 [some (.ref 59), none] [] h _
  have u24 : nI un.length = nI 10 ↔ un.length = 10 := nI_eq (by omega) (by decide)
  refine x_al0 rfl dX12_notes_0 ?_
  refine x_gm fdX12_13 W.hM (by decide) W.hF.f1 dX12_notes_1 ?_
  refine x_bipush (v := nI 24) dX12_notes_4 rfl ?_
  refine x_mld (len := 2868) W rfl rfl (by decide) (by omega) (by first | assumption | rfl) dX12_notes_6 ?_
  refine x_bipush (v := nI 10) dX12_notes_7 rfl ?_
  refine x_icmp_ne (tgt := 55) dX12_notes_9 rfl (fun q9 => ?_) (fun q9 => ?_)
  · skip
    unfold pushU
    rw [if_neg (fun z => q9 (u24.mpr z))]
    exact lp_notes W J hw ha (by rw [u24] at q9; omega) none
  · skip
    refine x_iconst (v := nI 0) dX12_notes_12 rfl ?_
    refine x_is1 rfl dX12_notes_13 ?_
    rw [u24] at q9
    have W0 : MW h0 h s (upM M 60 (shf (M 60) 0)) L := by rw [show shf (M 60) 0 = M 60 from funext (fun k => if_neg (by omega))]; exact W.u 60
    refine x_for (e := 27) (fun i => [some (.ref 59), some (.int (nI i))]) (fun i h => MW h0 h s (upM M 60 (shf (M 60) i)) L) 0 (by omega) W0 (fun h W => ?_) (fun i h hi W ih => ?_)
    · refine x_il1 dX12_notes_14 ?_
      refine x_bipush (v := nI 27) dX12_notes_15 rfl ?_
      refine x_icmp_ge (tgt := 44) dX12_notes_17 rfl (fun q17 => ?_) (fun q17 => ?_)
      · skip
        first | (simp only [cmp_lt, cmp_gt, cmp_eq, zN_cge, zN_cle, Decidable.not_not] at q17) | (simp (disch := omega) only [zN_le, zN_lt, zN_0, zN_1, nI_toInt, zN_eq, zN_eq0, b2_z, b2_nz, Decidable.not_not, Int.not_lt, Int.not_le, zK0, zK1, zK2, zK3, zK5, zK7, zK8, zK9, zK10, zK19, zK20, zK40, zK99, zK100, zK199] at q17) | skip
        refine x_al0 rfl dX12_notes_44 ?_
        refine x_gm fdX12_13 W.hM (by decide) W.hF.f1 dX12_notes_45 ?_
        refine x_bipush (v := nI 24) dX12_notes_48 rfl ?_
        refine x_dup2 rfl rfl dX12_notes_50 ?_
        refine x_mld (len := 2868) W rfl rfl (by decide) (by omega) (show shf (M 60) 27 24 = _ from (if_neg (by omega)).trans (u1.trans (congrArg nI q9))) dX12_notes_51 ?_
        refine x_iconst (v := nI 1) dX12_notes_52 rfl ?_
        refine x_isub (pk_sub (a := 10) (b := 1) (by decide)) dX12_notes_53 ?_
        refine x_mstU (len := 2868) W rfl rfl (by decide) (by omega) dX12_notes_54 (fun h W => ?_)
        unfold pushU
        rw [if_pos q9]
        have J2 : MJ s (upM M 60 (upd (shf (M 60) 27) 24 (nI 9))) L dk st (un.drop 1) tp tr pi fl := by
          refine J.u60 (fun k hk => (if_neg (by omega)).trans (if_neg (by omega))) ⟨((if_neg (by omega)).trans (if_neg (by omega))).trans m1, ((if_neg (by omega)).trans (if_neg (by omega))).trans m2, ((if_neg (by omega)).trans (if_neg (by omega))).trans m3, m4, m5⟩ ⟨?_, by simp; omega, fun i hi => ?_⟩
          · rw [List.length_drop, q9]; rfl
          · rw [List.length_drop, q9] at hi
            have e : (un.drop 1).getD i (0, 0, 0) = un.getD (i + 1) (0, 0, 0) := by
              rw [List.getD_eq_getElem?_getD, List.getD_eq_getElem?_getD, List.getElem?_drop, Nat.add_comm]
            rw [e]
            obtain ⟨c1, c2, c3, c4⟩ := J.2.2.1.2.2 (i + 1) (by omega)
            refine ⟨((if_neg (by omega)).trans (if_pos (by omega))).trans ?_, ((if_neg (by omega)).trans (if_pos (by omega))).trans ?_, ((if_neg (by omega)).trans (if_pos (by omega))).trans ?_, c4⟩
            · rw [show 25 + 3 * i + 3 = 25 + 3 * (i + 1) by omega]; exact c1
            · rw [show 25 + 3 * i + 1 + 3 = 25 + 3 * (i + 1) + 1 by omega]; exact c2
            · rw [show 25 + 3 * i + 2 + 3 = 25 + 3 * (i + 1) + 2 by omega]; exact c3
        refine Zw.mono (lp_notes W J2 hw ha (by rw [List.length_drop]; omega) _) (fun v h' hq => ?_)
        obtain ⟨rfl, M', z1, z2, z3⟩ := hq
        exact ⟨rfl, M', z1, z2, (Un.rf.m (by simp)).tr z3⟩
      · skip
        first | (simp only [cmp_lt, cmp_gt, cmp_eq, zN_cge, zN_cle, Decidable.not_not] at q17) | (simp (disch := omega) only [zN_le, zN_lt, zN_0, zN_1, nI_toInt, zN_eq, zN_eq0, b2_z, b2_nz, Decidable.not_not, Int.not_lt, Int.not_le, zK0, zK1, zK2, zK3, zK5, zK7, zK8, zK9, zK10, zK19, zK20, zK40, zK99, zK100, zK199] at q17) | skip
        omega
    · refine x_il1 dX12_notes_14 ?_
      refine x_bipush (v := nI 27) dX12_notes_15 rfl ?_
      refine x_icmp_ge (tgt := 44) dX12_notes_17 rfl (fun q17 => ?_) (fun q17 => ?_)
      · skip
        first | (simp only [cmp_lt, cmp_gt, cmp_eq, zN_cge, zN_cle, Decidable.not_not] at q17) | (simp (disch := omega) only [zN_le, zN_lt, zN_0, zN_1, nI_toInt, zN_eq, zN_eq0, b2_z, b2_nz, Decidable.not_not, Int.not_lt, Int.not_le, zK0, zK1, zK2, zK3, zK5, zK7, zK8, zK9, zK10, zK19, zK20, zK40, zK99, zK100, zK199] at q17) | skip
        omega
      · skip
        first | (simp only [cmp_lt, cmp_gt, cmp_eq, zN_cge, zN_cle, Decidable.not_not] at q17) | (simp (disch := omega) only [zN_le, zN_lt, zN_0, zN_1, nI_toInt, zN_eq, zN_eq0, b2_z, b2_nz, Decidable.not_not, Int.not_lt, Int.not_le, zK0, zK1, zK2, zK3, zK5, zK7, zK8, zK9, zK10, zK19, zK20, zK40, zK99, zK100, zK199] at q17) | skip
        refine x_al0 rfl dX12_notes_20 ?_
        refine x_gm fdX12_13 W.hM (by decide) W.hF.f1 dX12_notes_21 ?_
        refine x_bipush (v := nI 25) dX12_notes_24 rfl ?_
        refine x_il1 dX12_notes_26 ?_
        first | refine x_iadd (nI_add _ _) dX12_notes_27 ?_ | refine x_iadd rfl dX12_notes_27 ?_
        refine x_al0 rfl dX12_notes_28 ?_
        refine x_gm fdX12_13 W.hM (by decide) W.hF.f1 dX12_notes_29 ?_
        refine x_bipush (v := nI 28) dX12_notes_32 rfl ?_
        refine x_il1 dX12_notes_34 ?_
        first | refine x_iadd (nI_add _ _) dX12_notes_35 ?_ | refine x_iadd rfl dX12_notes_35 ?_
        refine x_mld (len := 2868) W rfl rfl (by decide) (by omega) rfl dX12_notes_36 ?_
        refine x_mstU (len := 2868) W rfl rfl (by decide) (by omega) dX12_notes_37 (fun h W => ?_)
        first | refine x_ii1 rfl (nI_1 _) dX12_notes_38 ?_ | refine x_ii1 rfl rfl dX12_notes_38 ?_
        refine x_goto (tgt := 14) dX12_notes_41 rfl ?_
        refine ih _ ?_
        have e : upd (shf (M 60) i) (25 + i) (shf (M 60) i (28 + i)) = shf (M 60) (i + 1) := by
          funext k
          unfold upd shf
          by_cases q : k = 25 + i
          · subst q; rw [if_pos rfl, if_neg (by omega), if_pos (by omega), show 25 + i + 3 = 28 + i by omega]
          · rw [if_neg q]
            by_cases q2 : 25 ≤ k ∧ k < 25 + i
            · rw [if_pos q2, if_pos (by omega)]
            · rw [if_neg q2, if_neg (by omega)]
        rw [← e]
        exact W
end ZMu

