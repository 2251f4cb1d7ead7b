/-! the class's Visits: maskOf -/
/-- behind visits: the world stands -/
def MkP (h h' : zH) (n rn rs : Nat) (sw : Int32) (rt rmv rmk rkn rks op : Nat) (nx sp : Option (List Nat)) : Prop := Gv rmv rmk rkn rks h h' ∧ VC h' n rn rs sw rt rmv rmk rkn rks op nx sp
theorem Memo.putk {n op row c : Nat} {nx sp : Option (List Nat)} {fm fk kp : Nat → Int32} (a : Memo n op nx sp fm fk kp) (hr : row < fct n) : Memo n op nx sp fm (upd fk (c * fct n + row) (nI (1 + msk n op nx sp row c))) kp := by
  intro c' hc'
  obtain ⟨m1, m2⟩ := a c' hc'
  refine ⟨m1, fun hk => ⟨(m2 hk).1, fun row' hr' => ?_⟩⟩
  by_cases q : c' * fct n + row' = c * fct n + row
  · obtain ⟨rfl, rfl⟩ := inj2 hr' hr q
    right
    simp [upd]
  · simp only [upd, if_neg q]
    exact (m2 hk).2 row' hr'
section ZK
variable {g : zG} {d : Nat} {h0 : zH} {n rn rs rt rmv rmk rkn rks op c : Nat} {sw : Int32} {nx sp : Option (List Nat)}
theorem lp_mask {row : Nat} {ii : Int32} {Q : Option Value → zH → Prop} (hc : c < 10) (hr : row < fct n) : ∀ (k p b : Nat) (h : zH), p + k = n → Gv rmv rmk rkn rks h0 h → VC h n rn rs sw rt rmv rmk rkn rks op nx sp → (∃ kp, h[23]? = some (.inl (3, 10, .inl kp)) ∧ kp c = 1) → (∀ h', Gv rmv rmk rkn rks h0 h' → VC h' n rn rs sw rt rmv rmk rkn rks op nx sp → (∃ kp, h'[23]? = some (.inl (3, 10, .inl kp)) ∧ kp c = 1) → Zw g (d + 5) 0 0 mX9_maskOf 93 [some (.ref 20), some (.int (nI row)), some (.int (nI c)), some (.int ii), some (.int (nI (mskL n op nx sp row c k p b))), some (.int (nI n))] [] h' Q) →
    Zw g (d + 5) 0 0 mX9_maskOf 47 [some (.ref 20), some (.int (nI row)), some (.int (nI c)), some (.int ii), some (.int (nI b)), some (.int (nI p))] [] h Q := by
  intro k
  induction k with
  | zero =>
    intro p b h hp hfr hV hkp K
    obtain rfl : p = n := by omega
    have hR := hV.1.2.2.2.2.1
    have hn := hV.1.2.1
    obtain ⟨len, fr, h20⟩ := hV.2.2.1
    refine x_il5 dX9_maskOf_47 ?_
    refine x_al0 rfl dX9_maskOf_49 ?_
    refine x_get fdX9_46 h20 rfl dX9_maskOf_50 ?_
    refine x_get fdX9_63 hR rfl dX9_maskOf_53 ?_
    refine x_icmp_ge (tgt := 93) dX9_maskOf_56 rfl (fun q1 => ?_) (fun q1 => ?_)
    · exact K h hfr hV hkp
    · exact absurd (nI_le (Nat.le_refl _) (by omega)) q1
  | succ k ih =>
    intro p b h hp hfr hV hkp K
    have hR := hV.1.2.2.2.2.1
    have hn := hV.1.2.1
    obtain ⟨len, fr, h20⟩ := hV.2.2.1
    refine x_il5 dX9_maskOf_47 ?_
    refine x_al0 rfl dX9_maskOf_49 ?_
    refine x_get fdX9_46 h20 rfl dX9_maskOf_50 ?_
    refine x_get fdX9_63 hR rfl dX9_maskOf_53 ?_
    refine x_icmp_ge (tgt := 93) dX9_maskOf_56 rfl (fun q1 => ?_) (fun q1 => ?_)
    · exact absurd q1 (nI_ge (by omega) (by omega))
    · refine x_al0 rfl dX9_maskOf_59 ?_
      refine x_il5 dX9_maskOf_60 ?_
      refine x_il1 dX9_maskOf_62 ?_
      refine x_il2 dX9_maskOf_63 ?_
      refine x_cv3Vp mX9_go_ok lkX9_68 rfl (Nat.le_of_ble_eq_true rfl) (Nat.le_of_ble_eq_true rfl) dX9_maskOf_64 h20 (c_go hV hc hr (show p < n by omega)) (fun h2 hq => ?_)
      obtain ⟨w, pa, G, -⟩ := hq
      refine x_il4 dX9_maskOf_67 ?_
      refine x_al0 rfl dX9_maskOf_69 ?_
      refine x_get fdX9_42 G.v20 rfl dX9_maskOf_70 ?_
      by_cases hb : (vis n op nx sp row p c).2 = true
      · rw [b2o hb]
        refine x_if_eq (tgt := 83) dX9_maskOf_73 rfl (fun q2 => ?_) (fun q2 => ?_)
        · exact absurd q2 (by decide)
        · refine x_iconst (v := nI 1) dX9_maskOf_76 rfl ?_
          refine x_il5 dX9_maskOf_77 ?_
          refine x_ishl (shl1 (by omega)) dX9_maskOf_79 ?_
          refine x_goto (tgt := 84) dX9_maskOf_80 rfl ?_
          refine x_ior (or_n _ _) dX9_maskOf_84 ?_
          refine x_is4 rfl dX9_maskOf_85 ?_
          first | refine x_ii5 rfl (nI_1 _) dX9_maskOf_87 ?_ | refine x_ii5 rfl rfl dX9_maskOf_87 ?_
          refine x_goto (tgt := 47) dX9_maskOf_90 rfl ?_
          refine ih (p + 1) _ _ (by omega) (hfr.tr G.frm) G.vc G.kp ?_
          unfold mskL at K
          rw [if_pos hb] at K
          exact K
      · rw [b2z hb]
        refine x_if_eq (tgt := 83) dX9_maskOf_73 rfl (fun q2 => ?_) (fun q2 => ?_)
        · refine x_iconst (v := nI 0) dX9_maskOf_83 rfl ?_
          refine x_ior (or_n _ _) dX9_maskOf_84 ?_
          refine x_is4 rfl dX9_maskOf_85 ?_
          first | refine x_ii5 rfl (nI_1 _) dX9_maskOf_87 ?_ | refine x_ii5 rfl rfl dX9_maskOf_87 ?_
          refine x_goto (tgt := 47) dX9_maskOf_90 rfl ?_
          refine ih (p + 1) _ _ (by omega) (hfr.tr G.frm) G.vc G.kp ?_
          unfold mskL at K
          rw [if_neg hb] at K
          exact K
        · exact absurd rfl q2
theorem c_maskOf {h : zH} {row : Nat} (hV : VC h n rn rs sw rt rmv rmk rkn rks op nx sp) (hc : c < 10) (hr : row < fct n) : Zm g (d + 5) 0 0 mX9_maskOf [.ref 20, .int (nI row), .int (nI c)] h (rIp (fun r h' => r = nI (msk n op nx sp row c) ∧ MkP h h' n rn rs sw rt rmv rmk rkn rks op nx sp)) := by
  obtain ⟨len, fr, h20⟩ := hV.2.2.1
  show Zw g (d + 5) 0 0 mX9_maskOf 0 [some (.ref 20), some (.int (nI row)), some (.int (nI c)), none, none, none] [] h _
  refine x_al0 rfl dX9_maskOf_0 ?_
  refine x_il2 dX9_maskOf_1 ?_
  refine x_cv1Vp mX9_prepare_ok lkX9_64 rfl (Nat.le_of_ble_eq_true rfl) (Nat.le_of_ble_eq_true rfl) dX9_maskOf_2 h20 (c_prepare hV hc) (fun h2 hq => ?_)
  obtain ⟨⟨f1, hV, hkp⟩, -, -, -⟩ := hq
  clear h20
  have hn := hV.1.2.1
  have hR := hV.1.2.2.2.2.1
  have hmk := msk_lt (op := op) (nx := nx) (sp := sp) (row := row) (c := c) hn
  have hN10 := c10_le (M := fct n) hc
  rw [Nat.add_mul] at hN10
  have hfl := fct_le hn
  have hVV := hV
  obtain ⟨-, -, ⟨len, fr, h20⟩, -, -, ⟨lm, fm, lk, fk, kp, b1, b2', b3, b4, b5, b6, b7, b8⟩, -⟩ := hVV
  refine x_il2 dX9_maskOf_5 ?_
  refine x_al0 rfl dX9_maskOf_6 ?_
  refine x_get fdX9_46 h20 rfl dX9_maskOf_7 ?_
  refine x_get fdX9_58 hR rfl dX9_maskOf_10 ?_
  first | refine x_imul (pk_mul _ _) dX9_maskOf_13 ?_ | refine x_imul rfl dX9_maskOf_13 ?_
  refine x_il1 dX9_maskOf_14 ?_
  first | refine x_iadd (nI_add _ _) dX9_maskOf_15 ?_ | refine x_iadd rfl dX9_maskOf_15 ?_
  refine x_is3 rfl dX9_maskOf_16 ?_
  refine x_il3 dX9_maskOf_17 ?_
  refine x_if_lt (tgt := 30) dX9_maskOf_18 rfl (fun q1 => ?_) (fun q1 => ?_)
  · exact absurd q1 (nI_pos (by omega))
  · refine x_il3 dX9_maskOf_21 ?_
    refine x_al0 rfl dX9_maskOf_22 ?_
    refine x_get fdX9_19 h20 rfl dX9_maskOf_23 ?_
    refine x_alen rfl b2' rfl dX9_maskOf_26 ?_
    refine x_icmp_lt (tgt := 32) dX9_maskOf_27 rfl (fun q2 => ?_) (fun q2 => ?_)
    · refine x_al0 rfl dX9_maskOf_32 ?_
      refine x_get fdX9_19 h20 rfl dX9_maskOf_33 ?_
      refine x_il3 dX9_maskOf_36 ?_
      refine x_bald b2' (vp_in_nI (by omega) b7) (ald rfl (by omega)) dX9_maskOf_37 ?_
      refine x_if_ne (tgt := 104) dX9_maskOf_38 rfl (fun q3 => ?_) (fun q3 => ?_)
      · have hk1 : fk (c * fct n + row) = nI (1 + msk n op nx sp row c) := by
          obtain ⟨kp', k1, k2⟩ := hkp
          rw [b3] at k1
          cases k1
          rcases ((b8 c hc).2 k2).2 row hr with z | z
          · exact absurd z q3
          · exact z
        refine x_al0 rfl dX9_maskOf_104 ?_
        refine x_get fdX9_19 h20 rfl dX9_maskOf_105 ?_
        refine x_il3 dX9_maskOf_108 ?_
        refine x_bald b2' (vp_in_nI (by omega) b7) (v := nI (1 + msk n op nx sp row c)) (ald hk1 (by omega)) dX9_maskOf_109 ?_
        refine x_iconst (v := nI 1) dX9_maskOf_110 rfl ?_
        refine x_isub (pk_sub (by omega)) dX9_maskOf_111 ?_
        exact x_iret rfl rfl dX9_maskOf_112 ⟨_, rfl, by rw [Nat.add_sub_cancel_left], f1, hV⟩
      · clear q3
        refine x_iconst (v := nI 0) dX9_maskOf_41 rfl ?_
        refine x_is4 rfl dX9_maskOf_42 ?_
        refine x_iconst (v := nI 0) dX9_maskOf_44 rfl ?_
        refine x_is5 rfl dX9_maskOf_45 ?_
        refine lp_mask hc hr n 0 0 h2 (by omega) f1 hV hkp (fun h3 f3 hV3 hkp3 => ?_)
        clear h20 b1 b2' b3 hR
        obtain ⟨-, -, ⟨len, fr, h20⟩, -, -, ⟨lm, fm, lk, fk, kp, b1, b2', b3, b4, b5, b6, b7, b8⟩, -, -, n1, n2, n3, -⟩ := id hV3
        rw [show mskL n op nx sp row c n 0 0 = msk n op nx sp row c from rfl]
        refine x_al0 rfl dX9_maskOf_93 ?_
        refine x_get fdX9_19 h20 rfl dX9_maskOf_94 ?_
        refine x_il3 dX9_maskOf_97 ?_
        refine x_iconst (v := nI 1) dX9_maskOf_98 rfl ?_
        refine x_il4 dX9_maskOf_99 ?_
        first | refine x_iadd (nI_add _ _) dX9_maskOf_101 ?_ | refine x_iadd rfl dX9_maskOf_101 ?_
        refine x_i2b (byte_v (by omega)) dX9_maskOf_102 ?_
        refine x_bast b2' (vp_in_nI (by omega) b7) dX9_maskOf_103 ?_
        rw [nI_clamp (by omega), nar_n (by omega)]
        have vA : VA (h3.set rmk (.inl (1, lk, .inl (upd fk (c * fct n + row) (nI (1 + msk n op nx sp row c)))))) n op nx sp rmv rmk := ⟨lm, fm, lk, _, kp, by rw [hs_ne (Ne.symm n3)]; exact b1, hs_eq b2', hs_t b2' b3 (by simp [z_tg]), b4, b5, b6, b7, b8.putk hr⟩
        have v1 := hV3.sA (e := .inl (1, lk, .inl (upd fk (c * fct n + row) (nI (1 + msk n op nx sp row c))))) b2' (Or.inl (by simp [z_tg])) (Ne.symm n2) vA
        have g20 := hs_t (e := .inl (1, lk, .inl (upd fk (c * fct n + row) (nI (1 + msk n op nx sp row c))))) b2' h20 (by simp [z_tg])
        have gmk := hs_eq (e := .inl (1, lk, .inl (upd fk (c * fct n + row) (nI (1 + msk n op nx sp row c))))) b2'
        refine x_al0 rfl dX9_maskOf_104 ?_
        refine x_get fdX9_19 g20 rfl dX9_maskOf_105 ?_
        refine x_il3 dX9_maskOf_108 ?_
        refine x_bald gmk (vp_in_nI (by omega) b7) (v := nI (1 + msk n op nx sp row c)) (ald (by simp [upd]) (by omega)) dX9_maskOf_109 ?_
        refine x_iconst (v := nI 1) dX9_maskOf_110 rfl ?_
        refine x_isub (pk_sub (by omega)) dX9_maskOf_111 ?_
        exact x_iret rfl rfl dX9_maskOf_112 ⟨_, rfl, by rw [Nat.add_sub_cancel_left], f3.tr (Gv.setA (by simp) b2'), v1⟩
    · exact absurd (nI_lt (by omega) b7) q2
end ZK

