/-! the class over its world: the engine's contracts, and the first calls -/
section ZKE
variable {g : zG} {d : Nat} {h0 h h' : zH} {dk : zDk} {st : zSt} {un : List zSt} {tp : List Nat} {tr : Nat → zTr} {pi : Nat → zPi} {fl : Nat × Nat} {ln : zLn} {sb sj : zS3} {dr : Int32}
theorem CI.rT (I : CI h0 h dk st un tp tr pi fl ln sb sj dr) : ∃ rn rs sw, RT h dk.1 rn rs sw := by
  obtain ⟨Z, rt, ds, C, ⟨av, stk, rn, rs, sw, rmv, rmk, rkn, rks, wst, wqu, wwe, wla, hV, E⟩, J⟩ := I
  exact ⟨rn, rs, sw, hV.1⟩
theorem CI.md (I : CI h0 h dk st un tp tr pi fl ln sb sj dr) (q : Md h h') : CI h0 h' dk st un tp tr pi fl ln sb sj dr := by
  obtain ⟨Z, rt, ds, C, W, J⟩ := I
  obtain ⟨w1, w2⟩ := EW.md W q
  exact CI.en C J w1 w2
theorem k_nameIn {s dd : Nat} (I : CI h0 h dk st un tp tr pi fl ln sb sj dr) (hs : s < fct dk.1) (hd : dd < dk.1) : Zm g d 0 0 mX5_nameIn [.ref 15, .int (nI s), .int (nI dd)] h (rI (nI (nm dk.1 s dd)) h) := by
  obtain ⟨rn, rs, sw, T⟩ := I.rT
  exact c_nameIn T hs hd
theorem k_swappedRow {s dd e : Nat} (I : CI h0 h dk st un tp tr pi fl ln sb sj dr) (hs : s < fct dk.1) (hd : dd < dk.1) (he : e < dk.1) : Zm g (d + 1) 0 0 mX5_swappedRow [.ref 15, .int (nI s), .int (nI dd), .int (nI e)] h (rIp (fun r h' => r = nI (sw1 dk.1 s dd e) ∧ CI h0 h' dk st un tp tr pi fl ln sb sj dr)) := by
  obtain ⟨rn, rs, sw, T⟩ := I.rT
  refine Zm.mono (c_X5_swappedRow T hs hd he) (fun v h' hq => ?_)
  obtain ⟨r, rfl, q1, q2⟩ := hq
  exact ⟨r, rfl, q1, I.md q2⟩
theorem k_movedRow {s q : Nat} (I : CI h0 h dk st un tp tr pi fl ln sb sj dr) (hs : s < fct dk.1) (hq : q < fct dk.1) : Zm g (d + 1) 0 0 mX5_movedRow [.ref 15, .int (nI s), .int (nI q)] h (rIp (fun r h' => r = nI (ngt dk.1 q s) ∧ CI h0 h' dk st un tp tr pi fl ln sb sj dr)) := by
  obtain ⟨rn, rs, sw, T⟩ := I.rT
  refine Zm.mono (c_X5_movedRow (p := ngP dk.1 q s) T hs hq (fun i hi => ngP_at I.dkB.2.1 hq hi)) (fun v h' hq => ?_)
  obtain ⟨r, rfl, q1, q2⟩ := hq
  exact ⟨r, rfl, q1, I.md q2⟩
theorem k_powerOf {s K : Nat} (I : CI h0 h dk st un tp tr pi fl ln sb sj dr) (hs : s < fct dk.1) (hK : K < 2 ^ 63) : Zm g (d + 2) 0 0 mX5_powerOf [.ref 15, .int (nI s), .long (lN K)] h (rIp (fun r h' => r = nI (pow dk.1 s K) ∧ CI h0 h' dk st un tp tr pi fl ln sb sj dr)) := by
  obtain ⟨rn, rs, sw, T⟩ := I.rT
  refine Zm.mono (c_X5_powerOf T hs hK) (fun v h' hq => ?_)
  obtain ⟨r, rfl, q1, q2⟩ := hq
  exact ⟨r, rfl, q1, I.md q2⟩
theorem k_orderOf {s : Nat} (I : CI h0 h dk st un tp tr pi fl ln sb sj dr) (hs : s < fct dk.1) : Zm g (d + 3) 0 0 mX5_orderOf [.ref 15, .int (nI s)] h (rIp (fun r h' => r = nI (ordr dk.1 s) ∧ CI h0 h' dk st un tp tr pi fl ln sb sj dr)) := by
  obtain ⟨rn, rs, sw, T⟩ := I.rT
  refine Zm.mono (c_X5_orderOf T hs) (fun v h' hq => ?_)
  obtain ⟨r, rfl, q1, q2⟩ := hq
  exact ⟨r, rfl, q1, I.md q2⟩
abbrev visD (dk : zDk) (row p c : Nat) : List Nat × Bool := vis dk.1 dk.2.1 dk.2.2.2.2.1 dk.2.2.2.2.2 row p c
theorem k_maskOf {row c : Nat} (I : CI h0 h dk st un tp tr pi fl ln sb sj dr) (hr : row < fct dk.1) (hc : c < 10) : Zm g (d + 5) 0 0 mX9_maskOf [.ref 20, .int (nI row), .int (nI c)] h (rIp (fun r h' => r = nI (mskK dk row c) ∧ CI h0 h' dk st un tp tr pi fl ln sb sj dr)) := by
  obtain ⟨Z, rt, ds, C, ⟨av, stk, rn, rs, sw, rmv, rmk, rkn, rks, wst, wqu, wwe, wla, hV, E⟩, J⟩ := I
  refine Zm.mono (c_maskOf hV hc hr) (fun v h' hq => ?_)
  obtain ⟨r, rfl, q1, q2⟩ := hq
  obtain ⟨w1, w2⟩ := EW.gv hV E q2
  exact ⟨r, rfl, q1, CI.en C J w1 w2⟩
theorem k_go {row p c : Nat} (I : CI h0 h dk st un tp tr pi fl ln sb sj dr) (hr : row < fct dk.1) (hp : p < dk.1) (hc : c < 10) : Zm g (d + 4) 0 0 mX9_go [.ref 20, .int (nI p), .int (nI row), .int (nI c)] h (rVp (fun h' => CI h0 h' dk st un tp tr pi fl ln sb sj dr ∧ ∃ rt rmv rmk moc pa, h'[20]? = some (visE rt rmv rmk moc (nI (visD dk row p c).1.length) (b2 ((visD dk row p c).2 = true))) ∧ h'[25]? = some (inA 9 pa) ∧ ∀ i, i < (visD dk row p c).1.length → pa i = nI ((visD dk row p c).1.getD i 0))) := by
  obtain ⟨Z, rt, ds, C, ⟨av, stk, rn, rs, sw, rmv, rmk, rkn, rks, wst, wqu, wwe, wla, hV, E⟩, J⟩ := I
  refine Zm.mono (c_go hV hc hr hp) (fun v h' hq => ?_)
  obtain ⟨rfl, w, pa, G, q2⟩ := hq
  obtain ⟨w1, w2⟩ := EW.gv' hV E G.frm
  exact ⟨rfl, CI.en C J ⟨av, stk, rn, rs, sw, rmv, rmk, rkn, rks, wst, wqu, wwe, wla, G.vc, w1⟩ w2, rt, rmv, rmk, _, pa, G.v20, G.p25, q2⟩
theorem k_goalOf {aim : Nat} (I : CI h0 h dk st un tp tr pi fl ln sb sj dr) (ha : aim < 2) : Zm g d 0 0 mX9_goalOf [.ref 20, .int (nI aim)] h (rI (nI (goal dk.1 aim)) h) := by
  obtain ⟨rt, rn, rs, sw, rmv, rmk, moc, len, fre, fc, fr, vn, vs, qd, wst, wqu, wwe, wla, hx, hn, hd, hR, hv, hw, hs⟩ := I.o
  exact c_goalOf hv hR I.dkB.2.1 ha
theorem c_isOneOf {x : Int32} {k : Nat} (hk : k < 2 ^ 31) : Zm g d 0 0 mX11_isOneOf [.int x, .int (nI k)] h (rI (b2 (oneOf x k)) h) := by
  show Zw g d 0 0 mX11_isOneOf 0 [some (.int x), some (.int (nI k))] [] h _
  refine x_il0 dX11_isOneOf_0 ?_
  refine x_if_lt (tgt := 13) dX11_isOneOf_1 rfl (fun q1 => ?_) (fun q1 => ?_)
  · refine x_iconst (v := nI 0) dX11_isOneOf_13 rfl ?_
    exact x_iret rfl  rfl dX11_isOneOf_14 ⟨by rw [b2z (fun z => by rw [Int32.lt_iff_toInt_lt] at q1; exact absurd z.1 (by change ¬ _; have : (0 : Int32).toInt = 0 := rfl; omega))], rfl⟩
  · refine x_il0 dX11_isOneOf_4 ?_
    refine x_il1 dX11_isOneOf_5 ?_
    refine x_icmp_ge (tgt := 13) dX11_isOneOf_6 rfl (fun q2 => ?_) (fun q2 => ?_)
    · refine x_iconst (v := nI 0) dX11_isOneOf_13 rfl ?_
      exact x_iret rfl  rfl dX11_isOneOf_14 ⟨by rw [b2z (fun z => by rw [Int32.le_iff_toInt_le, nI_toInt hk] at q2; exact absurd z.2 (by omega))], rfl⟩
    · refine x_iconst (v := nI 1) dX11_isOneOf_9 rfl ?_
      refine x_goto (tgt := 14) dX11_isOneOf_10 rfl ?_
      exact x_iret rfl  rfl dX11_isOneOf_14 ⟨by rw [b2o ⟨by rw [Int32.lt_iff_toInt_lt] at q1; have : (0 : Int32).toInt = 0 := rfl; omega, by rw [Int32.le_iff_toInt_le, nI_toInt hk] at q2; omega⟩], rfl⟩
theorem k_isDrawer {x : Int32} (I : CI h0 h dk st un tp tr pi fl ln sb sj dr) : Zm g (d + 1) 0 0 mX11_isDrawer [.ref 0, .int x] h (rI (b2 (oneOf x dk.1)) h) := by
  obtain ⟨rt, rn, rs, sw, rmv, rmk, moc, len, fre, fc, fr, vn, vs, qd, wst, wqu, wwe, wla, hx, hn, hd, hR, hv, hw, hs⟩ := I.o
  show Zw g (d + 1) 0 0 mX11_isDrawer 0 [some (.ref 0), some (.int x)] [] h _
  refine x_il1 dX11_isDrawer_0 ?_
  refine x_al0 rfl dX11_isDrawer_1 ?_
  refine x_get fdX11_106 hx rfl dX11_isDrawer_2 ?_
  refine x_get fdX11_143 hd rfl dX11_isDrawer_5 ?_
  refine x_cs2I mX11_isOneOf_ok lkX11_157 (Nat.le_of_ble_eq_true rfl) (Nat.le_of_ble_eq_true rfl) dX11_isDrawer_8 (c_isOneOf (by have := I.dkB.2.1; omega)) ?_
  exact x_iret rfl  b2_nar dX11_isDrawer_11 ⟨rfl, rfl⟩
theorem k_drawer {x y : Int32} (I : CI h0 h dk st un tp tr pi fl ln sb sj dr) : Zm g (d + 2) 0 0 mX11_drawer [.ref 0, .int x, .int y] h (rIp (fun r h' => r = F_drawer dk st x y ∧ CI h0 h' dk st un tp tr pi fl ln sb sj dr)) := by
  obtain ⟨rt, rn, rs, sw, rmv, rmk, moc, len, fre, fc, fr, vn, vs, qd, wst, wqu, wwe, wla, hx, hn, hd, hR, hv, hw, hs⟩ := I.o
  obtain ⟨d1, d2, d3, d4, d5, d6, d7, d8⟩ := I.dkB
  show Zw g (d + 2) 0 0 mX11_drawer 0 [some (.ref 0), some (.int x), some (.int y)] [] h _
  have bad : F_drawer dk st x y = -2 → Zw g (d + 2) 0 0 mX11_drawer 16 [some (.ref 0), some (.int x), some (.int y)] [] h (rIp (fun r h' => r = F_drawer dk st x y ∧ CI h0 h' dk st un tp tr pi fl ln sb sj dr)) := fun e => by
    refine x_bipush (v := (-2)) dX11_drawer_16 rfl ?_
    exact x_iret rfl rfl dX11_drawer_18 ⟨_, rfl, e.symm, I⟩
  refine x_al0 rfl dX11_drawer_0 ?_
  refine x_il1 dX11_drawer_1 ?_
  refine x_cv1I mX11_isDrawer_ok lkX11_153 rfl (Nat.le_of_ble_eq_true rfl) (Nat.le_of_ble_eq_true rfl) dX11_drawer_2 hx  (k_isDrawer I) ?_
  refine x_if_eq (tgt := 16) dX11_drawer_5 rfl (fun q1 => ?_) (fun q1 => ?_)
  · exact bad (if_neg (b2e q1))
  · have o := oneOf_n (b2n q1)
    have e0 : F_drawer dk st x y = _ := if_pos (b2n q1)
    refine x_il2 dX11_drawer_8 ?_
    refine x_iconst (v := nI 2) dX11_drawer_9 rfl ?_
    refine x_cs2I mX11_isOneOf_ok lkX11_157 (Nat.le_of_ble_eq_true rfl) (Nat.le_of_ble_eq_true rfl) dX11_drawer_10 (c_isOneOf (by decide)) ?_
    refine x_if_ne (tgt := 19) dX11_drawer_13 rfl (fun q2 => ?_) (fun q2 => ?_)
    · refine x_al0 rfl dX11_drawer_19 ?_
      refine x_get fdX11_62 hx rfl dX11_drawer_20 ?_
      refine x_il2 dX11_drawer_23 ?_
      refine x_if_ne (tgt := 37) dX11_drawer_24 rfl (fun q3 => ?_) (fun q3 => ?_)
      · refine x_al0 rfl dX11_drawer_37 ?_
        refine x_get fdX11_106 hx rfl dX11_drawer_38 ?_
        refine x_get fdX11_161 hd rfl dX11_drawer_41 ?_
        rw [o.2]
        refine x_il1 dX11_drawer_44 ?_
        refine x_cv2I mX5_nameIn_ok lkX11_164 rfl (Nat.le_of_ble_eq_true rfl) (Nat.le_of_ble_eq_true rfl) dX11_drawer_45 hR  (k_nameIn I d5 o.1) ?_
        exact x_iret rfl rfl dX11_drawer_48 ⟨_, rfl, by rw [← o.2, e0, if_neg q3, if_pos]; have := b2n q2; apply Int32.toInt_inj.mp; have e1 : y.toInt ≠ 0 := fun z => q3 (Int32.toInt_inj.mp z); show y.toInt = 1; omega, I⟩
      · refine x_al0 rfl dX11_drawer_27 ?_
        refine x_get fdX11_27 hx rfl dX11_drawer_28 ?_
        refine x_get fdX11_128 hn rfl dX11_drawer_31 ?_
        refine x_goto (tgt := 44) dX11_drawer_34 rfl ?_
        rw [o.2]
        refine x_il1 dX11_drawer_44 ?_
        refine x_cv2I mX5_nameIn_ok lkX11_164 rfl (Nat.le_of_ble_eq_true rfl) (Nat.le_of_ble_eq_true rfl) dX11_drawer_45 hR  (k_nameIn I d7 o.1) ?_
        exact x_iret rfl rfl dX11_drawer_48 ⟨_, rfl, by rw [← o.2, e0, if_pos q3], I⟩
    · refine bad ?_
      have := b2e q2
      rw [e0, if_neg (fun z => this (by rw [z]; decide)), if_neg (fun z => this (by rw [z]; decide))]
theorem k_visit {x y : Int32} (I : CI h0 h dk st un tp tr pi fl ln sb sj dr) : Zm g (d + 5) 0 0 mX11_visit [.ref 0, .int x, .int y] h (rIp (fun r h' => r = F_visit dk st x y ∧ CI h0 h' dk st un tp tr pi fl ln sb sj dr)) := by
  obtain ⟨rt, rn, rs, sw, rmv, rmk, moc, len, fre, fc, fr, vn, vs, qd, wst, wqu, wwe, wla, hx, hn, hd, hR, hv, hw, hs⟩ := I.o
  obtain ⟨d1, d2, d3, d4, d5, d6, d7, d8⟩ := I.dkB
  show Zw g (d + 5) 0 0 mX11_visit 0 [some (.ref 0), some (.int x), some (.int y)] [] h _
  have bad : F_visit dk st x y = -2 → Zw g (d + 5) 0 0 mX11_visit 16 [some (.ref 0), some (.int x), some (.int y)] [] h (rIp (fun r h' => r = F_visit dk st x y ∧ CI h0 h' dk st un tp tr pi fl ln sb sj dr)) := fun e => by
    refine x_bipush (v := (-2)) dX11_visit_16 rfl ?_
    exact x_iret rfl rfl dX11_visit_18 ⟨_, rfl, e.symm, I⟩
  refine x_al0 rfl dX11_visit_0 ?_
  refine x_il1 dX11_visit_1 ?_
  refine x_cv1I mX11_isDrawer_ok lkX11_153 rfl (Nat.le_of_ble_eq_true rfl) (Nat.le_of_ble_eq_true rfl) dX11_visit_2 hx  (k_isDrawer I) ?_
  refine x_if_eq (tgt := 16) dX11_visit_5 rfl (fun q1 => ?_) (fun q1 => ?_)
  · exact bad (if_neg (fun z => b2e q1 z.1))
  · have o := oneOf_n (b2n q1)
    refine x_il2 dX11_visit_8 ?_
    refine x_iconst (v := nI 2) dX11_visit_9 rfl ?_
    refine x_cs2I mX11_isOneOf_ok lkX11_157 (Nat.le_of_ble_eq_true rfl) (Nat.le_of_ble_eq_true rfl) dX11_visit_10 (c_isOneOf (by decide)) ?_
    refine x_if_ne (tgt := 19) dX11_visit_13 rfl (fun q2 => ?_) (fun q2 => ?_)
    · have e0 : F_visit dk st x y = _ := if_pos ⟨b2n q1, b2n q2⟩
      refine x_al0 rfl dX11_visit_19 ?_
      refine x_get fdX11_71 hx rfl dX11_visit_20 ?_
      refine x_il1 dX11_visit_23 ?_
      refine x_al0 rfl dX11_visit_24 ?_
      refine x_get fdX11_27 hx rfl dX11_visit_25 ?_
      refine x_get fdX11_128 hn rfl dX11_visit_28 ?_
      refine x_al0 rfl dX11_visit_31 ?_
      refine x_get fdX11_27 hx rfl dX11_visit_32 ?_
      refine x_get fdX11_134 hn rfl dX11_visit_35 ?_
      rw [o.2]
      refine x_cv3Vp mX9_go_ok lkX11_168 rfl (Nat.le_of_ble_eq_true rfl) (Nat.le_of_ble_eq_true rfl) dX11_visit_38 hv  (k_go I d7 o.1 d8) (fun h hq => ?_)
      obtain ⟨I, rt', rmv', rmk', moc', pa, hv', hp, -⟩ := hq
      obtain ⟨rt2, rn, rs, sw, rmv, rmk, moc, len, fre, fc, fr, vn, vs, qd, wst, wqu, wwe, wla, hx, hn, hd, hR, hv, hw, hs⟩ := I.o
      refine x_il2 dX11_visit_41 ?_
      refine x_iconst (v := nI 1) dX11_visit_42 rfl ?_
      refine x_icmp_ne (tgt := 54) dX11_visit_43 rfl (fun q3 => ?_) (fun q3 => ?_)
      · refine x_al0 rfl dX11_visit_54 ?_
        refine x_get fdX11_71 hx rfl dX11_visit_55 ?_
        refine x_get fdX11_175 hv' rfl dX11_visit_58 ?_
        refine x_if_eq (tgt := 68) dX11_visit_61 rfl (fun q4 => ?_) (fun q4 => ?_)
        · refine x_iconst (v := nI 0) dX11_visit_68 rfl ?_
          exact x_iret rfl rfl dX11_visit_69 ⟨_, rfl, by rw [← o.2, e0, if_neg q3]; exact q4.symm, I⟩
        · refine x_iconst (v := nI 1) dX11_visit_64 rfl ?_
          refine x_goto (tgt := 69) dX11_visit_65 rfl ?_
          exact x_iret rfl rfl dX11_visit_69 ⟨_, rfl, by rw [← o.2, e0, if_neg q3]; exact (b2o (b2n q4)).symm, I⟩
      · refine x_al0 rfl dX11_visit_46 ?_
        refine x_get fdX11_71 hx rfl dX11_visit_47 ?_
        refine x_get fdX11_172 hv' rfl dX11_visit_50 ?_
        exact x_iret rfl rfl dX11_visit_53 ⟨_, rfl, by rw [← o.2, e0, if_pos q3]; rfl, I⟩
    · exact bad (if_neg (fun z => b2e q2 z.2))
theorem k_opened {x y : Int32} (I : CI h0 h dk st un tp tr pi fl ln sb sj dr) : Zm g (d + 5) 0 0 mX11_opened [.ref 0, .int x, .int y] h (rIp (fun r h' => r = F_opened dk st x y ∧ CI h0 h' dk st un tp tr pi fl ln sb sj dr)) := by
  obtain ⟨rt, rn, rs, sw, rmv, rmk, moc, len, fre, fc, fr, vn, vs, qd, wst, wqu, wwe, wla, hx, hn, hd, hR, hv, hw, hs⟩ := I.o
  obtain ⟨d1, d2, d3, d4, d5, d6, d7, d8⟩ := I.dkB
  show Zw g (d + 5) 0 0 mX11_opened 0 [some (.ref 0), some (.int x), some (.int y)] [] h _
  refine x_al0 rfl dX11_opened_0 ?_
  refine x_il1 dX11_opened_1 ?_
  refine x_cv1I mX11_isDrawer_ok lkX11_153 rfl (Nat.le_of_ble_eq_true rfl) (Nat.le_of_ble_eq_true rfl) dX11_opened_2 hx  (k_isDrawer I) ?_
  refine x_if_ne (tgt := 11) dX11_opened_5 rfl (fun q5 => ?_) (fun q5 => ?_)
  · skip
    first | (simp only [cmp_lt, cmp_gt, cmp_eq, zN_cge, zN_cle, Decidable.not_not] at q5) | (simp (disch := omega) only [zN_le, zN_lt, zN_0, zN_1, nI_toInt, zN_eq, zN_eq0, b2_z, b2_nz, Decidable.not_not, Int.not_lt, Int.not_le, zK0, zK1, zK2, zK3, zK5, zK7, zK8, zK9, zK10, zK19, zK20, zK40, zK99, zK100, zK199] at q5) | skip
    unfold F_opened
    rw [if_pos q5]
    obtain ⟨k, hk, rfl⟩ := oneOf_ex q5
    rw [show tn (nI k) = k from nI_clamp (by omega)]
    have vl : (visK dk st k).1.length ≤ dk.2.1 := vis_len
    refine x_il2 dX11_opened_11 ?_
    refine x_if_ge (tgt := 18) dX11_opened_12 rfl (fun q12 => ?_) (fun q12 => ?_)
    · skip
      rw [if_neg (fun z => absurd q12 (Int32.not_le.mpr z))]
      refine x_al0 rfl dX11_opened_18 ?_
      refine x_get fdX11_71 hx rfl dX11_opened_19 ?_
      refine x_il1 dX11_opened_22 ?_
      refine x_al0 rfl dX11_opened_23 ?_
      refine x_get fdX11_27 hx rfl dX11_opened_24 ?_
      refine x_get fdX11_128 hn rfl dX11_opened_27 ?_
      refine x_al0 rfl dX11_opened_30 ?_
      refine x_get fdX11_27 hx rfl dX11_opened_31 ?_
      refine x_get fdX11_134 hn rfl dX11_opened_34 ?_
      refine x_cv3Vp mX9_go_ok lkX11_168 rfl (Nat.le_of_ble_eq_true rfl) (Nat.le_of_ble_eq_true rfl) dX11_opened_37 hv  (k_go I (by first | assumption | omega) (by first | assumption | omega) (by first | assumption | omega)) (fun h hq => ?_)
      obtain ⟨I, rt1, rmv1, rmk1, moc1, pa, hv1, hp, hpa⟩ := hq
      obtain ⟨rt, rn, rs, sw, rmv, rmk, moc, len, fre, fc, fr, vn, vs, qd, wst, wqu, wwe, wla, hx, hn, hd, hR, hv, hw, hs⟩ := I.o
      refine x_il2 dX11_opened_40 ?_
      refine x_al0 rfl dX11_opened_41 ?_
      refine x_get fdX11_71 hx rfl dX11_opened_42 ?_
      refine x_get fdX11_172 hv1 rfl dX11_opened_45 ?_
      change (visD dk st.1 k st.2.1).1.length ≤ dk.2.1 at vl
      refine x_icmp_ge (tgt := 62) dX11_opened_48 rfl (fun q48 => ?_) (fun q48 => ?_)
      · skip
        refine x_iconst (v := (-1)) dX11_opened_62 rfl ?_
        refine x_iret rfl rfl dX11_opened_63 ⟨_, rfl, ?_, I⟩
        rw [if_neg]
        · intro z
          rw [Int32.le_iff_toInt_le, nI_toInt (by omega)] at q48
          have z2 : y.toInt < ((visD dk st.1 k st.2.1).1.length : Int) := z.2
          omega
      · skip
        have oy : oneOf y (visD dk st.1 k st.2.1).1.length := by
          rw [Int32.le_iff_toInt_le, nI_toInt (by omega)] at q48
          rw [Int32.le_iff_toInt_le] at q12
          exact ⟨q12, by omega⟩
        rw [if_pos (show oneOf y (visK dk st k).1.length from oy)]
        obtain ⟨i, hi, rfl⟩ := oneOf_ex oy
        rw [show tn (nI i) = i from nI_clamp (by omega)]
        refine x_al0 rfl dX11_opened_51 ?_
        refine x_get fdX11_71 hx rfl dX11_opened_52 ?_
        refine x_il2 dX11_opened_55 ?_
        refine x_cv1I mX9_openedAt_ok lkX11_179 rfl (Nat.le_of_ble_eq_true rfl) (Nat.le_of_ble_eq_true rfl) dX11_opened_56 hv  (c_openedAt hv hp (by omega)) ?_
        refine x_goto (tgt := 63) dX11_opened_59 rfl ?_
        refine x_iret rfl rfl dX11_opened_63 ⟨_, rfl, ?_, I⟩
        rw [hpa i hi]
        all_goals rfl
    · skip
      refine x_bipush (v := (-3)) dX11_opened_15 rfl ?_
      refine x_iret rfl rfl dX11_opened_17 ⟨_, rfl, ?_, I⟩
      rw [if_pos (Int32.not_le.mp q12)]
  · skip
    first | (simp only [cmp_lt, cmp_gt, cmp_eq, zN_cge, zN_cle, Decidable.not_not] at q5) | (simp (disch := omega) only [zN_le, zN_lt, zN_0, zN_1, nI_toInt, zN_eq, zN_eq0, b2_z, b2_nz, Decidable.not_not, Int.not_lt, Int.not_le, zK0, zK1, zK2, zK3, zK5, zK7, zK8, zK9, zK10, zK19, zK20, zK40, zK99, zK100, zK199] at q5) | skip
    refine x_bipush (v := (-2)) dX11_opened_8 rfl ?_
    refine x_iret rfl rfl dX11_opened_10 ⟨_, rfl, ?_, I⟩
    rw [F_opened, if_neg q5]
theorem k_letOff (I : CI h0 h dk st un tp tr pi fl ln sb sj dr) : Zm g (d + 6) 0 0 mX11_letOff [.ref 0] h (rIp (fun r h' => r = nI (mskK dk st.1 st.2.1) ∧ CI h0 h' dk st un tp tr pi fl ln sb sj dr)) := by
  obtain ⟨rt, rn, rs, sw, rmv, rmk, moc, len, fre, fc, fr, vn, vs, qd, wst, wqu, wwe, wla, hx, hn, hd, hR, hv, hw, hs⟩ := I.o
  obtain ⟨d1, d2, d3, d4, d5, d6, d7, d8⟩ := I.dkB
  show Zw g (d + 6) 0 0 mX11_letOff 0 [some (.ref 0)] [] h _
  refine x_al0 rfl dX11_letOff_0 ?_
  refine x_get fdX11_71 hx rfl dX11_letOff_1 ?_
  refine x_al0 rfl dX11_letOff_4 ?_
  refine x_get fdX11_27 hx rfl dX11_letOff_5 ?_
  refine x_get fdX11_128 hn rfl dX11_letOff_8 ?_
  refine x_al0 rfl dX11_letOff_11 ?_
  refine x_get fdX11_27 hx rfl dX11_letOff_12 ?_
  refine x_get fdX11_134 hn rfl dX11_letOff_15 ?_
  refine x_cv2Ip mX9_maskOf_ok lkX11_183 rfl (Nat.le_of_ble_eq_true rfl) (Nat.le_of_ble_eq_true rfl) dX11_letOff_18 hv  (k_maskOf I d7 d8) (fun r h hq => ?_)
  exact x_iret rfl rfl dX11_letOff_21 ⟨_, rfl, hq⟩
theorem k_howManyFree (I : CI h0 h dk st un tp tr pi fl ln sb sj dr) : Zm g (d + 6) 0 0 mX11_howManyFree [.ref 0] h (rIp (fun r h' => r = nI (popc (mskK dk st.1 st.2.1)) ∧ CI h0 h' dk st un tp tr pi fl ln sb sj dr)) := by
  obtain ⟨rt, rn, rs, sw, rmv, rmk, moc, len, fre, fc, fr, vn, vs, qd, wst, wqu, wwe, wla, hx, hn, hd, hR, hv, hw, hs⟩ := I.o
  obtain ⟨d1, d2, d3, d4, d5, d6, d7, d8⟩ := I.dkB
  show Zw g (d + 6) 0 0 mX11_howManyFree 0 [some (.ref 0)] [] h _
  refine x_al0 rfl dX11_howManyFree_0 ?_
  refine x_get fdX11_71 hx rfl dX11_howManyFree_1 ?_
  refine x_al0 rfl dX11_howManyFree_4 ?_
  refine x_get fdX11_27 hx rfl dX11_howManyFree_5 ?_
  refine x_get fdX11_128 hn rfl dX11_howManyFree_8 ?_
  refine x_al0 rfl dX11_howManyFree_11 ?_
  refine x_get fdX11_27 hx rfl dX11_howManyFree_12 ?_
  refine x_get fdX11_134 hn rfl dX11_howManyFree_15 ?_
  refine x_cv2Ip mX9_maskOf_ok lkX11_183 rfl (Nat.le_of_ble_eq_true rfl) (Nat.le_of_ble_eq_true rfl) dX11_howManyFree_18 hv  (k_maskOf I d7 d8) (fun r h hq => ?_)
  obtain ⟨rfl, I⟩ := hq
  refine x_cs1I mJ6_bitCount_0f7a4_ok lkX11_186 (Nat.le_of_ble_eq_true rfl) (Nat.le_of_ble_eq_true rfl) dX11_howManyFree_21 (c_bitCount (msk_lt d2)) ?_
  exact x_iret rfl rfl dX11_howManyFree_24 ⟨_, rfl, rfl, I⟩
theorem k_canSwap {x y : Int32} (I : CI h0 h dk st un tp tr pi fl ln sb sj dr) : Zm g (d + 2) 0 0 mX11_canSwap [.ref 0, .int x, .int y] h (rI (b2 (oneOf x dk.1 ∧ oneOf y dk.1 ∧ x ≠ y)) h) := by
  obtain ⟨rt, rn, rs, sw, rmv, rmk, moc, len, fre, fc, fr, vn, vs, qd, wst, wqu, wwe, wla, hx, hn, hd, hR, hv, hw, hs⟩ := I.o
  show Zw g (d + 2) 0 0 mX11_canSwap 0 [some (.ref 0), some (.int x), some (.int y)] [] h _
  refine x_al0 rfl dX11_canSwap_0 ?_
  refine x_il1 dX11_canSwap_1 ?_
  refine x_cv1I mX11_isDrawer_ok lkX11_153 rfl (Nat.le_of_ble_eq_true rfl) (Nat.le_of_ble_eq_true rfl) dX11_canSwap_2 hx  (k_isDrawer I) ?_
  refine x_if_eq (tgt := 25) dX11_canSwap_5 rfl (fun q1 => ?_) (fun q1 => ?_)
  · refine x_iconst (v := nI 0) dX11_canSwap_25 rfl ?_
    exact x_iret rfl  rfl dX11_canSwap_26 ⟨by rw [b2z (fun z => b2e q1 z.1)], rfl⟩
  · refine x_al0 rfl dX11_canSwap_8 ?_
    refine x_il2 dX11_canSwap_9 ?_
    refine x_cv1I mX11_isDrawer_ok lkX11_153 rfl (Nat.le_of_ble_eq_true rfl) (Nat.le_of_ble_eq_true rfl) dX11_canSwap_10 hx  (k_isDrawer I) ?_
    refine x_if_eq (tgt := 25) dX11_canSwap_13 rfl (fun q2 => ?_) (fun q2 => ?_)
    · refine x_iconst (v := nI 0) dX11_canSwap_25 rfl ?_
      exact x_iret rfl  rfl dX11_canSwap_26 ⟨by rw [b2z (fun z => b2e q2 z.2.1)], rfl⟩
    · refine x_il1 dX11_canSwap_16 ?_
      refine x_il2 dX11_canSwap_17 ?_
      refine x_icmp_eq (tgt := 25) dX11_canSwap_18 rfl (fun q3 => ?_) (fun q3 => ?_)
      · refine x_iconst (v := nI 0) dX11_canSwap_25 rfl ?_
        exact x_iret rfl  rfl dX11_canSwap_26 ⟨by rw [b2z (fun z => z.2.2 q3)], rfl⟩
      · refine x_iconst (v := nI 1) dX11_canSwap_21 rfl ?_
        refine x_goto (tgt := 26) dX11_canSwap_22 rfl ?_
        exact x_iret rfl  rfl dX11_canSwap_26 ⟨by rw [b2o ⟨b2n q1, b2n q2, q3⟩], rfl⟩
end ZKE

