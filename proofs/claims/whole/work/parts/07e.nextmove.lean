/-! the class's Visits: nextMove -/
/-- behind a step of visits: the world stands, clue c is kept, no field and no fact has changed -/
def VCP (h h' : zH) (n rn rs : Nat) (sw : Int32) (rt rmv rmk rkn rks op : Nat) (nx sp : Option (List Nat)) (c : Nat) : Prop := VCp h h' n rn rs sw rt rmv rmk rkn rks op nx sp c ∧ h'[20]? = h[20]? ∧ h'[24]? = h[24]? ∧ h'[25]? = h[25]?
theorem enc_lt {n op p fo la tr c : Nat} {nx sp : Option (List Nat)} (h0 : 0 < n) (hn : n ≤ 6) (hf : fo < n) : enc (mvs n nx sp p fo la tr c) < 8 := by
  unfold mvs
  split
  · decide
  · have := opensD_lt (nx := nx) (w := fw p fo la tr c) h0 hf
    show 2 + _ < 8
    omega
theorem enc_pos {m : Option Nat} : 0 < enc m := by cases m <;> simp [enc]; omega
theorem zq_fm_n {k n : Nat} (hk : k < n) (hn : n ≤ 6) : zq_fm (nI k) n = k := by
  unfold zq_fm
  rw [nI_toInt (by omega), Int.emod_eq_of_lt (by omega) (by omega)]
  omega
theorem byte_v {k : Nat} (hk : k < 128) : (nI k).toInt8.toInt32 = nI k := by
  have := nar_n hk
  rw [vp_nar_byte] at this
  exact this
theorem b2z {a : Prop} [Decidable a] (h : ¬ a) : b2 a = nI 0 := by unfold b2; rw [if_neg h]; rfl
theorem b2o {a : Prop} [Decidable a] (h : a) : b2 a = nI 1 := by unfold b2; rw [if_pos h]; rfl
theorem Memo.put {n op p fo la tr c : Nat} {nx sp : Option (List Nat)} {fm fk kp : Nat → Int32} (a : Memo n op nx sp fm fk kp) (hp : p < n) (hf : fo < n) (hl : la < n) (ht : tr < op) : Memo n op nx sp (upd fm (mix n op p fo la tr c) (nI (enc (mvs n nx sp p fo la tr c)))) fk kp := by
  intro c' hc'
  obtain ⟨m1, m2⟩ := a c' hc'
  refine ⟨m1, fun hk => ⟨fun p' fo' la' tr' hp' hf' hl' ht' => ?_, (m2 hk).2⟩⟩
  by_cases q : mix n op p' fo' la' tr' c' = mix n op p fo la tr c
  · obtain ⟨rfl, rfl, rfl, rfl, rfl⟩ := mix_inj hp' hf' hl' ht' hp hf hl ht q
    right
    simp [upd]
  · simp only [upd, if_neg q]
    exact (m2 hk).1 p' fo' la' tr' hp' hf' hl' ht'
section ZN
variable {g : zG} {d : Nat} {n rn rs rt rmv rmk rkn rks op c p fo la tr : Nat} {sw : Int32} {nx sp : Option (List Nat)}
theorem lp_nm3 {h h0 : zH} {st told : Int32} (hV : VC h n rn rs sw rt rmv rmk rkn rks op nx sp) (hfr : Gv rmv rmk rkn rks h0 h) (hc : c < 10) (hp : p < n) (hf : fo < n) (hl : la < n) (ht : tr < op) (hkp : ∃ kp, h[23]? = some (.inl (3, 10, .inl kp)) ∧ kp c = 1) (e20 : h[20]? = h0[20]?) (e24 : h[24]? = h0[24]?) (e25 : h[25]? = h0[25]?) (hst : (st = nI 1 ∧ mvs n nx sp p fo la tr c = none) ∨ (st = nI 0 ∧ mvs n nx sp p fo la tr c = some (zq_fm told n))) :
    Zw g (d + 1) 0 0 mX9_nextMove 149 [some (.ref 20), some (.int (nI n)), some (.int (nI (mix n op p fo la tr c))), some (.int st), some (.int told)] [] h (rIp (fun r h' => r = nI (enc (mvs n nx sp p fo la tr c)) ∧ VCP h0 h' n rn rs sw rt rmv rmk rkn rks op nx sp c)) := by
  obtain ⟨hT, -, ⟨len, fr, h20⟩, ho0, ho9, ⟨lm, fm, lk, fk, kp, b1, b2, b3, b4, b5, b6, b7, b8⟩, ⟨w, h24⟩, ⟨pa, h25⟩, n1, n2, n3, n4, n5⟩ := id hV
  have hn := hT.2.1
  have h1n : 0 < n := by omega
  have hmi := (mix_in (c := c) hp hf hl ht).2
  have hM10 := c10_le (M := n * n * n * op) hc
  have el := enc_lt (op := op) (p := p) (la := la) (tr := tr) (c := c) (nx := nx) (sp := sp) h1n hn hf
  have fin : Zw g (d + 1) 0 0 mX9_nextMove 174 [some (.ref 20), some (.int (nI n)), some (.int (nI (mix n op p fo la tr c))), some (.int st), some (.int told)] [.int (nI (enc (mvs n nx sp p fo la tr c))), .int (nI (mix n op p fo la tr c)), .ref rmv] h (rIp (fun r h' => r = nI (enc (mvs n nx sp p fo la tr c)) ∧ VCP h0 h' n rn rs sw rt rmv rmk rkn rks op nx sp c)) := by
    refine x_i2b (byte_v (by omega)) dX9_nextMove_174 ?_
    refine x_bast b1 (vp_in_nI (by omega) b5) dX9_nextMove_175 ?_
    rw [nI_clamp (by omega), nar_n (by omega)]
    have vA : VA (h.set rmv (.inl (1, lm, .inl (upd fm (mix n op p fo la tr c) (nI (enc (mvs n nx sp p fo la tr c))))))) n op nx sp rmv rmk := ⟨lm, _, lk, fk, kp, hs_eq b1, by rw [hs_ne n3]; exact b2, hs_t b1 b3 (by simp [z_tg]), b4, b5, b6, b7, b8.put hp hf hl ht⟩
    have v1 := hV.sA (e := .inl (1, lm, .inl (upd fm (mix n op p fo la tr c) (nI (enc (mvs n nx sp p fo la tr c)))))) b1 (Or.inl (by simp [z_tg])) (Ne.symm n1) vA
    have g20 := hs_t (e := .inl (1, lm, .inl (upd fm (mix n op p fo la tr c) (nI (enc (mvs n nx sp p fo la tr c)))))) b1 h20 (by simp [z_tg])
    have gmv := hs_eq (e := .inl (1, lm, .inl (upd fm (mix n op p fo la tr c) (nI (enc (mvs n nx sp p fo la tr c)))))) b1
    have g24 := hs_t (e := .inl (1, lm, .inl (upd fm (mix n op p fo la tr c) (nI (enc (mvs n nx sp p fo la tr c)))))) b1 h24 (by simp [z_tg])
    have g25 := hs_t (e := .inl (1, lm, .inl (upd fm (mix n op p fo la tr c) (nI (enc (mvs n nx sp p fo la tr c)))))) b1 h25 (by simp [z_tg])
    have g23 := hs_t (e := .inl (1, lm, .inl (upd fm (mix n op p fo la tr c) (nI (enc (mvs n nx sp p fo la tr c)))))) b1 b3 (by simp [z_tg])
    refine x_al0 rfl dX9_nextMove_176 ?_
    refine x_get fdX9_15 g20 rfl dX9_nextMove_177 ?_
    refine x_il2 dX9_nextMove_180 ?_
    refine x_bald gmv (vp_in_nI (by omega) b5) (ald (by simp [upd]; rfl) (by omega)) dX9_nextMove_181 ?_
    obtain ⟨kp', k1, k2⟩ := hkp
    rw [b3] at k1
    cases k1
    exact x_iret rfl rfl dX9_nextMove_182 ⟨_, rfl, rfl, ⟨hfr.tr (Gv.setA (by simp) b1), v1, kp, g23, k2⟩, by rw [g20, ← e20, h20], by rw [g24, ← e24, h24], by rw [g25, ← e25, h25]⟩
  refine x_al0 rfl dX9_nextMove_149 ?_
  refine x_get fdX9_15 h20 rfl dX9_nextMove_150 ?_
  refine x_il2 dX9_nextMove_153 ?_
  refine x_il3 dX9_nextMove_154 ?_
  rcases hst with ⟨rfl, hm⟩ | ⟨rfl, hm⟩
  · refine x_if_eq (tgt := 162) dX9_nextMove_155 rfl (fun q1 => ?_) (fun q1 => ?_)
    · exact absurd q1 (by decide)
    · refine x_iconst (v := nI 1) dX9_nextMove_158 rfl ?_
      refine x_goto (tgt := 174) dX9_nextMove_159 rfl ?_
      rw [hm] at fin ⊢
      exact fin
  · refine x_if_eq (tgt := 162) dX9_nextMove_155 rfl (fun q1 => ?_) (fun q1 => ?_)
    · refine x_iconst (v := nI 2) dX9_nextMove_162 rfl ?_
      refine x_il4 dX9_nextMove_163 ?_
      refine x_iconst (v := nI 1) dX9_nextMove_165 rfl ?_
      refine x_il1 dX9_nextMove_166 ?_
      refine x_mmax kjX9_91 (Nat.le_of_ble_eq_true rfl) (mx_n (by decide) (by omega)) dX9_nextMove_167 ?_
      rw [Nat.max_eq_right (by omega)]
      refine x_fmod kjX9_96 (Nat.le_of_ble_eq_true rfl) h1n hn dX9_nextMove_170 ?_
      first | refine x_iadd (nI_add _ _) dX9_nextMove_173 ?_ | refine x_iadd rfl dX9_nextMove_173 ?_
      rw [hm] at fin ⊢
      exact fin
    · exact absurd rfl q1
theorem LawC.tells {h : zH} {rl rk : Nat} {b : Bool} {av : List Nat} {cs : List Nat} {w : Nat → Int32} (a : LawC h (.ref rl) b rk av (some cs)) (hW : h[24]? = some (.inl (0, 5, .inl w))) (h83 : 83 ≤ rk) (hav : rk ∈ av) : (∃ rs', h[rl]? = some (.inr (2, [.ref rs', .ref rk]))) ∧ ∃ H sk, h[rk]? = some (.inl (0, H, .inl sk)) ∧ Zm g (d + 2) 0 0 mX2_tell [.ref rl, .ref 24] h (rIp (fun r h' => r = tells w cs ∧ ∃ sk', h' = h.set rk (.inl (0, H, .inl sk')))) := by
  obtain ⟨rl', rs', H, fs, sk, e1, e2, e3, e4, e5, e6, e7, e8, e9, e10, e11, e12⟩ := a
  cases e1
  refine ⟨⟨rs', e2⟩, H, sk, e4, c_tell e5 e6 e7 e8 (fun q => ?_) (fun q => e9 (by rw [← q]; exact hav)) (by omega) e11 e12 e2 e3 e4 hW⟩
  rw [q, e2] at e4
  cases e4
theorem lp_nm2 {h h0 : zH} {x : Option Value} {w : Nat → Int32} (hV : VC h n rn rs sw rt rmv rmk rkn rks op nx sp) (hfr : Gv rmv rmk rkn rks h0 h) (hc : c < 10) (hp : p < n) (hf : fo < n) (hl : la < n) (ht : tr < op) (hkp : ∃ kp, h[23]? = some (.inl (3, 10, .inl kp)) ∧ kp c = 1) (e20 : h[20]? = h0[20]?) (e24 : h[24]? = h0[24]?) (e25 : h[25]? = h0[25]?) (hW : h[24]? = some (.inl (0, 5, .inl w))) (hw : ∀ k, k < 5 → w k = fw p fo la tr c k) :
    Zw g (d + 3) 0 0 mX9_nextMove 114 [some (.ref 20), some (.int (nI n)), some (.int (nI (mix n op p fo la tr c))), some (.int (b2 (giveUpB sp (fw p fo la tr c) = true))), x] [] h (rIp (fun r h' => r = nI (enc (mvs n nx sp p fo la tr c)) ∧ VCP h0 h' n rn rs sw rt rmv rmk rkn rks op nx sp c)) := by
  obtain ⟨hT, ⟨fc, fr0, nr, li, vn, vs, hD, lN, lS⟩, ⟨len, fr, h20⟩, ho0, ho9, -, -, -, n1, n2, n3, n4, n5⟩ := id hV
  have hn := hT.2.1
  have hst : ∀ told, (giveUpB sp (fw p fo la tr c) = false → opensD n nx fo (fw p fo la tr c) = zq_fm told n) → (b2 (giveUpB sp (fw p fo la tr c) = true) = nI 1 ∧ mvs n nx sp p fo la tr c = none) ∨ (b2 (giveUpB sp (fw p fo la tr c) = true) = nI 0 ∧ mvs n nx sp p fo la tr c = some (zq_fm told n)) := by
    intro told ho
    by_cases q : giveUpB sp (fw p fo la tr c) = true
    · left
      exact ⟨b2o q, by unfold mvs; rw [if_pos q]⟩
    · right
      refine ⟨b2z q, ?_⟩
      unfold mvs
      rw [if_neg q, ho (by simpa using q)]
  refine x_al0 rfl dX9_nextMove_114 ?_
  refine x_get fdX9_9 h20 rfl dX9_nextMove_115 ?_
  refine x_get fdX9_88 hD rfl dX9_nextMove_118 ?_
  cases nx with
  | none =>
    have hvn : vn = .null := lN
    subst hvn
    refine x_ifnonnullN dX9_nextMove_121 ?_
    refine x_al0 rfl dX9_nextMove_124 ?_
    refine x_get fdX9_32 h20 rfl dX9_nextMove_125 ?_
    refine x_iconst (v := nI 1) dX9_nextMove_128 rfl ?_
    refine x_iald hW (vp_in_nI (by decide) (by decide)) (ald (hw 1 (by decide)) (by decide)) dX9_nextMove_129 ?_
    refine x_goto (tgt := 147) dX9_nextMove_130 rfl ?_
    refine x_is4 rfl dX9_nextMove_147 ?_
    exact lp_nm3 hV hfr hc hp hf hl ht hkp e20 e24 e25 (hst _ (fun _ => (zq_fm_n hf hn).symm))
  | some cs =>
    obtain ⟨rl, hrl⟩ : ∃ rl, vn = .ref rl := by
      obtain ⟨rl, _, _, _, _, e, _⟩ := id lN
      exact ⟨rl, e⟩
    subst hrl
    have n4 := n4.some
    obtain ⟨⟨rs', hO⟩, H, sk, hK, C⟩ := lN.tells (g := g) (d := d) hW n4 (by simp)
    refine x_ifnonnull (tgt := 133) dX9_nextMove_121 rfl ?_
    refine x_al0 rfl dX9_nextMove_133 ?_
    refine x_get fdX9_9 h20 rfl dX9_nextMove_134 ?_
    refine x_get fdX9_88 hD rfl dX9_nextMove_137 ?_
    refine x_al0 rfl dX9_nextMove_140 ?_
    refine x_get fdX9_32 h20 rfl dX9_nextMove_141 ?_
    refine x_cv1Ip mX2_tell_ok lkX9_84 rfl (Nat.le_of_ble_eq_true rfl) (Nat.le_of_ble_eq_true rfl) dX9_nextMove_144 hO C (fun r h2 hq => ?_)
    obtain ⟨rfl, sk', rfl⟩ := hq
    refine x_is4 rfl dX9_nextMove_147 ?_
    have v1 := hV.sK (f := sk') hK (by simp)
    have g20 := hs_t (e := .inl (0, H, .inl sk')) hK h20 (by simp [z_tg])
    refine lp_nm3 v1 (hfr.tr (Gv.setA (by simp) hK)) hc hp hf hl ht ?_ (by rw [hs_ne (by omega)]; exact e20) (by rw [hs_ne (by omega)]; exact e24) (by rw [hs_ne (by omega)]; exact e25) (hst _ (fun _ => ?_))
    · obtain ⟨kp, k1, k2⟩ := hkp
      exact ⟨kp, by rw [hs_ne (by omega)]; exact k1, k2⟩
    · show zq_fm (tells _ cs) n = _
      rw [tells_congr hw]
theorem c_nextMove {h : zH} {w : Nat → Int32} (hV : VC h n rn rs sw rt rmv rmk rkn rks op nx sp) (hc : c < 10) (hp : p < n) (hf : fo < n) (hl : la < n) (ht : tr < op) (hkp : ∃ kp, h[23]? = some (.inl (3, 10, .inl kp)) ∧ kp c = 1) (hW : h[24]? = some (.inl (0, 5, .inl w))) (hw : ∀ k, k < 5 → w k = fw p fo la tr c k) :
    Zm g (d + 3) 0 0 mX9_nextMove [.ref 20] h (rIp (fun r h' => r = nI (enc (mvs n nx sp p fo la tr c)) ∧ VCP h h' n rn rs sw rt rmv rmk rkn rks op nx sp c)) := by
  obtain ⟨hT, ⟨fc, fr0, nr, li, vn, vs, hD, lN, lS⟩, ⟨len, fr, h20⟩, ho0, ho9, ⟨lm, fm, lk, fk, kp, b1, b2', b3, b4, b5, b6, b7, b8⟩, -, -, n1, n2, n3, n4, n5⟩ := id hV
  have hn := hT.2.1
  have hR := hT.2.2.2.2.1
  have hmi := (mix_in (c := c) hp hf hl ht).2
  have hM10 := c10_le (M := n * n * n * op) hc
  have hmle := mM_le hn ho9
  show Zw g (d + 3) 0 0 mX9_nextMove 0 [some (.ref 20), none, none, none, none] [] h _
  refine x_al0 rfl dX9_nextMove_0 ?_
  refine x_get fdX9_46 h20 rfl dX9_nextMove_1 ?_
  refine x_get fdX9_63 hR rfl dX9_nextMove_4 ?_
  refine x_is1 rfl dX9_nextMove_7 ?_
  refine x_al0 rfl dX9_nextMove_8 ?_
  refine x_get fdX9_32 h20 rfl dX9_nextMove_9 ?_
  refine x_iconst (v := nI 4) dX9_nextMove_12 rfl ?_
  refine x_iald hW (vp_in_nI (by decide) (by decide)) (ald (hw 4 (by decide)) (by decide)) dX9_nextMove_13 ?_
  refine x_il1 dX9_nextMove_14 ?_
  first | refine x_imul (pk_mul _ _) dX9_nextMove_15 ?_ | refine x_imul rfl dX9_nextMove_15 ?_
  refine x_al0 rfl dX9_nextMove_16 ?_
  refine x_get fdX9_32 h20 rfl dX9_nextMove_17 ?_
  refine x_iconst (v := nI 0) dX9_nextMove_20 rfl ?_
  refine x_iald hW (vp_in_nI (by decide) (by decide)) (ald (hw 0 (by decide)) (by decide)) dX9_nextMove_21 ?_
  first | refine x_iadd (nI_add _ _) dX9_nextMove_22 ?_ | refine x_iadd rfl dX9_nextMove_22 ?_
  refine x_il1 dX9_nextMove_23 ?_
  first | refine x_imul (pk_mul _ _) dX9_nextMove_24 ?_ | refine x_imul rfl dX9_nextMove_24 ?_
  refine x_al0 rfl dX9_nextMove_25 ?_
  refine x_get fdX9_32 h20 rfl dX9_nextMove_26 ?_
  refine x_iconst (v := nI 1) dX9_nextMove_29 rfl ?_
  refine x_iald hW (vp_in_nI (by decide) (by decide)) (ald (hw 1 (by decide)) (by decide)) dX9_nextMove_30 ?_
  first | refine x_iadd (nI_add _ _) dX9_nextMove_31 ?_ | refine x_iadd rfl dX9_nextMove_31 ?_
  refine x_il1 dX9_nextMove_32 ?_
  first | refine x_imul (pk_mul _ _) dX9_nextMove_33 ?_ | refine x_imul rfl dX9_nextMove_33 ?_
  refine x_al0 rfl dX9_nextMove_34 ?_
  refine x_get fdX9_32 h20 rfl dX9_nextMove_35 ?_
  refine x_iconst (v := nI 2) dX9_nextMove_38 rfl ?_
  refine x_iald hW (vp_in_nI (by decide) (by decide)) (ald (hw 2 (by decide)) (by decide)) dX9_nextMove_39 ?_
  first | refine x_iadd (nI_add _ _) dX9_nextMove_40 ?_ | refine x_iadd rfl dX9_nextMove_40 ?_
  refine x_al0 rfl dX9_nextMove_41 ?_
  refine x_get fdX9_9 h20 rfl dX9_nextMove_42 ?_
  refine x_get fdX9_55 hD rfl dX9_nextMove_45 ?_
  first | refine x_imul (pk_mul _ _) dX9_nextMove_48 ?_ | refine x_imul rfl dX9_nextMove_48 ?_
  refine x_al0 rfl dX9_nextMove_49 ?_
  refine x_get fdX9_32 h20 rfl dX9_nextMove_50 ?_
  refine x_iconst (v := nI 3) dX9_nextMove_53 rfl ?_
  refine x_iald hW (vp_in_nI (by decide) (by decide)) (ald (hw 3 (by decide)) (by decide)) dX9_nextMove_54 ?_
  first | refine x_iadd (nI_add _ _) dX9_nextMove_55 ?_ | refine x_iadd rfl dX9_nextMove_55 ?_
  refine x_is2 rfl dX9_nextMove_56 ?_
  refine x_il2 dX9_nextMove_57 ?_
  have hmx : (((c * n + p) * n + fo) * n + la) * op + tr = mix n op p fo la tr c := rfl
  refine x_if_lt (tgt := 70) dX9_nextMove_58 rfl (fun q1 => ?_) (fun q1 => ?_)
  · exact absurd q1 (nI_pos (by omega))
  · refine x_il2 dX9_nextMove_61 ?_
    refine x_al0 rfl dX9_nextMove_62 ?_
    refine x_get fdX9_15 h20 rfl dX9_nextMove_63 ?_
    refine x_alen rfl b1 rfl dX9_nextMove_66 ?_
    refine x_icmp_lt (tgt := 72) dX9_nextMove_67 rfl (fun q2 => ?_) (fun q2 => ?_)
    · refine x_al0 rfl dX9_nextMove_72 ?_
      refine x_get fdX9_15 h20 rfl dX9_nextMove_73 ?_
      refine x_il2 dX9_nextMove_76 ?_
      refine x_bald b1 (vp_in_nI (by omega) b5) (ald rfl (by omega)) dX9_nextMove_77 ?_
      refine x_if_ne (tgt := 176) dX9_nextMove_78 rfl (fun q3 => ?_) (fun q3 => ?_)
      · refine x_al0 rfl dX9_nextMove_176 ?_
        refine x_get fdX9_15 h20 rfl dX9_nextMove_177 ?_
        refine x_il2 dX9_nextMove_180 ?_
        refine x_bald b1 (vp_in_nI (by omega) b5) (ald rfl (by omega)) dX9_nextMove_181 ?_
        have hk1 : fm (mix n op p fo la tr c) = nI (enc (mvs n nx sp p fo la tr c)) := by
          obtain ⟨kp', k1, k2⟩ := hkp
          rw [b3] at k1
          cases k1
          rcases ((b8 c hc).2 k2).1 p fo la tr hp hf hl ht with z | z
          · exact absurd z q3
          · exact z
        exact x_iret rfl rfl dX9_nextMove_182 ⟨_, rfl, hk1, ⟨Gv.rf, hV, hkp⟩, rfl, rfl, rfl⟩
      · refine x_al0 rfl dX9_nextMove_81 ?_
        refine x_get fdX9_9 h20 rfl dX9_nextMove_82 ?_
        refine x_get fdX9_80 hD rfl dX9_nextMove_85 ?_
        cases sp with
        | none =>
          have hvs : vs = .null := lS
          subst hvs
          refine x_ifnullN (tgt := 112) dX9_nextMove_88 rfl ?_
          refine x_iconst (v := nI 0) dX9_nextMove_112 rfl ?_
          refine x_is3 rfl dX9_nextMove_113 ?_
          exact lp_nm2 (w := w) hV Gv.rf hc hp hf hl ht hkp rfl rfl rfl hW hw
        | some cs =>
          obtain ⟨rl, hrl⟩ : ∃ rl, vs = .ref rl := by
            obtain ⟨rl, _, _, _, _, e, _⟩ := id lS
            exact ⟨rl, e⟩
          subst hrl
          have n5 := n5.some
          obtain ⟨⟨rs', hO⟩, H, sk, hK, C⟩ := lS.tells (g := g) (d := d) hW n5 (by simp)
          have htr : tells w cs = 0 ∨ tells w cs = 1 := by
            obtain ⟨_, _, _, _, _, _, _, _, _, _, _, _, _, _, _, e11, e12⟩ := id lS
            exact tells_truth e11 e12
          refine x_ifnull dX9_nextMove_88 ?_
          refine x_al0 rfl dX9_nextMove_91 ?_
          refine x_get fdX9_9 h20 rfl dX9_nextMove_92 ?_
          refine x_get fdX9_80 hD rfl dX9_nextMove_95 ?_
          refine x_al0 rfl dX9_nextMove_98 ?_
          refine x_get fdX9_32 h20 rfl dX9_nextMove_99 ?_
          refine x_cv1Ip mX2_tell_ok lkX9_84 rfl (Nat.le_of_ble_eq_true rfl) (Nat.le_of_ble_eq_true rfl) dX9_nextMove_102 hO C (fun r h2 hq => ?_)
          obtain ⟨rfl, sk', rfl⟩ := hq
          have v1 := hV.sK (f := sk') hK (by simp)
          have k23 : ∃ kp, (h.set rks (.inl (0, H, .inl sk')))[23]? = some (.inl (3, 10, .inl kp)) ∧ kp c = 1 := by
            obtain ⟨kp, k1, k2⟩ := hkp
            exact ⟨kp, by rw [hs_ne (by omega)]; exact k1, k2⟩
          have F := fun (x : Option Value) => lp_nm2 (g := g) (d := d) (h0 := h) (x := x) (w := w) v1 (Gv.setA (by simp) hK) hc hp hf hl ht k23 (by rw [hs_ne (by omega)]) (by rw [hs_ne (by omega)]) (by rw [hs_ne (by omega)]) (by rw [hs_ne (by omega)]; exact hW) hw
          have tc := tells_congr (cs := cs) hw
          refine x_if_eq (tgt := 112) dX9_nextMove_105 rfl (fun q4 => ?_) (fun q4 => ?_)
          · have hg : b2 (giveUpB (some cs) (fw p fo la tr c) = true) = nI 0 := b2z (by
              simp [giveUpB]
              rw [← tc, q4]
              decide)
            rw [hg] at F
            refine x_iconst (v := nI 0) dX9_nextMove_112 rfl ?_
            refine x_is3 rfl dX9_nextMove_113 ?_
            exact F _
          · have hg : b2 (giveUpB (some cs) (fw p fo la tr c) = true) = nI 1 := b2o (by
              simp [giveUpB]
              rw [← tc]
              rcases htr with z | z
              · exact absurd z q4
              · exact z)
            rw [hg] at F
            refine x_iconst (v := nI 1) dX9_nextMove_108 rfl ?_
            refine x_goto (tgt := 113) dX9_nextMove_109 rfl ?_
            refine x_is3 rfl dX9_nextMove_113 ?_
            exact F _
    · exact absurd (nI_lt (by omega) b5) q2
end ZN

