/-! the class's Visits: go -/
def GS (h0 h : zH) (n rn rs : Nat) (sw : Int32) (rt rmv rmk rkn rks op : Nat) (nx sp : Option (List Nat)) (c : Nat) (len fr : Int32) (w pa : Nat → Int32) : Prop := Gv rmv rmk rkn rks h0 h ∧ VC h n rn rs sw rt rmv rmk rkn rks op nx sp ∧ (∃ kp, h[23]? = some (.inl (3, 10, .inl kp)) ∧ kp c = 1) ∧ h[20]? = some (visE rt rmv rmk (nI (n * n * n * op)) len fr) ∧ h[24]? = some (.inl (0, 5, .inl w)) ∧ h[25]? = some (.inl (0, 9, .inl pa))
section ZG0
variable {h0 h : zH} {n rn rs rt rmv rmk rkn rks op c : Nat} {sw len fr : Int32} {nx sp : Option (List Nat)} {w pa : Nat → Int32} {g : zG} {dz κ σ pc : Nat} {m : zMe} {ls : zL} {st : List Value} {Q : Option Value → zH → Prop}
theorem GS.frm (G : GS h0 h n rn rs sw rt rmv rmk rkn rks op nx sp c len fr w pa) : Gv rmv rmk rkn rks h0 h := G.1
theorem GS.vc (G : GS h0 h n rn rs sw rt rmv rmk rkn rks op nx sp c len fr w pa) : VC h n rn rs sw rt rmv rmk rkn rks op nx sp := G.2.1
theorem GS.kp (G : GS h0 h n rn rs sw rt rmv rmk rkn rks op nx sp c len fr w pa) : ∃ kp, h[23]? = some (.inl (3, 10, .inl kp)) ∧ kp c = 1 := G.2.2.1
theorem GS.v20 (G : GS h0 h n rn rs sw rt rmv rmk rkn rks op nx sp c len fr w pa) : h[20]? = some (visE rt rmv rmk (nI (n * n * n * op)) len fr) := G.2.2.2.1
theorem GS.w24 (G : GS h0 h n rn rs sw rt rmv rmk rkn rks op nx sp c len fr w pa) : h[24]? = some (.inl (0, 5, .inl w)) := G.2.2.2.2.1
theorem GS.p25 (G : GS h0 h n rn rs sw rt rmv rmk rkn rks op nx sp c len fr w pa) : h[25]? = some (.inl (0, 9, .inl pa)) := G.2.2.2.2.2
theorem GS.s24 (G : GS h0 h n rn rs sw rt rmv rmk rkn rks op nx sp c len fr w pa) {f : Nat → Int32} (k : ∀ h, GS h0 h n rn rs sw rt rmv rmk rkn rks op nx sp c len fr f pa → Zw g dz κ σ m pc ls st h Q) : Zw g dz κ σ m pc ls st (h.set 24 (.inl (0, 5, .inl f))) Q := by
  obtain ⟨g1, g2, ⟨kp, g3, g3'⟩, g4, g5, g6⟩ := G
  exact k _ ⟨g1.tr (Gv.setA (by simp) g5), g2.s24, ⟨kp, by rw [hs_ne (by decide)]; exact g3, g3'⟩, by rw [hs_ne (by decide)]; exact g4, hs_eq g5, by rw [hs_ne (by decide)]; exact g6⟩
theorem GS.s25 (G : GS h0 h n rn rs sw rt rmv rmk rkn rks op nx sp c len fr w pa) {f : Nat → Int32} (k : ∀ h, GS h0 h n rn rs sw rt rmv rmk rkn rks op nx sp c len fr w f → Zw g dz κ σ m pc ls st h Q) : Zw g dz κ σ m pc ls st (h.set 25 (.inl (0, 9, .inl f))) Q := by
  obtain ⟨g1, g2, ⟨kp, g3, g3'⟩, g4, g5, g6⟩ := G
  exact k _ ⟨g1.tr (Gv.setA (by simp) g6), g2.s25, ⟨kp, by rw [hs_ne (by decide)]; exact g3, g3'⟩, by rw [hs_ne (by decide)]; exact g4, by rw [hs_ne (by decide)]; exact g5, hs_eq g6⟩
theorem GS.s20 (G : GS h0 h n rn rs sw rt rmv rmk rkn rks op nx sp c len fr w pa) {len' fr' : Int32} (k : ∀ h, GS h0 h n rn rs sw rt rmv rmk rkn rks op nx sp c len' fr' w pa → Zw g dz κ σ m pc ls st h Q) : Zw g dz κ σ m pc ls st (h.set 20 (visE rt rmv rmk (nI (n * n * n * op)) len' fr')) Q := by
  obtain ⟨g1, g2, ⟨kp, g3, g3'⟩, g4, g5, g6⟩ := G
  exact k _ ⟨g1.tr (Gv.setT (by simp) g4 (by simp [z_tg])), g2.s20, ⟨kp, by rw [hs_ne (by decide)]; exact g3, g3'⟩, hs_eq g4, by rw [hs_ne (by decide)]; exact g5, by rw [hs_ne (by decide)]; exact g6⟩
theorem GS.desk (G : GS h0 h n rn rs sw rt rmv rmk rkn rks op nx sp c len fr w pa) : ∃ fc f0 nr li vn vs, h[rt]? = some (deskE n op fc f0 nr li vn vs) := by
  obtain ⟨fc, f0, nr, li, vn, vs, hD, -⟩ := G.vc.2.1
  exact ⟨fc, f0, nr, li, vn, vs, hD⟩
theorem GS.rows (G : GS h0 h n rn rs sw rt rmv rmk rkn rks op nx sp c len fr w pa) : h[15]? = some (rowsE n sw rn rs) := G.vc.1.2.2.2.2.1
/-- behind a step within the same world -/
theorem GS.step {h' : zH} (G : GS h0 h n rn rs sw rt rmv rmk rkn rks op nx sp c len fr w pa) (q : VCP h h' n rn rs sw rt rmv rmk rkn rks op nx sp c) : GS h0 h' n rn rs sw rt rmv rmk rkn rks op nx sp c len fr w pa := by
  obtain ⟨⟨q1, q2, q3⟩, q4, q5, q6⟩ := q
  exact ⟨G.frm.tr q1, q2, q3, q4.trans G.v20, q5.trans G.w24, q6.trans G.p25⟩
end ZG0
/-- behind a visit of the class -/
def GoP (h0 h : zH) (n rn rs : Nat) (sw : Int32) (rt rmv rmk rkn rks op : Nat) (nx sp : Option (List Nat)) (c : Nat) (r : List Nat × Bool) : Prop := ∃ w pa, GS h0 h n rn rs sw rt rmv rmk rkn rks op nx sp c (nI r.1.length) (b2 (r.2 = true)) w pa ∧ ∀ i, i < r.1.length → pa i = nI (r.1.getD i 0)
section ZG1
variable {g : zG} {d : Nat} {h0 : zH} {n rn rs rt rmv rmk rkn rks op c : Nat} {sw : Int32} {nx sp : Option (List Nat)}
theorem go_end {h : zH} {row p tr : Nat} {x : Option Value} {w pa : Nat → Int32} {r : List Nat} (htr : tr < 2 ^ 31) (G : GS h0 h n rn rs sw rt rmv rmk rkn rks op nx sp c (nI r.length) (nI 1) w pa) (hpa : ∀ i, i < r.length → pa i = nI (r.getD i 0)) :
    Zw g (d + 4) 0 0 mX9_go 46 [some (.ref 20), some (.int (nI p)), some (.int (nI row)), some (.int (nI c)), some (.int (nI tr)), x] [] h (rVp (fun h' => GoP h0 h' n rn rs sw rt rmv rmk rkn rks op nx sp c (r, true))) := by
  obtain ⟨fc, f0, nr, li, vn, vs, hD⟩ := G.desk
  have ho := G.vc.2.2.2.2.1
  have fin : GoP h0 h n rn rs sw rt rmv rmk rkn rks op nx sp c (r, true) := ⟨w, pa, G, hpa⟩
  refine x_il4 dX9_go_46 ?_
  refine x_al0 rfl dX9_go_48 ?_
  refine x_get fdX9_9 G.v20 rfl dX9_go_49 ?_
  refine x_get fdX9_55 hD rfl dX9_go_52 ?_
  refine x_icmp_ge (tgt := 172) dX9_go_55 rfl (fun q1 => ?_) (fun q1 => ?_)
  · exact x_vret rfl dX9_go_172 ⟨rfl, fin⟩
  · refine x_il4 dX9_go_58 ?_
    refine x_al0 rfl dX9_go_60 ?_
    refine x_get fdX9_36 G.v20 rfl dX9_go_61 ?_
    refine x_alen rfl G.p25 rfl dX9_go_64 ?_
    refine x_icmp_ge (tgt := 172) dX9_go_65 rfl (fun q2 => ?_) (fun q2 => ?_)
    · exact x_vret rfl dX9_go_172 ⟨rfl, fin⟩
    · refine x_al0 rfl dX9_go_68 ?_
      refine x_get fdX9_42 G.v20 rfl dX9_go_69 ?_
      refine x_if_ne (tgt := 172) dX9_go_72 rfl (fun q3 => ?_) (fun q3 => ?_)
      · exact x_vret rfl dX9_go_172 ⟨rfl, fin⟩
      · exact absurd q3 (by decide)
theorem lp_go {row p : Nat} (hc : c < 10) (hr : row < fct n) (hp : p < n) : ∀ (k tr fo la : Nat) (pre : List Nat) (x : Option Value) (h : zH) (w pa : Nat → Int32), tr + k = op → fo < n → la < n → pre.length = tr → GS h0 h n rn rs sw rt rmv rmk rkn rks op nx sp c (nI tr) (nI 0) w pa → (∀ i, i < tr → pa i = nI (pre.getD i 0)) → w 0 = nI p → w 1 = nI fo → w 2 = nI la → w 4 = nI c →
    Zw g (d + 4) 0 0 mX9_go 46 [some (.ref 20), some (.int (nI p)), some (.int (nI row)), some (.int (nI c)), some (.int (nI tr)), x] [] h (rVp (fun h' => GoP h0 h' n rn rs sw rt rmv rmk rkn rks op nx sp c (pre ++ (visL n nx sp row p c k tr fo la).1, (visL n nx sp row p c k tr fo la).2))) := by
  intro k
  induction k with
  | zero =>
    intro tr fo la pre x h w pa htr hfo hla hpl G hpa w0 w1 w2 w4
    obtain ⟨fc, f0, nr, li, vn, vs, hD⟩ := G.desk
    obtain rfl : tr = op := by omega
    have ho := G.vc.2.2.2.2.1
    refine x_il4 dX9_go_46 ?_
    refine x_al0 rfl dX9_go_48 ?_
    refine x_get fdX9_9 G.v20 rfl dX9_go_49 ?_
    refine x_get fdX9_55 hD rfl dX9_go_52 ?_
    refine x_icmp_ge (tgt := 172) dX9_go_55 rfl (fun q1 => ?_) (fun q1 => ?_)
    · exact x_vret rfl dX9_go_172 ⟨rfl, w, pa, by simp [visL, hpl]; exact G, by simpa [visL, hpl] using hpa⟩
    · exact absurd (nI_le (Nat.le_refl _) (by omega)) q1
  | succ k ih =>
    intro tr fo la pre x h w pa htr hfo hla hpl G hpa w0 w1 w2 w4
    obtain ⟨fc, f0, nr, li, vn, vs, hD⟩ := G.desk
    have ho := G.vc.2.2.2.2.1
    have hn := G.vc.1.2.1
    have hfw : ∀ j, j < 5 → upd w 3 (nI tr) j = fw p fo la tr c j := by
      intro j hj
      have hh : j = 0 ∨ j = 1 ∨ j = 2 ∨ j = 3 ∨ j = 4 := by omega
      rcases hh with rfl | rfl | rfl | rfl | rfl <;> simp [upd, fw, w0, w1, w2, w4]
    refine x_il4 dX9_go_46 ?_
    refine x_al0 rfl dX9_go_48 ?_
    refine x_get fdX9_9 G.v20 rfl dX9_go_49 ?_
    refine x_get fdX9_55 hD rfl dX9_go_52 ?_
    refine x_icmp_ge (tgt := 172) dX9_go_55 rfl (fun q1 => ?_) (fun q1 => ?_)
    · exact absurd q1 (nI_ge (by omega) (by omega))
    · refine x_il4 dX9_go_58 ?_
      refine x_al0 rfl dX9_go_60 ?_
      refine x_get fdX9_36 G.v20 rfl dX9_go_61 ?_
      refine x_alen rfl G.p25 rfl dX9_go_64 ?_
      refine x_icmp_ge (tgt := 172) dX9_go_65 rfl (fun q2 => ?_) (fun q2 => ?_)
      · exact absurd q2 (nI_ge (by omega) (by decide))
      · refine x_al0 rfl dX9_go_68 ?_
        refine x_get fdX9_42 G.v20 rfl dX9_go_69 ?_
        refine x_if_ne (tgt := 172) dX9_go_72 rfl (fun q3 => ?_) (fun q3 => ?_)
        · exact absurd rfl q3
        · refine x_al0 rfl dX9_go_75 ?_
          refine x_get fdX9_32 G.v20 rfl dX9_go_76 ?_
          refine x_iconst (v := nI 3) dX9_go_79 rfl ?_
          refine x_il4 dX9_go_80 ?_
          refine x_iast G.w24 (vp_in_nI (by decide) (by decide)) dX9_go_82 ?_
          rw [nI_clamp (by decide)]
          refine G.s24 (fun h G => ?_)
          refine x_al0 rfl dX9_go_83 ?_
          refine x_cv0Ip mX9_nextMove_ok lkX9_72 rfl (Nat.le_of_ble_eq_true rfl) (Nat.le_of_ble_eq_true rfl) dX9_go_84 G.v20 (c_nextMove G.vc hc hp hfo hla (show tr < op by omega) G.kp G.w24 hfw) (fun r h2 hq => ?_)
          obtain ⟨rfl, hq⟩ := hq
          replace G := G.step hq
          clear hq h hD q1 q2 q3
          rename zH => h
          refine x_is5 rfl dX9_go_87 ?_
          refine x_il5 dX9_go_89 ?_
          refine x_iconst (v := nI 2) dX9_go_91 rfl ?_
          cases hm : mvs n nx sp p fo la tr c with
          | none =>
            refine x_icmp_ge (tgt := 96) dX9_go_92 rfl (fun q1 => ?_) (fun q1 => ?_)
            · exact absurd q1 (by decide)
            · exact x_vret rfl dX9_go_95 ⟨rfl, _, pa, by simp [visL, hm, hpl]; exact G, by simpa [visL, hm, hpl] using hpa⟩
          | some dd =>
            have hdd : dd < n := by
              have h1 := opensD_lt (nx := nx) (w := fw p fo la tr c) (show 0 < n by omega) hfo
              unfold mvs at hm
              split at hm
              · cases hm
              · cases hm; exact h1
            have hs2 : nI (2 + dd) - nI 2 = nI dd := by rw [pk_sub (by omega)]; congr 1; omega
            show Zw g (d + 4) 0 0 mX9_go _ _ [_, .int (nI (2 + dd))] _ _
            refine x_icmp_ge (tgt := 96) dX9_go_92 rfl (fun q1 => ?_) (fun q1 => ?_)
            · clear q1
              refine x_al0 rfl dX9_go_96 ?_
              refine x_get fdX9_32 G.v20 rfl dX9_go_97 ?_
              refine x_iconst (v := nI 2) dX9_go_100 rfl ?_
              refine x_il5 dX9_go_101 ?_
              refine x_iconst (v := nI 2) dX9_go_103 rfl ?_
              refine x_isub (hs2) dX9_go_104 ?_
              refine x_iast G.w24 (vp_in_nI (by decide) (by decide)) dX9_go_105 ?_
              rw [nI_clamp (by decide)]
              refine G.s24 (fun h G => ?_)
              refine x_al0 rfl dX9_go_106 ?_
              refine x_get fdX9_32 G.v20 rfl dX9_go_107 ?_
              refine x_iconst (v := nI 1) dX9_go_110 rfl ?_
              refine x_al0 rfl dX9_go_111 ?_
              refine x_get fdX9_46 G.v20 rfl dX9_go_112 ?_
              refine x_il2 dX9_go_115 ?_
              refine x_al0 rfl dX9_go_116 ?_
              refine x_get fdX9_32 G.v20 rfl dX9_go_117 ?_
              refine x_iconst (v := nI 2) dX9_go_120 rfl ?_
              refine x_iald G.w24 (vp_in_nI (by decide) (by decide)) (v := nI dd) (ald (by simp [upd]) (by decide)) dX9_go_121 ?_
              refine x_cv2I mX5_nameIn_ok lkX9_76 rfl (Nat.le_of_ble_eq_true rfl) (Nat.le_of_ble_eq_true rfl) dX9_go_122 G.rows  (c_nameIn G.vc.1 hr hdd) ?_
              refine x_iast G.w24 (vp_in_nI (by decide) (by decide)) dX9_go_125 ?_
              rw [nI_clamp (by decide)]
              refine G.s24 (fun h G => ?_)
              refine x_al0 rfl dX9_go_126 ?_
              refine x_get fdX9_36 G.v20 rfl dX9_go_127 ?_
              refine x_il4 dX9_go_130 ?_
              refine x_al0 rfl dX9_go_132 ?_
              refine x_get fdX9_32 G.v20 rfl dX9_go_133 ?_
              refine x_iconst (v := nI 2) dX9_go_136 rfl ?_
              refine x_iald G.w24 (vp_in_nI (by decide) (by decide)) (v := nI dd) (ald (by simp [upd]) (by decide)) dX9_go_137 ?_
              refine x_iast G.p25 (vp_in_nI (by omega) (by decide)) dX9_go_138 ?_
              rw [nI_clamp (by omega)]
              refine G.s25 (fun h G => ?_)
              refine x_al0 rfl dX9_go_139 ?_
              refine x_il4 dX9_go_140 ?_
              refine x_iconst (v := nI 1) dX9_go_142 rfl ?_
              first | refine x_iadd (nI_add _ _) dX9_go_143 ?_ | refine x_iadd rfl dX9_go_143 ?_
              refine x_put fdX9_39 G.v20 zf_i (by simp) dX9_go_144 ?_
              refine G.s20 (len' := nI (tr + 1)) (fun h G => ?_)
              refine x_al0 rfl dX9_go_147 ?_
              refine x_al0 rfl dX9_go_148 ?_
              refine x_get fdX9_32 G.v20 rfl dX9_go_149 ?_
              refine x_iconst (v := nI 1) dX9_go_152 rfl ?_
              refine x_iald G.w24 (vp_in_nI (by decide) (by decide)) (v := nI (nm n row dd)) (ald (by simp [upd]) (by decide)) dX9_go_153 ?_
              refine x_il1 dX9_go_154 ?_
              have hnml := nm_lt hn hr hdd
              have hpre : ∀ i, i < tr + 1 → upd pa tr (nI dd) i = nI ((pre ++ [dd]).getD i 0) := by
                intro i hi
                by_cases q : i = tr
                · subst q
                  simp [upd, ← hpl]
                · simp only [upd, if_neg q]
                  rw [hpa i (by omega), List.getD_eq_getElem?_getD, List.getD_eq_getElem?_getD, List.getElem?_append_left (by omega)]
              refine x_icmp_ne (tgt := 162) dX9_go_155 rfl (fun q1 => ?_) (fun q1 => ?_)
              · refine x_iconst (v := nI 0) dX9_go_162 rfl ?_
                refine x_put fdX9_42 G.v20 (zf_z (by first | exact Or.inl rfl | exact Or.inr rfl)) (by simp) dX9_go_163 ?_
                refine G.s20 (fr' := nI 0) (fun h G => ?_)
                first | refine x_ii4 rfl (nI_1 _) dX9_go_166 ?_ | refine x_ii4 rfl rfl dX9_go_166 ?_
                refine x_goto (tgt := 46) dX9_go_169 rfl ?_
                have hne : ¬ nm n row dd = p := fun q => q1 (by rw [q])
                have F := fun (x : Option Value) => ih (tr + 1) (nm n row dd) dd (pre ++ [dd]) x h _ _ (by omega) hnml hdd (by simp [hpl]) G hpre (by simp [upd, w0]) (by simp [upd]) (by simp [upd]) (by simp [upd, w4])
                unfold visL
                rw [hm]
                simp only [if_neg hne]
                simp only [List.append_assoc, List.cons_append, List.nil_append] at F
                exact F _
              · refine x_iconst (v := nI 1) dX9_go_158 rfl ?_
                refine x_goto (tgt := 163) dX9_go_159 rfl ?_
                refine x_put fdX9_42 G.v20 (zf_z (by first | exact Or.inl rfl | exact Or.inr rfl)) (by simp) dX9_go_163 ?_
                refine G.s20 (fr' := nI 1) (fun h G => ?_)
                first | refine x_ii4 rfl (nI_1 _) dX9_go_166 ?_ | refine x_ii4 rfl rfl dX9_go_166 ?_
                refine x_goto (tgt := 46) dX9_go_169 rfl ?_
                have heq : nm n row dd = p := (nI_eq (by omega) (by omega)).mp q1
                unfold visL
                rw [hm]
                simp only [if_pos heq]
                have hl : tr + 1 = (pre ++ [dd]).length := by simp [hpl]
                exact go_end (r := pre ++ [dd]) (by omega) (hl ▸ G) (by rw [← hl]; exact hpre)
            · exact absurd (nI_le (by omega) (by omega)) q1
theorem c_go {h : zH} {row p : Nat} (hV : VC h n rn rs sw rt rmv rmk rkn rks op nx sp) (hc : c < 10) (hr : row < fct n) (hp : p < n) : Zm g (d + 4) 0 0 mX9_go [.ref 20, .int (nI p), .int (nI row), .int (nI c)] h (rVp (fun h' => GoP h h' n rn rs sw rt rmv rmk rkn rks op nx sp c (vis n op nx sp row p c))) := by
  have h20 : ∃ len fr, h[20]? = some (visE rt rmv rmk (nI (n * n * n * op)) len fr) := hV.2.2.1
  obtain ⟨w, h24⟩ := hV.2.2.2.2.2.2.1
  obtain ⟨pa, h25⟩ := hV.2.2.2.2.2.2.2.1
  obtain ⟨len, fr, h20⟩ := h20
  show Zw g (d + 4) 0 0 mX9_go 0 [some (.ref 20), some (.int (nI p)), some (.int (nI row)), some (.int (nI c)), none, none] [] h _
  refine x_al0 rfl dX9_go_0 ?_
  refine x_il3 dX9_go_1 ?_
  refine x_cv1Vp mX9_prepare_ok lkX9_64 rfl (Nat.le_of_ble_eq_true rfl) (Nat.le_of_ble_eq_true rfl) dX9_go_2 h20 (c_prepare hV hc) (fun h2 hq => ?_)
  obtain ⟨⟨q1, q2, q3⟩, q4, q5, q6⟩ := hq
  have G : GS h h2 n rn rs sw rt rmv rmk rkn rks op nx sp c len fr w pa := ⟨q1, q2, q3, q4.trans h20, q5.trans h24, q6.trans h25⟩
  refine x_al0 rfl dX9_go_5 ?_
  refine x_iconst (v := nI 0) dX9_go_6 rfl ?_
  refine x_put fdX9_39 G.v20 zf_i (by simp) dX9_go_7 ?_
  refine G.s20 (len' := nI 0) (fun h G => ?_)
  refine x_al0 rfl dX9_go_10 ?_
  refine x_iconst (v := nI 0) dX9_go_11 rfl ?_
  refine x_put fdX9_42 G.v20 (zf_z (by first | exact Or.inl rfl | exact Or.inr rfl)) (by simp) dX9_go_12 ?_
  refine G.s20 (fr' := nI 0) (fun h G => ?_)
  refine x_al0 rfl dX9_go_15 ?_
  refine x_get fdX9_32 G.v20 rfl dX9_go_16 ?_
  refine x_iconst (v := nI 0) dX9_go_19 rfl ?_
  refine x_il1 dX9_go_20 ?_
  refine x_iast G.w24 (vp_in_nI (by decide) (by decide)) dX9_go_21 ?_
  rw [nI_clamp (by decide)]
  refine G.s24 (fun h G => ?_)
  refine x_al0 rfl dX9_go_22 ?_
  refine x_get fdX9_32 G.v20 rfl dX9_go_23 ?_
  refine x_iconst (v := nI 1) dX9_go_26 rfl ?_
  refine x_il1 dX9_go_27 ?_
  refine x_iast G.w24 (vp_in_nI (by decide) (by decide)) dX9_go_28 ?_
  rw [nI_clamp (by decide)]
  refine G.s24 (fun h G => ?_)
  refine x_al0 rfl dX9_go_29 ?_
  refine x_get fdX9_32 G.v20 rfl dX9_go_30 ?_
  refine x_iconst (v := nI 2) dX9_go_33 rfl ?_
  refine x_il1 dX9_go_34 ?_
  refine x_iast G.w24 (vp_in_nI (by decide) (by decide)) dX9_go_35 ?_
  rw [nI_clamp (by decide)]
  refine G.s24 (fun h G => ?_)
  refine x_al0 rfl dX9_go_36 ?_
  refine x_get fdX9_32 G.v20 rfl dX9_go_37 ?_
  refine x_iconst (v := nI 4) dX9_go_40 rfl ?_
  refine x_il3 dX9_go_41 ?_
  refine x_iast G.w24 (vp_in_nI (by decide) (by decide)) dX9_go_42 ?_
  rw [nI_clamp (by decide)]
  refine G.s24 (fun h G => ?_)
  refine x_iconst (v := nI 0) dX9_go_43 rfl ?_
  refine x_is4 rfl dX9_go_44 ?_
  exact lp_go hc hr hp op 0 p p [] _ h _ _ (by omega) hp hp rfl G (fun i hi => absurd hi (by omega)) (by simp [upd]) (by simp [upd]) (by simp [upd]) (by simp [upd])
end ZG1
section ZG2
variable {g : zG} {d : Nat} {h0 : zH} {n rn rs rt rmv rmk rkn rks op c : Nat} {sw : Int32} {nx sp : Option (List Nat)}
theorem c_openedAt {h : zH} {i : Nat} {len fr : Int32} {pa : Nat → Int32} {moc : Int32} (h20 : h[20]? = some (visE rt rmv rmk moc len fr)) (h25 : h[25]? = some (.inl (0, 9, .inl pa))) (hi : i < 9) : Zm g d 0 0 mX9_openedAt [.ref 20, .int (nI i)] h (rI (pa i) h) := by
  show Zw g d 0 0 mX9_openedAt 0 [some (.ref 20), some (.int (nI i))] [] h _
  refine x_il1 dX9_openedAt_0 ?_
  refine x_if_lt (tgt := 22) dX9_openedAt_1 rfl (fun q1 => ?_) (fun q1 => ?_)
  · exact absurd q1 (nI_pos (by omega))
  · refine x_il1 dX9_openedAt_4 ?_
    refine x_al0 rfl dX9_openedAt_5 ?_
    refine x_get fdX9_36 h20 rfl dX9_openedAt_6 ?_
    refine x_alen rfl h25 rfl dX9_openedAt_9 ?_
    refine x_icmp_ge (tgt := 22) dX9_openedAt_10 rfl (fun q2 => ?_) (fun q2 => ?_)
    · exact absurd q2 (nI_ge hi (by decide))
    · refine x_al0 rfl dX9_openedAt_13 ?_
      refine x_get fdX9_36 h20 rfl dX9_openedAt_14 ?_
      refine x_il1 dX9_openedAt_17 ?_
      refine x_iald h25 (vp_in_nI hi (by decide)) (ald rfl (by omega)) dX9_openedAt_18 ?_
      refine x_goto (tgt := 23) dX9_openedAt_19 rfl ?_
      exact x_iret rfl rfl dX9_openedAt_23 ⟨rfl, rfl⟩
theorem shl1 {k : Nat} (hk : k < 31) : nI 1 <<< (nI k &&& 31) = nI (2 ^ k) := by
  have h1 : 2 ^ k ≤ 2 ^ 30 := Nat.pow_le_pow_right (by decide) (by omega)
  have := shl_n (n := 1) (k := k) (by omega) (by omega)
  rw [Nat.one_mul] at this
  exact this
/-- who must be let off -/
def goal (n aim : Nat) : Nat := if aim = 0 then 2 ^ n - 1 else 0
theorem c_goalOf {h : zH} {aim : Nat} {len fr : Int32} {moc : Int32} (h20 : h[20]? = some (visE rt rmv rmk moc len fr)) (hR : h[15]? = some (rowsE n sw rn rs)) (hn : n ≤ 6) (ha : aim < 2) : Zm g d 0 0 mX9_goalOf [.ref 20, .int (nI aim)] h (rI (nI (goal n aim)) h) := by
  show Zw g d 0 0 mX9_goalOf 0 [some (.ref 20), some (.int (nI aim))] [] h _
  have hp : 0 < 2 ^ n := Nat.two_pow_pos n
  refine x_il1 dX9_goalOf_0 ?_
  refine x_if_ne (tgt := 18) dX9_goalOf_1 rfl (fun q1 => ?_) (fun q1 => ?_)
  · refine x_iconst (v := nI 0) dX9_goalOf_18 rfl ?_
    have : aim ≠ 0 := fun q => q1 (by rw [q]; rfl)
    rw [show goal n aim = 0 from if_neg this]
    exact x_iret rfl rfl dX9_goalOf_19 ⟨rfl, rfl⟩
  · refine x_iconst (v := nI 1) dX9_goalOf_4 rfl ?_
    refine x_al0 rfl dX9_goalOf_5 ?_
    refine x_get fdX9_46 h20 rfl dX9_goalOf_6 ?_
    refine x_get fdX9_63 hR rfl dX9_goalOf_9 ?_
    refine x_ishl (shl1 (by omega)) dX9_goalOf_12 ?_
    refine x_iconst (v := nI 1) dX9_goalOf_13 rfl ?_
    refine x_isub (pk_sub (by omega)) dX9_goalOf_14 ?_
    refine x_goto (tgt := 19) dX9_goalOf_15 rfl ?_
    have : aim = 0 := by rw [nI_z (by omega)] at q1; exact q1
    rw [show goal n aim = 2 ^ n - 1 from if_pos this]
    exact x_iret rfl rfl dX9_goalOf_19 ⟨rfl, rfl⟩
end ZG2

