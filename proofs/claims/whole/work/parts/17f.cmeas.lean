/-! the class's measure, fewest, way -/
def fi (B : Nat → Bool) (i : Nat) : Nat → Option Nat := fun t => if decide (t < i) && B t then some 0 else none
theorem fi_0 {B : Nat → Bool} {i t m : Nat} (h : fi B i t = some m) : m = 0 ∧ t < i ∧ B t = true := by
  unfold fi at h
  split at h
  · next z => cases h; simp at z; exact ⟨rfl, z⟩
  · cases h
theorem fi_no {B : Nat → Bool} {i : Nat} (h : B i = false) : fi B (i + 1) = fi B i := by
  funext t
  unfold fi
  by_cases z : t = i
  · rw [z, h]; simp
  · rw [show decide (t < i + 1) = decide (t < i) from decide_eq_decide.mpr (by omega)]
theorem fi_yes {B : Nat → Bool} {i : Nat} (h : B i = true) : fi B (i + 1) = upO (fi B i) i 0 := by
  funext t
  unfold fi upO
  by_cases z : t = i
  · rw [z, h, if_pos rfl]; simp
  · rw [if_neg z, show decide (t < i + 1) = decide (t < i) from decide_eq_decide.mpr (by omega)]
theorem fi_i {B : Nat → Bool} {i : Nat} : fi B i i = none := by unfold fi; simp
theorem bq_zero {n : Nat} {B : Nat → Bool} {qf : Nat → Nat} : BQ n B (fi B 0) qf 0 := by
  refine ⟨?_, fun j hj => absurd hj (Nat.not_lt_zero _), fun t _ m e => absurd (fi_0 e).2.1 (Nat.not_lt_zero _), fun j j' _ _ _ hj => absurd hj (Nat.not_lt_zero _), fun t _ m e => absurd (fi_0 e).2.1 (Nat.not_lt_zero _)⟩
  have : ∀ k, cnt (fun t => (fi B 0 t).isSome) k = 0 := fun k => by
    induction k with
    | zero => rfl
    | succ k ih => rw [cnt, ih]; simp [fi]
  exact (this _).symm
section ZMe
variable {g : zG} {d : Nat} {h0 h h' : zH} {dk : zDk} {st : zSt} {un : List zSt} {tp : List Nat} {tr : Nat → zTr} {pi : Nat → zPi} {fl : Nat × Nat} {ln : zLn} {sb sj : zS3} {dr : Int32} {wst wqu wwe wla : Nat} {qd : Int32} {fs fq : Nat → Int32} {fw fa : Nat → Int64} {B : Nat → Bool} {f : Nat → Option Nat} {qf : Nat → Nat} {c : Nat}
/-- ways are measured -/
def MsP (h0 h : zH) (dk : zDk) (st : zSt) (un : List zSt) (tp : List Nat) (tr : Nat → zTr) (pi : Nat → zPi) (fl : Nat × Nat) (ln : zLn) (sb sj : zS3) (dr : Int32) (B : Nat → Bool) (f : Nat → Option Nat) : Prop := ∃ wst wqu wwe wla qd fs fq fw fa, GE h0 h dk st un tp tr pi fl ln sb sj dr wst wqu wwe wla qd fs fq fw fa ∧ ln.2.2.1 = true ∧ fct dk.1 ≤ ln.2.2.2.2.2.1 ∧ (∀ t, t < fct dk.1 → fs t = stp (f t)) ∧ (∀ t, t < fct dk.1 → (∀ m, f t = some m → isD dk.1 B t m) ∧ (f t = none → noD dk.1 B t)) ∧ ∀ t, t < fct dk.1 → ∀ m, f t = some m → m < 720
theorem g_measure2 {aim cl : Nat} (G : GE h0 h dk st un tp tr pi fl ln sb sj dr wst wqu wwe wla qd fs fq fw fa) (hs : ln.2.2.1 = true) (hl : fct dk.1 ≤ ln.2.2.2.2.2.1) (ha : aim < 2) (hc : cl < 10) : Zw g (d + 6) 0 0 mX10_measure 48 [some (.ref 26), some (.int (nI aim)), some (.int (nI cl)), none, none] [] h (rVp (fun h' => ∃ f, MsP h0 h' dk st un tp tr pi fl ln sb sj dr (soB dk cl aim) f)) := by
  obtain ⟨d1, d2, d3, d4, d5, d6, d7, d8⟩ := G.ci.dkB
  have npl := np_le d2
  have fl6 := fct_le d2
  have gl := goal_lt (a := aim) d2
  obtain ⟨rn, rs, sw, rt, rmv, rmk, moc, len, fre, hR, hv⟩ := G.r
  obtain ⟨o1, o2, o3, o4, o5, o6, o7, o8, o9, o10, p1, p2, p3, p4, p5, p6, p7, p8⟩ := G.o
  refine x_al0 rfl dX10_measure_48 ?_
  refine x_iconst (v := nI 0) dX10_measure_49 rfl ?_
  refine x_put fdX10_18 o1 zf_i (by simp) dX10_measure_50 ?_
  have G := G.sqd (qd' := nI 0)
  rw [show ([Value.ref 15, .ref 20, .ref wst, .ref wqu, .int qd] : List Value).set 4 (.int (nI 0)) = [.ref 15, .ref 20, .ref wst, .ref wqu, .int (nI 0)] from rfl]
  generalize h.set 26 _ = h at G ⊢
  obtain ⟨rn, rs, sw, rt, rmv, rmk, moc, len, fre, hR, hv⟩ := G.r
  obtain ⟨o1, o2, o3, o4, o5, o6, o7, o8, o9, o10, p1, p2, p3, p4, p5, p6, p7, p8⟩ := G.o
  refine x_al0 rfl dX10_measure_53 ?_
  refine x_get fdX10_26 o1 rfl dX10_measure_54 ?_
  refine x_il1 dX10_measure_57 ?_
  refine x_cv1I mX9_goalOf_ok lkX10_38 rfl (Nat.le_of_ble_eq_true rfl) (Nat.le_of_ble_eq_true rfl) dX10_measure_58 hv  (k_goalOf G.ci ha) ?_
  refine x_is3 rfl dX10_measure_61 ?_
  refine x_iconst (v := nI 0) dX10_measure_62 rfl ?_
  refine x_is4 rfl dX10_measure_63 ?_
  refine x_wh (fun (a : Nat × (Nat → Nat) × Nat) => [some (.ref 26), some (.int (nI aim)), some (.int (nI cl)), some (.int (nI (goal dk.1 aim))), some (.int (nI a.1))]) (fun a h => a.1 ≤ fct dk.1 ∧ ∃ fs fq, GE h0 h dk st un tp tr pi fl ln sb sj dr wst wqu wwe wla (nI a.2.2) fs fq fw fa ∧ BQ dk.1 (soB dk cl aim) (fi (soB dk cl aim) a.1) a.2.1 a.2.2 ∧ (∀ t, t < a.1 → fs t = stp (fi (soB dk cl aim) a.1 t)) ∧ ∀ j, j < a.2.2 → fq j = nI (a.2.1 j)) (fun a => fct dk.1 - a.1) (0, fun _ => 0, 0) ⟨Nat.zero_le _, _, _, G, bq_zero, fun t ht => absurd ht (Nat.not_lt_zero _), fun t ht => absurd ht (Nat.not_lt_zero _)⟩ (fun a h hI ih => ?_)
  obtain ⟨i, qf, c⟩ := a
  obtain ⟨hi, fs, fq, G, b, hS, hQ⟩ := hI
  simp only at hi G b hS hQ
  dsimp only
  obtain ⟨rn, rs, sw, rt, rmv, rmk, moc, len, fre, hR, hv⟩ := G.r
  obtain ⟨o1, o2, o3, o4, o5, o6, o7, o8, o9, o10, p1, p2, p3, p4, p5, p6, p7, p8⟩ := G.o
  refine x_il4 dX10_measure_65 ?_
  refine x_al0 rfl dX10_measure_67 ?_
  refine x_get fdX10_22 o1 rfl dX10_measure_68 ?_
  refine x_get fdX10_35 hR rfl dX10_measure_71 ?_
  refine x_icmp_ge (tgt := 112) dX10_measure_74 rfl (fun q74 => ?_) (fun q74 => ?_)
  · skip
    first | (simp only [cmp_lt, cmp_gt, cmp_eq, zN_cge, zN_cle, Decidable.not_not] at q74) | (simp (disch := omega) only [zN_le, zN_lt, zN_0, zN_1, nI_toInt, zN_eq, zN_eq0, b2_z, b2_nz, Decidable.not_not, Int.not_lt, Int.not_le, zK0, zK1, zK2, zK3, zK5, zK7, zK8, zK9, zK10, zK19, zK20, zK40, zK99, zK100, zK199] at q74) | skip
    have i9 : i = fct dk.1 := by omega
    subst i9
    refine x_iconst (v := nI 0) dX10_measure_112 rfl ?_
    refine x_is4 rfl dX10_measure_113 ?_
    refine x_wh (fun (a : Nat × (Nat → Option Nat) × (Nat → Nat) × Nat) => [some (.ref 26), some (.int (nI aim)), some (.int (nI cl)), some (.int (nI (goal dk.1 aim))), some (.int (nI a.1))]) (fun a h => a.1 ≤ a.2.2.2 ∧ WP h0 h dk st un tp tr pi fl ln sb sj dr wst wqu wwe wla fw fa (soB dk cl aim) a.2.1 a.2.2.1 a.2.2.2 ∧ Pr dk.1 a.2.1 a.2.2.1 a.1 ∧ Bd a.2.1 a.2.2.1 a.2.2.2 a.1 ∧ ∀ t, t < fct dk.1 → soB dk cl aim t = true → a.2.1 t = some 0) (fun a => fct dk.1 - a.1) (0, fi (soB dk cl aim) (fct dk.1), qf, c) ⟨Nat.zero_le _, ⟨_, _, G, b, hS, hQ⟩, fun j hj => absurd hj (Nat.not_lt_zero _), fun _ m _ j _ m' e => (by have := (fi_0 e).1; omega), fun t ht e => (by show fi (soB dk cl aim) (fct dk.1) t = some 0; unfold fi; rw [e, decide_eq_true ht]; rfl)⟩ (fun a h hI ih2 => ?_)
    obtain ⟨i, f, qf, c⟩ := a
    obtain ⟨hi, ⟨fs, fq, G, b, hS, hQ⟩, hP, hB, hZ⟩ := hI
    simp only at hi G b hS hQ hP hB hZ
    dsimp only
    have cl3 : c ≤ fct dk.1 := by rw [b.cnt]; exact cnt_le _
    obtain ⟨rn, rs, sw, rt, rmv, rmk, moc, len, fre, hR, hv⟩ := G.r
    obtain ⟨o1, o2, o3, o4, o5, o6, o7, o8, o9, o10, p1, p2, p3, p4, p5, p6, p7, p8⟩ := G.o
    refine x_il4 dX10_measure_115 ?_
    refine x_al0 rfl dX10_measure_117 ?_
    refine x_get fdX10_18 o1 rfl dX10_measure_118 ?_
    refine x_icmp_ge (tgt := 151) dX10_measure_121 rfl (fun q121 => ?_) (fun q121 => ?_)
    · skip
      first | (simp only [cmp_lt, cmp_gt, cmp_eq, zN_cge, zN_cle, Decidable.not_not] at q121) | (simp (disch := omega) only [zN_le, zN_lt, zN_0, zN_1, nI_toInt, zN_eq, zN_eq0, b2_z, b2_nz, Decidable.not_not, Int.not_lt, Int.not_le, zK0, zK1, zK2, zK3, zK5, zK7, zK8, zK9, zK10, zK19, zK20, zK40, zK99, zK100, zK199] at q121) | skip
      have i9 : i = c := by omega
      subst i9
      exact x_vret rfl dX10_measure_151 ⟨rfl, f, wst, wqu, wwe, wla, _, _, _, _, _, G, hs, hl, hS, fun t ht => fix_d d1 d2 (fun s hs => ⟨b.snd s hs, hZ s hs⟩) (hP.fix d1 d2 b) ht, fun t ht m e => (b.m31 d2 ht e).1⟩
    · skip
      first | (simp only [cmp_lt, cmp_gt, cmp_eq, zN_cge, zN_cle, Decidable.not_not] at q121) | (simp (disch := omega) only [zN_le, zN_lt, zN_0, zN_1, nI_toInt, zN_eq, zN_eq0, b2_z, b2_nz, Decidable.not_not, Int.not_lt, Int.not_le, zK0, zK1, zK2, zK3, zK5, zK7, zK8, zK9, zK10, zK19, zK20, zK40, zK99, zK100, zK199] at q121) | skip
      refine x_il4 dX10_measure_124 ?_
      refine x_al0 rfl dX10_measure_126 ?_
      refine x_get fdX10_15 o1 rfl dX10_measure_127 ?_
      refine x_alen rfl o4 rfl dX10_measure_130 ?_
      rw [show Int32.ofNat ln.2.2.2.2.2.1 = nI ln.2.2.2.2.2.1 from rfl]
      refine x_icmp_ge (tgt := 151) dX10_measure_131 rfl (fun q131 => ?_) (fun q131 => ?_)
      · skip
        first | (simp only [cmp_lt, cmp_gt, cmp_eq, zN_cge, zN_cle, Decidable.not_not] at q131) | (simp (disch := omega) only [zN_le, zN_lt, zN_0, zN_1, nI_toInt, zN_eq, zN_eq0, b2_z, b2_nz, Decidable.not_not, Int.not_lt, Int.not_le, zK0, zK1, zK2, zK3, zK5, zK7, zK8, zK9, zK10, zK19, zK20, zK40, zK99, zK100, zK199] at q131) | skip
        omega
      · skip
        first | (simp only [cmp_lt, cmp_gt, cmp_eq, zN_cge, zN_cle, Decidable.not_not] at q131) | (simp (disch := omega) only [zN_le, zN_lt, zN_0, zN_1, nI_toInt, zN_eq, zN_eq0, b2_z, b2_nz, Decidable.not_not, Int.not_lt, Int.not_le, zK0, zK1, zK2, zK3, zK5, zK7, zK8, zK9, zK10, zK19, zK20, zK40, zK99, zK100, zK199] at q131) | skip
        have il : i < c := by omega
        obtain ⟨qil, m, em, -⟩ := b.le i il
        refine x_al0 rfl dX10_measure_134 ?_
        refine x_al0 rfl dX10_measure_135 ?_
        refine x_get fdX10_15 o1 rfl dX10_measure_136 ?_
        refine x_il4 dX10_measure_139 ?_
        refine x_iald o4 (vp_in_nI (by omega) (by omega)) ((congrArg fq (nI_clamp (by omega))).trans (hQ i il)) dX10_measure_141 ?_
        refine x_cv1Vp mX10_reachNeighbours_ok lkX10_52 rfl (Nat.le_of_ble_eq_true rfl) (Nat.le_of_ble_eq_true rfl) dX10_measure_142 o1  (g_reachN ⟨fs, fq, G, b, hS, hQ⟩ hs hl il em (hB il m em)) (fun h hq => ?_)
        obtain ⟨f', qf', c', W, hE, hN, hb2⟩ := hq
        first | refine x_ii4 rfl (nI_1 _) dX10_measure_145 ?_ | refine x_ii4 rfl rfl dX10_measure_145 ?_
        refine x_goto (tgt := 115) dX10_measure_148 rfl ?_
        obtain ⟨fs', fq', G', b', hS', hQ'⟩ := id W
        have c12 := hE.1
        have em' : f' (qf' i) = some m := by rw [hE.2.2 i il]; exact hE.2.1 _ _ em
        refine ih2 (i + 1, f', qf', c') _ (by simp only; omega) ⟨by simp only; omega, W, fun j hj k hk => ?_, fun hc m1 e1 j hj m' e => ?_, fun t ht e => hE.2.1 _ _ (hZ t ht e)⟩
        · simp only at hj ⊢
          by_cases z : j = i
          · obtain ⟨m', e1, e2⟩ := hN k hk
            rw [z]
            exact ⟨m, m', em', by rw [hE.2.2 i il]; exact e1, e2⟩
          · exact (hP.ext hE (by omega)) j (by omega) k hk
        · simp only at hc e1 hj e
          have a1 := b'.mo i (i + 1) m m1 (by omega) hc em' e1
          have a2 := hb2 j hj m' e
          omega
  · skip
    first | (simp only [cmp_lt, cmp_gt, cmp_eq, zN_cge, zN_cle, Decidable.not_not] at q74) | (simp (disch := omega) only [zN_le, zN_lt, zN_0, zN_1, nI_toInt, zN_eq, zN_eq0, b2_z, b2_nz, Decidable.not_not, Int.not_lt, Int.not_le, zK0, zK1, zK2, zK3, zK5, zK7, zK8, zK9, zK10, zK19, zK20, zK40, zK99, zK100, zK199] at q74) | skip
    have il : i < fct dk.1 := by omega
    have ml := mskK_lt (row := i) (c := cl) d2
    refine x_al0 rfl dX10_measure_77 ?_
    refine x_get fdX10_9 o1 rfl dX10_measure_78 ?_
    refine x_il4 dX10_measure_81 ?_
    refine x_iconst (v := (-1)) dX10_measure_83 rfl ?_
    refine x_iast o3 (vp_in_nI (by omega) (by omega)) dX10_measure_84 ?_
    rw [nI_clamp (by omega)]
    have G := G.sfs (fs' := upd fs i (-1))
    generalize h.set wst _ = h at G ⊢
    obtain ⟨rn, rs, sw, rt, rmv, rmk, moc, len, fre, hR, hv⟩ := G.r
    obtain ⟨o1, o2, o3, o4, o5, o6, o7, o8, o9, o10, p1, p2, p3, p4, p5, p6, p7, p8⟩ := G.o
    refine x_al0 rfl dX10_measure_85 ?_
    refine x_get fdX10_26 o1 rfl dX10_measure_86 ?_
    refine x_il4 dX10_measure_89 ?_
    refine x_il2 dX10_measure_91 ?_
    refine x_cv2Ip mX9_maskOf_ok lkX10_44 rfl (Nat.le_of_ble_eq_true rfl) (Nat.le_of_ble_eq_true rfl) dX10_measure_92 hv  (g_maskOf G il hc) (fun r h hq => ?_)
    obtain ⟨rfl, G⟩ := hq
    obtain ⟨rn, rs, sw, rt, rmv, rmk, moc, len, fre, hR, hv⟩ := G.r
    obtain ⟨o1, o2, o3, o4, o5, o6, o7, o8, o9, o10, p1, p2, p3, p4, p5, p6, p7, p8⟩ := G.o
    refine x_il3 dX10_measure_95 ?_
    refine x_icmp_ne (tgt := 106) dX10_measure_96 rfl (fun q96 => ?_) (fun q96 => ?_)
    · skip
      first | (simp only [cmp_lt, cmp_gt, cmp_eq, zN_cge, zN_cle, Decidable.not_not] at q96) | (simp (disch := omega) only [zN_le, zN_lt, zN_0, zN_1, nI_toInt, zN_eq, zN_eq0, b2_z, b2_nz, Decidable.not_not, Int.not_lt, Int.not_le, zK0, zK1, zK2, zK3, zK5, zK7, zK8, zK9, zK10, zK19, zK20, zK40, zK99, zK100, zK199] at q96) | skip
      first | refine x_ii4 rfl (nI_1 _) dX10_measure_106 ?_ | refine x_ii4 rfl rfl dX10_measure_106 ?_
      refine x_goto (tgt := 65) dX10_measure_109 rfl ?_
      have sf : soB dk cl aim i = false := decide_eq_false q96
      refine ih (i + 1, qf, c) _ (by simp only; omega) ⟨il, _, _, G, by rw [fi_no sf]; exact b, fun t ht => ?_, hQ⟩
      simp only at ht ⊢
      rw [fi_no sf]
      by_cases z : t = i
      · rw [z, fi_i]; exact if_pos rfl
      · rw [← hS t (by omega)]; exact if_neg z
    · skip
      first | (simp only [cmp_lt, cmp_gt, cmp_eq, zN_cge, zN_cle, Decidable.not_not] at q96) | (simp (disch := omega) only [zN_le, zN_lt, zN_0, zN_1, nI_toInt, zN_eq, zN_eq0, b2_z, b2_nz, Decidable.not_not, Int.not_lt, Int.not_le, zK0, zK1, zK2, zK3, zK5, zK7, zK8, zK9, zK10, zK19, zK20, zK40, zK99, zK100, zK199] at q96) | skip
      have sf : soB dk cl aim i = true := decide_eq_true q96
      have cl2 : c < fct dk.1 := by rw [b.cnt]; exact cf_lt il fi_i
      refine x_al0 rfl dX10_measure_99 ?_
      refine x_il4 dX10_measure_100 ?_
      refine x_iconst (v := nI 0) dX10_measure_102 rfl ?_
      refine x_cv2Vp mX10_reach_ok lkX10_48 rfl (Nat.le_of_ble_eq_true rfl) (Nat.le_of_ble_eq_true rfl) dX10_measure_103 o1  (g_reach (m := 0) G (by omega) (by omega)) (fun h hq => ?_)
      have G := hq
      first | refine x_ii4 rfl (nI_1 _) dX10_measure_106 ?_ | refine x_ii4 rfl rfl dX10_measure_106 ?_
      refine x_goto (tgt := 65) dX10_measure_109 rfl ?_
      refine ih (i + 1, qU qf c i, c + 1) _ (by simp only; omega) ⟨il, _, _, G, by rw [fi_yes sf]; exact b.reach il fi_i (Nat.zero_le _) (fun j hj m' e => Nat.le_of_eq (fi_0 e).1) sf, fun t ht => ?_, fun j hj => ?_⟩
      · simp only at ht ⊢
        rw [fi_yes sf]
        by_cases z : t = i
        · rw [z, show upO (fi (soB dk cl aim) i) i 0 i = some 0 from if_pos rfl]; exact if_pos rfl
        · rw [show upO (fi (soB dk cl aim) i) i 0 t = fi (soB dk cl aim) i t from if_neg z, ← hS t (by omega)]; exact (if_neg z).trans (if_neg z)
      · simp only at hj ⊢
        by_cases z : j = c
        · rw [z, show qU qf c i c = i from if_pos rfl]; exact if_pos rfl
        · rw [show qU qf c i j = qf j from if_neg z, ← hQ j (by omega)]; exact if_neg z
def pW (n : Nat) (ln : zLn) : zLn := (ln.1, ln.2.1, ln.2.2.1, ln.2.2.2.1, ln.2.2.2.2.1, max ln.2.2.2.2.2.1 (fct n), ln.2.2.2.2.2.2)
def sW (n : Nat) (ln : zLn) : Nat := 2 * grw ln.2.2.2.2.2.1 (fct n)
theorem k_measure {aim cl : Nat} (I : CI h0 h dk st un tp tr pi fl ln sb sj dr) (ha : aim < 2) (hc : cl < 10) : Zm g (d + 6) 3 (sS dk.1 ln + sW dk.1 ln) mX10_measure [.ref 26, .int (nI aim), .int (nI cl)] h (rVp (fun h' => ∃ f, MsP h0 h' dk st un tp tr pi fl (pW dk.1 (pS dk.1 ln)) sb sj dr (soB dk cl aim) f)) := by
  obtain ⟨rt, rn, rs, sw, rmv, rmk, moc, len, fre, fc, fr, vn, vs, qd, wst, wqu, wwe, wla, hx, hn, hd, hR, hv, hw, hs⟩ := I.o
  obtain ⟨d1, d2, d3, d4, d5, d6, d7, d8⟩ := I.dkB
  have fl6 := fct_le d2
  show Zw g (d + 6) 3 (sS dk.1 ln + sW dk.1 ln) mX10_measure 0 [some (.ref 26), some (.int (nI aim)), some (.int (nI cl)), none, none] [] h _
  refine x_al0 rfl dX10_measure_0 ?_
  refine x_get fdX10_22 hw rfl dX10_measure_1 ?_
  refine x_cv0Vr (κ1 := 1) (κ2 := 2) (σ2 := sW dk.1 ln) mX5_prepareSwaps_ok lkX10_30 rfl (Nat.le_of_ble_eq_true rfl) (Nat.le_of_ble_eq_true rfl) dX10_measure_4 hR (Nat.le_refl _) (Nat.le_refl _) (k_prepareSwaps I) (fun h I => ?_)
  have hS : (pS dk.1 ln).2.2.1 = true := rfl
  rw [show sW dk.1 ln = sW dk.1 (pS dk.1 ln) from rfl]
  generalize pS dk.1 ln = ln at I hS ⊢
  clear hx hn hd hR hv hw hs
  obtain ⟨wst, wqu, wwe, wla, qd, fs, fq, fw, fa, G⟩ := I.ge
  obtain ⟨rn, rs, sw, rt, rmv, rmk, moc, len, fre, hR, hv⟩ := G.r
  obtain ⟨o1, o2, o3, o4, o5, o6, o7, o8, o9, o10, p1, p2, p3, p4, p5, p6, p7, p8⟩ := G.o
  refine x_al0 rfl dX10_measure_7 ?_
  refine x_get fdX10_9 o1 rfl dX10_measure_8 ?_
  refine x_alen rfl o3 rfl dX10_measure_11 ?_
  refine x_al0 rfl dX10_measure_12 ?_
  refine x_get fdX10_22 o1 rfl dX10_measure_13 ?_
  refine x_get fdX10_35 hR rfl dX10_measure_16 ?_
  rw [show Int32.ofNat ln.2.2.2.2.2.1 = nI ln.2.2.2.2.2.1 from rfl]
  refine x_icmp_ge (tgt := 48) dX10_measure_19 rfl (fun q19 => ?_) (fun q19 => ?_)
  · skip
    first | (simp only [cmp_lt, cmp_gt, cmp_eq, zN_cge, zN_cle, Decidable.not_not] at q19) | (simp (disch := omega) only [zN_le, zN_lt, zN_0, zN_1, nI_toInt, zN_eq, zN_eq0, b2_z, b2_nz, Decidable.not_not, Int.not_lt, Int.not_le, zK0, zK1, zK2, zK3, zK5, zK7, zK8, zK9, zK10, zK19, zK20, zK40, zK99, zK100, zK199] at q19) | skip
    have pe : pW dk.1 ln = ln := by unfold pW; rw [show max ln.2.2.2.2.2.1 (fct dk.1) = ln.2.2.2.2.2.1 by omega]
    rw [pe]
    exact (g_measure2 G hS (by omega) ha hc).room (Nat.zero_le _) (Nat.zero_le _)
  · skip
    first | (simp only [cmp_lt, cmp_gt, cmp_eq, zN_cge, zN_cle, Decidable.not_not] at q19) | (simp (disch := omega) only [zN_le, zN_lt, zN_0, zN_1, nI_toInt, zN_eq, zN_eq0, b2_z, b2_nz, Decidable.not_not, Int.not_lt, Int.not_le, zK0, zK1, zK2, zK3, zK5, zK7, zK8, zK9, zK10, zK19, zK20, zK40, zK99, zK100, zK199] at q19) | skip
    have q19 : ln.2.2.2.2.2.1 < fct dk.1 := by omega
    rw [show sW dk.1 ln = 0 + fct dk.1 + fct dk.1 from by unfold sW grw; rw [if_pos q19]; omega]
    refine x_al0 rfl dX10_measure_22 ?_
    refine x_al0 rfl dX10_measure_23 ?_
    refine x_get fdX10_22 o1 rfl dX10_measure_24 ?_
    refine x_get fdX10_35 hR rfl dX10_measure_27 ?_
    refine x_newa_int ka_int (nI_pos (by omega)) (nI_clamp (by omega)) (by omega) dX10_measure_30 ?_
    refine x_put fdX10_9 (hp_old o1) (by first | exact zf_a | exact zf_an) (by simp) dX10_measure_32 ?_
    rw [show ([Value.ref 15, .ref 20, .ref wst, .ref wqu, .int qd] : List Value).set 2 (.ref h.length) = [.ref 15, .ref 20, .ref h.length, .ref wqu, .int qd] from rfl]
    have n26 := hp_ne o1
    have a26 : ((h ++ [newI (fct dk.1)]).set 26 (waysE h.length wqu qd))[26]? = some (waysE h.length wqu qd) := hs_eq (hp_old o1)
    have aF : Fr [26] h ((h ++ [newI (fct dk.1)]).set 26 (waysE h.length wqu qd)) := Fr.push.tr (Fr.set (by simp))
    have aN : ((h ++ [newI (fct dk.1)]).set 26 (waysE h.length wqu qd))[h.length]? = some (newI (fct dk.1)) := by rw [hs_ne (Ne.symm n26)]; exact hp_new
    have aL : ((h ++ [newI (fct dk.1)]).set 26 (waysE h.length wqu qd)).length = h.length + 1 := by simp
    have aR := aF.get hR (by simp)
    generalize (h ++ [newI (fct dk.1)]).set 26 (waysE h.length wqu qd) = h1 at a26 aF aN aL aR ⊢
    refine x_al0 rfl dX10_measure_35 ?_
    refine x_al0 rfl dX10_measure_36 ?_
    refine x_get fdX10_22 a26 rfl dX10_measure_37 ?_
    refine x_get fdX10_35 aR rfl dX10_measure_40 ?_
    refine x_newa_int ka_int (nI_pos (by omega)) (nI_clamp (by omega)) (by omega) dX10_measure_43 ?_
    refine x_put fdX10_15 (hp_old a26) (by first | exact zf_a | exact zf_an) (by simp) dX10_measure_45 ?_
    rw [show ([Value.ref 15, .ref 20, .ref h.length, .ref wqu, .int qd] : List Value).set 3 (.ref h1.length) = [.ref 15, .ref 20, .ref h.length, .ref h1.length, .int qd] from rfl]
    have b26 : ((h1 ++ [newI (fct dk.1)]).set 26 (waysE h.length h1.length qd))[26]? = some (waysE h.length h1.length qd) := hs_eq (hp_old a26)
    have bF : Fr [26] h1 ((h1 ++ [newI (fct dk.1)]).set 26 (waysE h.length h1.length qd)) := Fr.push.tr (Fr.set (by simp))
    have bN : ((h1 ++ [newI (fct dk.1)]).set 26 (waysE h.length h1.length qd))[h1.length]? = some (newI (fct dk.1)) := by rw [hs_ne (by have := hp_lt o1; omega)]; exact hp_new
    generalize (h1 ++ [newI (fct dk.1)]).set 26 (waysE h.length h1.length qd) = h2 at b26 bF bN ⊢
    have F := aF.tr bF
    have pe : pW dk.1 ln = (ln.1, ln.2.1, ln.2.2.1, ln.2.2.2.1, ln.2.2.2.2.1, fct dk.1, ln.2.2.2.2.2.2) := by unfold pW; rw [show max ln.2.2.2.2.2.1 (fct dk.1) = fct dk.1 by omega]
    rw [pe]
    have p31 : (2 : Nat) ^ 31 = 2147483648 := rfl
    exact (g_measure2 (G.up (F.mono (by simp)) b26 (bF.get aN (by simp only [List.mem_cons, List.mem_nil_iff, or_false]; omega)) bN (F.get o2 (by simp)) (F.get o5 (by simpa using p5)) (F.get o6 (by simpa using p7)) (Or.inr (Nat.le_refl _)) (Or.inr (by omega)) (by omega) (Or.inl rfl) (Or.inl rfl) o10 (by omega) o8) hS (Nat.le_refl _) ha hc).room (Nat.zero_le _) (Nat.zero_le _)
theorem g_pairFrom {q M : Nat} (G : GE h0 h dk st un tp tr pi fl ln sb sj dr wst wqu wwe wla qd fs fq fw fa) (hs : ln.2.2.1 = true) (hl : fct dk.1 ≤ ln.2.2.2.2.2.1) (hS : ∀ t, t < fct dk.1 → fs t = stp (f t)) (hD : ∀ t, t < fct dk.1 → (∀ m, f t = some m → isD dk.1 B t m) ∧ (f t = none → noD dk.1 B t)) (hb : ∀ t, t < fct dk.1 → ∀ m, f t = some m → m < 720) (hq : q < fct dk.1) (hM : f q = some (M + 1)) : Zm g (d + 1) 0 0 mX10_pairFrom [.ref 26, .int (nI q)] h (rIp (fun r h' => h' = h ∧ ∃ k, k < np dk.1 ∧ r = nI k ∧ fstK dk.1 B q k ∧ f (swp dk.1 q k) = some M)) := by
  obtain ⟨d1, d2, d3, d4, d5, d6, d7, d8⟩ := G.ci.dkB
  have npl := np_le d2
  have fl6 := fct_le d2
  have m720 := hb q hq _ hM
  have dM := (hD q hq).1 _ hM
  obtain ⟨k1, hk1, dk1⟩ := isD_step d1 d2 hq dM
  obtain ⟨rn, rs, sw, rt, rmv, rmk, moc, len, fre, hR, hv⟩ := G.r
  obtain ⟨o1, o2, o3, o4, o5, o6, o7, o8, o9, o10, p1, p2, p3, p4, p5, p6, p7, p8⟩ := G.o
  show Zw g (d + 1) 0 0 mX10_pairFrom 0 [some (.ref 26), some (.int (nI q)), none] [] h _
  refine x_iconst (v := nI 0) dX10_pairFrom_0 rfl ?_
  refine x_is2 rfl dX10_pairFrom_1 ?_
  refine x_wh (fun (j : Nat) => [some (.ref 26), some (.int (nI q)), some (.int (nI j))]) (fun j h'' => h'' = h ∧ j ≤ k1 ∧ ∀ j', j' < j → ¬ isD dk.1 B (swp dk.1 q j') M) (fun j => np dk.1 - j) 0 ⟨rfl, Nat.zero_le _, fun j' hj' => absurd hj' (Nat.not_lt_zero _)⟩ (fun j h'' hI ih => ?_)
  obtain ⟨rfl, hj, hno⟩ := hI
  have jl : j < np dk.1 := by omega
  have sl := swp_lt d1 d2 hq jl
  have sd := hD _ sl
  refine x_il2 dX10_pairFrom_2 ?_
  refine x_al0 rfl dX10_pairFrom_3 ?_
  refine x_get fdX10_22 o1 rfl dX10_pairFrom_4 ?_
  refine x_get fdX10_59 hR rfl dX10_pairFrom_7 ?_
  rw [show dk.1 * (dk.1 - 1) / 2 = np dk.1 from rfl]
  refine x_icmp_ge (tgt := 44) dX10_pairFrom_10 rfl (fun q10 => ?_) (fun q10 => ?_)
  · skip
    first | (simp only [cmp_lt, cmp_gt, cmp_eq, zN_cge, zN_cle, Decidable.not_not] at q10) | (simp (disch := omega) only [zN_le, zN_lt, zN_0, zN_1, nI_toInt, zN_eq, zN_eq0, b2_z, b2_nz, Decidable.not_not, Int.not_lt, Int.not_le, zK0, zK1, zK2, zK3, zK5, zK7, zK8, zK9, zK10, zK19, zK20, zK40, zK99, zK100, zK199] at q10) | skip
    omega
  · skip
    first | (simp only [cmp_lt, cmp_gt, cmp_eq, zN_cge, zN_cle, Decidable.not_not] at q10) | (simp (disch := omega) only [zN_le, zN_lt, zN_0, zN_1, nI_toInt, zN_eq, zN_eq0, b2_z, b2_nz, Decidable.not_not, Int.not_lt, Int.not_le, zK0, zK1, zK2, zK3, zK5, zK7, zK8, zK9, zK10, zK19, zK20, zK40, zK99, zK100, zK199] at q10) | skip
    refine x_al0 rfl dX10_pairFrom_13 ?_
    refine x_al0 rfl dX10_pairFrom_14 ?_
    refine x_get fdX10_22 o1 rfl dX10_pairFrom_15 ?_
    refine x_il1 dX10_pairFrom_18 ?_
    refine x_il2 dX10_pairFrom_19 ?_
    refine x_cv2I mX5_bySwap_ok lkX10_62 rfl (Nat.le_of_ble_eq_true rfl) (Nat.le_of_ble_eq_true rfl) dX10_pairFrom_20 hR  (k_bySwap G.ci hs hq jl) ?_
    refine x_cv1I mX10_stepsFrom_ok lkX10_56 rfl (Nat.le_of_ble_eq_true rfl) (Nat.le_of_ble_eq_true rfl) dX10_pairFrom_23 o1  (g_stepsFrom G (by omega)) ?_
    refine x_al0 rfl dX10_pairFrom_26 ?_
    refine x_il1 dX10_pairFrom_27 ?_
    refine x_cv1I mX10_stepsFrom_ok lkX10_56 rfl (Nat.le_of_ble_eq_true rfl) (Nat.le_of_ble_eq_true rfl) dX10_pairFrom_28 o1  (g_stepsFrom G (by omega)) ?_
    rw [hS _ sl, hS q hq, hM, show stp (some (M + 1)) = nI (M + 1) from rfl]
    refine x_iconst (v := nI 1) dX10_pairFrom_31 rfl ?_
    refine x_isub (pk_sub (by omega)) dX10_pairFrom_32 ?_
    rw [show M + 1 - 1 = M by omega]
    refine x_icmp_ne (tgt := 38) dX10_pairFrom_33 rfl (fun q33 => ?_) (fun q33 => ?_)
    · skip
      first | refine x_ii2 rfl (nI_1 _) dX10_pairFrom_38 ?_ | refine x_ii2 rfl rfl dX10_pairFrom_38 ?_
      refine x_goto (tgt := 2) dX10_pairFrom_41 rfl ?_
      have nj : ¬ isD dk.1 B (swp dk.1 q j) M := fun z => by
        cases e : f (swp dk.1 q j) with
        | none => exact isD_no z (sd.2 e)
        | some m => have := isD_u (sd.1 m e) z; rw [e, this] at q33; exact q33 rfl
      refine ih (j + 1) _ (by omega) ⟨rfl, ?_, fun j' hj' => ?_⟩
      · rcases Nat.lt_or_ge j k1 with y | y
        · omega
        · exact absurd dk1 (by rw [show k1 = j by omega]; exact nj)
      · by_cases e : j' = j
        · rw [e]; exact nj
        · exact hno j' (by omega)
    · skip
      have ej : f (swp dk.1 q j) = some M := by
        cases e : f (swp dk.1 q j) with
        | none => rw [e] at q33; exact absurd q33.symm (nI_nm (by omega))
        | some m =>
          rw [e, show stp (some m) = nI m from rfl, nI_eq (by have := hb _ sl m e; omega) (by omega)] at q33
          rw [q33]
      refine x_il2 dX10_pairFrom_36 ?_
      exact x_iret rfl rfl dX10_pairFrom_37 ⟨_, rfl, rfl, j, jl, rfl, ⟨M, dM, jl, sd.1 M ej, hno⟩, ej⟩
end ZMe

