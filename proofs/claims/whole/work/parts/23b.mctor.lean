/-! the model's constructor -/
def mFs : List Value := [.int 0, .null, .null, .null, .null, .int 0, .int 0, .int 0, .int 0, .int 0, .int 0, .int 0, .int 0, .int 0, .int 0, .null, .null, .int 0, .null, .null, .null, .int 0, .int 0, .null, .int 0, .int 0, .null, .null, .null, .null, .null, .null, .int 0, .null, .null, .null, .int 0, .null, .null, .null, .null]
def mS0 (k : Nat) : Value := mFs.getD k .null
theorem mFs_e : mFs = mF mS0 := rfl
section ZMc
variable {g : zG} {d κ σ : Nat} {m : zMe} {pc : Nat} {ls : zL} {st : List Value} {H l : zH} {Q : Option Value → zH → Prop} {s : Nat → Value}
theorem mc_len {a : va_E} (hH : H.length = 59) : (H ++ (a :: l)).length = 60 + l.length := by rw [List.length_append, List.length_cons, hH]; omega
theorem mc_get {a b : va_E} (hH : H.length = 59) : ((H ++ (a :: l)) ++ [b] : zH)[59]? = some a := by rw [← hH, List.append_assoc]; exact hm_get
theorem mc_set {a b c : va_E} (hH : H.length = 59) : ((H ++ (a :: l)) ++ [b] : zH).set 59 c = H ++ (c :: (l ++ [b])) := by rw [← hH, List.append_assoc, List.cons_append]; exact hm_set
theorem mc_last {a b : va_E} (hH : H.length = 59) : ((H ++ (a :: l)) ++ [b] : zH)[60 + l.length]? = some b := by rw [← mc_len (a := a) hH]; exact hm_get
theorem mc_lset {a b c : va_E} (hH : H.length = 59) : ((H ++ (a :: l)) ++ [b] : zH).set (60 + l.length) c = (H ++ (a :: l)) ++ [c] := by rw [← mc_len (a := a) hH]; exact hm_set
theorem x_mk_int {N k n : Nat} (hf : zFp m.1.cls n 12 k (.array .int)) (hH : H.length = 59) (hini : m.1.name = "<init>") (hk : k < 41) (hN : N ≤ 60000) (hd1 : decode m.2.1 pc = .ok (.newarray .int, 2)) (hd2 : decode m.2.1 (pc + 2) = .ok (.putfield n, 3)) (kk : Zw g d κ σ m (pc + 2 + 3) ls st (H ++ (.inr (12, mF (va_up s k (.ref (60 + l.length)))) :: (l ++ [.inl (0, N, .inl (fun _ => (0 : Int32)))]))) Q) : Zw g d (κ + 1) (σ + N) m pc ls (.int (nI N) :: .ref 59 :: st) (H ++ (.inr (12, mF s) :: l)) Q := by
  refine x_newa_int ka_int (by rw [Int32.lt_iff_toInt_lt, nI_toInt (by omega)]; exact Int.not_lt.mpr (Int.natCast_nonneg N)) (nI_clamp (by omega)) (by omega) hd1 ?_
  rw [mc_len hH]
  refine x_putF hf hini (mc_get hH) zf_a (by simp [mF]; omega) hd2 ?_
  rw [mc_set hH, mf_set hk]
  exact kk
theorem x_mk_boolean {N k n : Nat} (hf : zFp m.1.cls n 12 k (.array .boolean)) (hH : H.length = 59) (hini : m.1.name = "<init>") (hk : k < 41) (hN : N ≤ 60000) (hd1 : decode m.2.1 pc = .ok (.newarray .boolean, 2)) (hd2 : decode m.2.1 (pc + 2) = .ok (.putfield n, 3)) (kk : Zw g d κ σ m (pc + 2 + 3) ls st (H ++ (.inr (12, mF (va_up s k (.ref (60 + l.length)))) :: (l ++ [.inl (3, N, .inl (fun _ => (0 : Int32)))]))) Q) : Zw g d (κ + 1) (σ + N) m pc ls (.int (nI N) :: .ref 59 :: st) (H ++ (.inr (12, mF s) :: l)) Q := by
  refine x_newa_boolean ka_boolean (by rw [Int32.lt_iff_toInt_lt, nI_toInt (by omega)]; exact Int.not_lt.mpr (Int.natCast_nonneg N)) (nI_clamp (by omega)) (by omega) hd1 ?_
  rw [mc_len hH]
  refine x_putF hf hini (mc_get hH) zf_a (by simp [mF]; omega) hd2 ?_
  rw [mc_set hH, mf_set hk]
  exact kk
theorem x_mk_long {N k n : Nat} (hf : zFp m.1.cls n 12 k (.array .long)) (hH : H.length = 59) (hini : m.1.name = "<init>") (hk : k < 41) (hN : N ≤ 60000) (hd1 : decode m.2.1 pc = .ok (.newarray .long, 2)) (hd2 : decode m.2.1 (pc + 2) = .ok (.putfield n, 3)) (kk : Zw g d κ σ m (pc + 2 + 3) ls st (H ++ (.inr (12, mF (va_up s k (.ref (60 + l.length)))) :: (l ++ [.inl (2, N, .inr (.inl (fun _ => (0 : Int64))))]))) Q) : Zw g d (κ + 1) (σ + N) m pc ls (.int (nI N) :: .ref 59 :: st) (H ++ (.inr (12, mF s) :: l)) Q := by
  refine x_newa_long ka_long (by rw [Int32.lt_iff_toInt_lt, nI_toInt (by omega)]; exact Int.not_lt.mpr (Int.natCast_nonneg N)) (nI_clamp (by omega)) (by omega) hd1 ?_
  rw [mc_len hH]
  refine x_putF hf hini (mc_get hH) zf_a (by simp [mF]; omega) hd2 ?_
  rw [mc_set hH, mf_set hk]
  exact kk
def mSF : Nat → Value := va_up (va_up (va_up (va_up (va_up (va_up (va_up (va_up (va_up (va_up (va_up (va_up (va_up (va_up (va_up (va_up (va_up (va_up (va_up (va_up (va_up (va_up (va_up (va_up (mS0) 1 (.ref 60)) 2 (.ref 61)) 3 (.ref 62)) 4 (.ref 63)) 14 (.int (-1))) 15 (.ref 64)) 16 (.ref 65)) 18 (.ref 66)) 19 (.ref 67)) 20 (.ref 68)) 23 (.ref 69)) 26 (.ref 70)) 27 (.ref 71)) 28 (.ref 72)) 29 (.ref 73)) 30 (.ref 74)) 31 (.ref 75)) 33 (.ref 76)) 34 (.ref 77)) 35 (.ref 78)) 37 (.ref 79)) 38 (.ref 80)) 39 (.ref 81)) 40 (.ref 82)
def f80 : Nat → Int32 := upd (upd (upd (upd (fun _ => 0) 0 (-1)) 1 (-1)) 2 (-1)) 3 (-1)
def mLF : zH := [.inl (0, 2868, .inl (fun _ => (0 : Int32))), .inl (3, 2, .inl (fun _ => (0 : Int32))), .inl (0, 900, .inl (fun _ => (0 : Int32))), .inl (0, 956, .inl (fun _ => (0 : Int32))), .inl (0, 4320, .inl (fun _ => (0 : Int32))), .inl (0, 6, .inl (fun _ => (0 : Int32))), .inl (0, 900, .inl (fun _ => (0 : Int32))), .inl (0, 5, .inl (fun _ => (0 : Int32))), .inl (0, 9, .inl (fun _ => (0 : Int32))), .inl (0, 3, .inl (fun _ => (0 : Int32))), .inl (2, 21, .inr (.inl (fun _ => (0 : Int64)))), .inl (0, 15, .inl (fun _ => (0 : Int32))), .inl (0, 720, .inl (fun _ => (0 : Int32))), .inl (0, 10800, .inl (fun _ => (0 : Int32))), .inl (0, 720, .inl (fun _ => (0 : Int32))), .inl (0, 720, .inl (fun _ => (0 : Int32))), .inl (2, 720, .inr (.inl (fun _ => (0 : Int64)))), .inl (2, 720, .inr (.inl (fun _ => (0 : Int64)))), .inl (0, 60, .inl (fun _ => (0 : Int32))), .inl (0, 36, .inl (fun _ => (0 : Int32))), .inl (0, 4, .inl f80), .inl (0, 4, .inl (fun _ => (0 : Int32))), .inl (2, 160, .inr (.inl (fun _ => (0 : Int64))))]
def mMF : Nat → Nat → Int32 := upM (fun _ _ => 0) 80 f80
theorem mMW (hH : H.length = 59) : MW (H ++ (.inr (12, mF mSF) :: mLF)) (H ++ (.inr (12, mF mSF) :: mLF)) mSF mMF (fun _ _ => 0) := by
  have gt : ∀ i, 59 ≤ i → (H ++ (.inr (12, mF mSF) :: mLF) : zH)[i]? = (.inr (12, mF mSF) :: mLF : zH)[i - 59]? := fun i hi => by rw [List.getElem?_append_right (by omega), hH]
  refine ⟨by rw [gt 59 (by decide)]; rfl, ⟨rfl, rfl, rfl, rfl, rfl, rfl, rfl, rfl, rfl, rfl, rfl, rfl, rfl, rfl, rfl, rfl, rfl, rfl, rfl, rfl, rfl, rfl, rfl⟩, fun i hi => ?_, fun i hi => ?_, by rw [gt 61 (by decide)]; rfl, Mo.rf⟩
  · have r := mIs_r hi
    rw [gt i (by omega)]
    simp only [mIs, List.contains_eq_mem, List.mem_cons, List.not_mem_nil, or_false, decide_eq_true_eq] at hi
    rcases hi with rfl | rfl | rfl | rfl | rfl | rfl | rfl | rfl | rfl | rfl | rfl | rfl | rfl | rfl | rfl | rfl | rfl | rfl <;> rfl
  · have r := mIl_r hi
    rw [gt i (by omega)]
    simp only [mIl, List.contains_eq_mem, List.mem_cons, List.not_mem_nil, or_false, decide_eq_true_eq] at hi
    rcases hi with rfl | rfl | rfl | rfl <;> rfl
theorem w_init (hH : H.length = 59) : Zm g (d + 8) 23 24669 mX12_init [.ref 59] (H ++ [.inr (12, mFs)]) (rVp (fun h' => ∃ h1, (∀ i, i < 59 → h'[i]? = H[i]?) ∧ 83 ≤ h'.length ∧ MI h1 h' (1, 1, 0, 0, none, none) (0, 0, 0) [] [] (fun _ => none) (fun _ => none) (0, 0))) := by
  show Zw g (d + 8) 23 24669 mX12_init 0 [some (.ref 59)] [] (H ++ [.inr (12, mFs)]) _
  refine Zw.room (κ' := (((((((((((((((((((((((0 + 1) + 1) + 1) + 1) + 1) + 1) + 1) + 1) + 1) + 1) + 1) + 1) + 1) + 1) + 1) + 1) + 1) + 1) + 1) + 1) + 1) + 1) + 1)) (σ' := (((((((((((((((((((((((0 + 160) + 4) + 4) + 36) + 60) + 720) + 720) + 720) + 720) + 10800) + 720) + 15) + 21) + 3) + 9) + 5) + 900) + 6) + 4320) + 956) + 900) + 2) + 2868)) ?_ (by decide) (by decide)
  rw [mFs_e]
  refine x_al0 rfl dX12_init_0 ?_
  refine x_obj koX12_7 (Nat.le_of_ble_eq_true rfl) dX12_init_1 ?_
  refine x_al0 rfl dX12_init_4 ?_
  refine x_sipush (v := nI 2868) dX12_init_5 (by decide) ?_
  refine x_mk_int (N := 2868) fpX12_13 hH rfl (by decide) (by decide) dX12_init_8 dX12_init_10 ?_
  refine x_al0 rfl dX12_init_13 ?_
  refine x_iconst (v := nI 2) dX12_init_14 rfl ?_
  refine x_mk_boolean (N := 2) fpX12_17 hH rfl (by decide) (by decide) dX12_init_15 dX12_init_17 ?_
  refine x_al0 rfl dX12_init_20 ?_
  refine x_sipush (v := nI 900) dX12_init_21 (by decide) ?_
  refine x_mk_int (N := 900) fpX12_21 hH rfl (by decide) (by decide) dX12_init_24 dX12_init_26 ?_
  refine x_al0 rfl dX12_init_29 ?_
  refine x_sipush (v := nI 956) dX12_init_30 (by decide) ?_
  refine x_mk_int (N := 956) fpX12_24 hH rfl (by decide) (by decide) dX12_init_33 dX12_init_35 ?_
  refine x_al0 rfl dX12_init_38 ?_
  refine x_iconst (v := (-1)) dX12_init_39 rfl ?_
  refine x_put fdX12_27 (by rw [← hH]; exact hm_get) zf_i (by simp [mF]) dX12_init_40 ?_
  rw [show ∀ (a b : va_E) (l : zH), (H ++ (a :: l)).set 59 b = H ++ (b :: l) from fun a b l => by rw [← hH]; exact hm_set, mf_set (by decide)]
  refine x_al0 rfl dX12_init_43 ?_
  refine x_sipush (v := nI 4320) dX12_init_44 (by decide) ?_
  refine x_mk_int (N := 4320) fpX12_30 hH rfl (by decide) (by decide) dX12_init_47 dX12_init_49 ?_
  refine x_al0 rfl dX12_init_52 ?_
  refine x_bipush (v := nI 6) dX12_init_53 rfl ?_
  refine x_mk_int (N := 6) fpX12_33 hH rfl (by decide) (by decide) dX12_init_55 dX12_init_57 ?_
  refine x_al0 rfl dX12_init_60 ?_
  refine x_sipush (v := nI 900) dX12_init_61 (by decide) ?_
  refine x_mk_int (N := 900) fpX12_36 hH rfl (by decide) (by decide) dX12_init_64 dX12_init_66 ?_
  refine x_al0 rfl dX12_init_69 ?_
  refine x_iconst (v := nI 5) dX12_init_70 rfl ?_
  refine x_mk_int (N := 5) fpX12_39 hH rfl (by decide) (by decide) dX12_init_71 dX12_init_73 ?_
  refine x_al0 rfl dX12_init_76 ?_
  refine x_bipush (v := nI 9) dX12_init_77 rfl ?_
  refine x_mk_int (N := 9) fpX12_42 hH rfl (by decide) (by decide) dX12_init_79 dX12_init_81 ?_
  refine x_al0 rfl dX12_init_84 ?_
  refine x_iconst (v := nI 3) dX12_init_85 rfl ?_
  refine x_mk_int (N := 3) fpX12_45 hH rfl (by decide) (by decide) dX12_init_86 dX12_init_88 ?_
  refine x_al0 rfl dX12_init_91 ?_
  refine x_bipush (v := nI 21) dX12_init_92 rfl ?_
  refine x_mk_long (N := 21) fpX12_48 hH rfl (by decide) (by decide) dX12_init_94 dX12_init_96 ?_
  refine x_al0 rfl dX12_init_99 ?_
  refine x_bipush (v := nI 15) dX12_init_100 rfl ?_
  refine x_mk_int (N := 15) fpX12_52 hH rfl (by decide) (by decide) dX12_init_102 dX12_init_104 ?_
  refine x_al0 rfl dX12_init_107 ?_
  refine x_sipush (v := nI 720) dX12_init_108 (by decide) ?_
  refine x_mk_int (N := 720) fpX12_55 hH rfl (by decide) (by decide) dX12_init_111 dX12_init_113 ?_
  refine x_al0 rfl dX12_init_116 ?_
  refine x_sipush (v := nI 10800) dX12_init_117 (by decide) ?_
  refine x_mk_int (N := 10800) fpX12_58 hH rfl (by decide) (by decide) dX12_init_120 dX12_init_122 ?_
  refine x_al0 rfl dX12_init_125 ?_
  refine x_sipush (v := nI 720) dX12_init_126 (by decide) ?_
  refine x_mk_int (N := 720) fpX12_61 hH rfl (by decide) (by decide) dX12_init_129 dX12_init_131 ?_
  refine x_al0 rfl dX12_init_134 ?_
  refine x_sipush (v := nI 720) dX12_init_135 (by decide) ?_
  refine x_mk_int (N := 720) fpX12_64 hH rfl (by decide) (by decide) dX12_init_138 dX12_init_140 ?_
  refine x_al0 rfl dX12_init_143 ?_
  refine x_sipush (v := nI 720) dX12_init_144 (by decide) ?_
  refine x_mk_long (N := 720) fpX12_67 hH rfl (by decide) (by decide) dX12_init_147 dX12_init_149 ?_
  refine x_al0 rfl dX12_init_152 ?_
  refine x_sipush (v := nI 720) dX12_init_153 (by decide) ?_
  refine x_mk_long (N := 720) fpX12_70 hH rfl (by decide) (by decide) dX12_init_156 dX12_init_158 ?_
  refine x_al0 rfl dX12_init_161 ?_
  refine x_bipush (v := nI 60) dX12_init_162 rfl ?_
  refine x_mk_int (N := 60) fpX12_73 hH rfl (by decide) (by decide) dX12_init_164 dX12_init_166 ?_
  refine x_al0 rfl dX12_init_169 ?_
  refine x_bipush (v := nI 36) dX12_init_170 rfl ?_
  refine x_mk_int (N := 36) fpX12_76 hH rfl (by decide) (by decide) dX12_init_172 dX12_init_174 ?_
  refine x_al0 rfl dX12_init_177 ?_
  refine x_iconst (v := nI 4) dX12_init_178 rfl ?_
  refine x_newa_int (N := 4) ka_int (by decide) (show (nI 4).toNatClampNeg = 4 from rfl) (by decide) dX12_init_179 ?_
  rw [mc_len hH]
  refine x_dup rfl dX12_init_181 ?_
  refine x_iconst (v := nI 0) dX12_init_182 rfl ?_
  refine x_iconst (v := (-1)) dX12_init_183 rfl ?_
  refine x_iast (mc_last hH) (vp_in_nI (show 0 < 4 by decide) (by decide)) dX12_init_184 ?_
  rw [nI_clamp (show 0 < 2 ^ 31 by decide), mc_lset hH]
  refine x_dup rfl dX12_init_185 ?_
  refine x_iconst (v := nI 1) dX12_init_186 rfl ?_
  refine x_iconst (v := (-1)) dX12_init_187 rfl ?_
  refine x_iast (mc_last hH) (vp_in_nI (show 1 < 4 by decide) (by decide)) dX12_init_188 ?_
  rw [nI_clamp (show 1 < 2 ^ 31 by decide), mc_lset hH]
  refine x_dup rfl dX12_init_189 ?_
  refine x_iconst (v := nI 2) dX12_init_190 rfl ?_
  refine x_iconst (v := (-1)) dX12_init_191 rfl ?_
  refine x_iast (mc_last hH) (vp_in_nI (show 2 < 4 by decide) (by decide)) dX12_init_192 ?_
  rw [nI_clamp (show 2 < 2 ^ 31 by decide), mc_lset hH]
  refine x_dup rfl dX12_init_193 ?_
  refine x_iconst (v := nI 3) dX12_init_194 rfl ?_
  refine x_iconst (v := (-1)) dX12_init_195 rfl ?_
  refine x_iast (mc_last hH) (vp_in_nI (show 3 < 4 by decide) (by decide)) dX12_init_196 ?_
  rw [nI_clamp (show 3 < 2 ^ 31 by decide), mc_lset hH]
  refine x_putF fpX12_79 rfl (mc_get hH) zf_a (by simp [mF]) dX12_init_197 ?_
  rw [mc_set hH, mf_set (by decide)]
  refine x_al0 rfl dX12_init_200 ?_
  refine x_iconst (v := nI 4) dX12_init_201 rfl ?_
  refine x_mk_int (N := 4) fpX12_82 hH rfl (by decide) (by decide) dX12_init_202 dX12_init_204 ?_
  refine x_al0 rfl dX12_init_207 ?_
  refine x_sipush (v := nI 160) dX12_init_208 (by decide) ?_
  refine x_mk_long (N := 160) fpX12_85 hH rfl (by decide) (by decide) dX12_init_211 dX12_init_213 ?_
  change Zw _ _ _ _ _ _ _ _ (H ++ (.inr (12, mF mSF) :: mLF)) _
  have W := mMW hH
  have hl : (H ++ (.inr (12, mF mSF) :: mLF) : zH).length = 83 := by rw [mc_len hH]; rfl
  have hb : ∀ i, i < 59 → (H ++ (.inr (12, mF mSF) :: mLF) : zH)[i]? = H[i]? := fun i hi => List.getElem?_append_left (by omega)
  generalize hh : (H ++ (.inr (12, mF mSF) :: mLF) : zH) = h1 at W hl hb ⊢
  have s17 : True := trivial
  refine x_al0 rfl dX12_init_216 ?_
  refine x_gm fdX12_13 W.hM (by decide) W.hF.f1 dX12_init_217 ?_
  refine x_cs1Vp mX12_plain_ok lkX12_88 (Nat.le_of_ble_eq_true rfl) (Nat.le_of_ble_eq_true rfl) dX12_init_220 (o_plain60 W) (fun h hq => ?_)
  obtain ⟨f, W, f1, f2⟩ := hq
  refine x_al0 rfl dX12_init_223 ?_
  refine x_gm fdX12_13 W.hM (by decide) W.hF.f1 dX12_init_224 ?_
  refine x_iconst (v := nI 1) dX12_init_227 rfl ?_
  refine x_iconst (v := nI 1) dX12_init_228 rfl ?_
  refine x_mst (len := 2868) W rfl rfl (by decide) (by omega) dX12_init_229 (fun h W => ?_)
  rw [upM_upM, upM_eq] at W
  refine x_al0 rfl dX12_init_230 ?_
  refine x_gm fdX12_13 W.hM (by decide) W.hF.f1 dX12_init_231 ?_
  refine x_iconst (v := nI 2) dX12_init_234 rfl ?_
  refine x_iconst (v := nI 1) dX12_init_235 rfl ?_
  refine x_mst (len := 2868) W rfl rfl (by decide) (by omega) dX12_init_236 (fun h W => ?_)
  rw [upM_upM, upM_eq] at W
  refine x_al0 rfl dX12_init_237 ?_
  refine x_cv0Vp mX12_laysAll_ok lkX12_92 rfl (Nat.le_of_ble_eq_true rfl) (Nat.le_of_ble_eq_true rfl) dX12_init_238 W.hM  (j_laysAll (n := 1) (by decide) (by decide) W (by rw [upM_eq, pk_un (by decide), pk_us])) (fun h hq => ?_)
  obtain ⟨s2, M2, W, h17, hs2, hM2, hT2⟩ := hq
  have m60 : ∀ k, k ≠ 1 → k ≠ 2 → k < 956 → M2 60 k = plF k := fun k k1 k2 k3 => by rw [hM2 60 (by decide) (by decide), upM_eq, pk_un k2, pk_un k1]; exact f1 k k3
  have m1 : M2 60 1 = nI 1 := by rw [hM2 60 (by decide) (by decide), upM_eq, pk_un (by decide)]; exact pk_us
  have m2 : M2 60 2 = nI 1 := by rw [hM2 60 (by decide) (by decide), upM_eq]; exact pk_us
  have mo := W.mo
  refine x_vret rfl dX12_init_241 ⟨rfl, h1, fun i hi => (mo.2 i (by omega) (Or.inl hi)).trans (hb i hi), ?_, s2, M2, _, W, MDk.of ⟨⟨by decide, by decide, by decide, by decide, by decide, by decide⟩, (m60 0 (by decide) (by decide) (by decide)).trans rfl, m1, m2, (m60 3 (by decide) (by decide) (by decide)).trans rfl, (m60 4 (by decide) (by decide) (by decide)).trans rfl, fun i hi => ?_⟩ hT2 h17, ⟨(m60 21 (by decide) (by decide) (by decide)).trans rfl, (m60 22 (by decide) (by decide) (by decide)).trans rfl, (m60 23 (by decide) (by decide) (by decide)).trans rfl, by decide, by decide⟩, ⟨(m60 24 (by decide) (by decide) (by decide)).trans rfl, Nat.zero_le _, fun i hi => absurd hi (Nat.not_lt_zero _)⟩, ⟨(hs2 5 (by decide)).trans rfl, Nat.zero_le _, fun i hi => absurd hi (Nat.not_lt_zero _)⟩, fun t ht => ?_, fun t ht => ?_, (hs2 13 (by decide)).trans rfl, (hs2 14 (by decide)).trans rfl, by decide, by decide, 0, (hs2 10 (by decide)).trans rfl⟩
  · have := mo.1; omega
  · have : i = 0 := by have : i < 1 := hi; omega
    subst this
    exact (m60 15 (by decide) (by decide) (by decide)).trans (by decide)
  · show M2 80 t = -1
    rw [hM2 80 (by decide) (by decide), upM_ne (by decide)]
    have : ∀ t, t < 4 → mMF 80 t = -1 := by decide
    exact this t ht
  · show M2 61 t = 0
    rw [hM2 61 (by decide) (by decide), upM_ne (by decide)]
    rfl
end ZMc

