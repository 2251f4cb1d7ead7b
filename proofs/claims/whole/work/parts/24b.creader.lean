/-! the class's reader is made -/
section ZCx
variable {g : zG} {d κ σ : Nat} {H l : zH} {a b c : va_E}
theorem hm_app2 : (H ++ (a :: l)) ++ [b, c] = H ++ (a :: (l ++ [b, c])) := by simp
theorem c_rdI : Zm g (d + 2) 6 1820 mX4_init [.ref H.length] (H ++ [.inr (4, [.int 0, .int 0, .int 0, .int 0, .int 0, .int 0, .null, .null, .null, .null, .null, .int 0, .int 0, .int 0, .int 0, .int 0, .int 0, .null])]) (rVp (fun h' => h' = H ++ [.inr (4, [.int 0, .int 0, .int 1, .int 1, .int 0, .int 0, .ref (H.length + 1), .ref (H.length + 2), .ref (H.length + 3), .ref (H.length + 5), .null, .int 0, .int 0, .int 2, .int 0, .int 0, .int 0, .ref (H.length + 3)]), inA 6 (fun _ => 0), inA 6 (fun _ => 0), drE (H.length + 4) 0 0 0, inA 900 (fun _ => 0), drE (H.length + 6) 0 0 0, inA 900 (fun _ => 0)])) := by
  show Zw g (d + 2) 6 1820 mX4_init 0 [some (.ref H.length)] [] _ _
  refine Zw.room (κ' := 3 + 1 + 1 + 1) (σ' := 1804 + 4 + 6 + 6) ?_ (by omega) (by omega)
  refine x_al0 rfl dX4_init_0 ?_
  refine x_obj koX4_3 (Nat.le_of_ble_eq_true rfl) dX4_init_1 ?_
  refine x_al0 rfl dX4_init_4 ?_
  refine x_iconst (v := nI 0) dX4_init_5 rfl ?_
  refine x_put fdX4_9 hm_get zf_i (by simp) dX4_init_6 ?_
  rw [hm_set]
  refine x_al0 rfl dX4_init_9 ?_
  refine x_iconst (v := nI 0) dX4_init_10 rfl ?_
  refine x_put fdX4_15 hm_get zf_i (by simp) dX4_init_11 ?_
  rw [hm_set]
  refine x_al0 rfl dX4_init_14 ?_
  refine x_iconst (v := nI 1) dX4_init_15 rfl ?_
  refine x_put fdX4_18 hm_get zf_i (by simp) dX4_init_16 ?_
  rw [hm_set]
  refine x_al0 rfl dX4_init_19 ?_
  refine x_iconst (v := nI 1) dX4_init_20 rfl ?_
  refine x_put fdX4_21 hm_get zf_i (by simp) dX4_init_21 ?_
  rw [hm_set]
  refine x_al0 rfl dX4_init_24 ?_
  refine x_iconst (v := nI 0) dX4_init_25 rfl ?_
  refine x_put fdX4_24 hm_get zf_i (by simp) dX4_init_26 ?_
  rw [hm_set]
  refine x_al0 rfl dX4_init_29 ?_
  refine x_iconst (v := nI 0) dX4_init_30 rfl ?_
  refine x_put fdX4_27 hm_get zf_i (by simp) dX4_init_31 ?_
  rw [hm_set]
  refine x_al0 rfl dX4_init_34 ?_
  refine x_bipush (v := nI 6) dX4_init_35 rfl ?_
  refine x_newa_int ka_int (by decide) (show (nI 6).toNatClampNeg = 6 from rfl) (by decide) dX4_init_37 ?_
  rw [hm_len (H := H), hm_app (H := H)]
  refine x_putF fpX4_30 rfl hm_get zf_a (by simp) dX4_init_39 ?_
  rw [hm_set]
  refine x_al0 rfl dX4_init_42 ?_
  refine x_bipush (v := nI 6) dX4_init_43 rfl ?_
  refine x_newa_int ka_int (by decide) (show (nI 6).toNatClampNeg = 6 from rfl) (by decide) dX4_init_45 ?_
  rw [hm_len (H := H), hm_app (H := H)]
  refine x_putF fpX4_34 rfl hm_get zf_a (by simp) dX4_init_47 ?_
  rw [hm_set]
  refine x_al0 rfl dX4_init_50 ?_
  refine x_new (ci := 1) (fs := [.null, .int 0, .int 0, .int 0]) rfl inX1 tyX1_ok klX4_37 kiX1 knX1 (fun j hj => by match j, hj with | 0, _ => rfl | 1, _ => rfl | 2, _ => rfl | 3, _ => rfl | _ + 4, h9 => exact absurd h9 (by omega)) (fun _ => rfl) (by simp) dX4_init_51 ?_
  refine x_dup rfl dX4_init_54 ?_
  refine x_ci0 (κ1 := 1) (κ2 := 1 + 1) (σ1 := 900) (σ2 := 900 + 4) mX1_init_ok rfl lkX4_39 (Nat.le_of_ble_eq_true rfl) (Nat.le_of_ble_eq_true rfl) dX4_init_55 (by omega) (by omega) c_dftI (fun v h' q => ?_)
  obtain ⟨rfl, rfl⟩ := q
  rw [hm_len (H := H), hm_app2 (H := H)]
  refine x_putF fpX4_40 rfl hm_get zf_o (by simp) dX4_init_58 ?_
  rw [hm_set]
  refine x_al0 rfl dX4_init_61 ?_
  refine x_new (ci := 1) (fs := [.null, .int 0, .int 0, .int 0]) rfl inX1 tyX1_ok klX4_37 kiX1 knX1 (fun j hj => by match j, hj with | 0, _ => rfl | 1, _ => rfl | 2, _ => rfl | 3, _ => rfl | _ + 4, h9 => exact absurd h9 (by omega)) (fun _ => rfl) (by simp) dX4_init_62 ?_
  refine x_dup rfl dX4_init_65 ?_
  refine x_ci0 (κ1 := 1) (κ2 := 0) (σ1 := 900) (σ2 := 0) mX1_init_ok rfl lkX4_39 (Nat.le_of_ble_eq_true rfl) (Nat.le_of_ble_eq_true rfl) dX4_init_66 (by omega) (by omega) c_dftI (fun v h' q => ?_)
  obtain ⟨rfl, rfl⟩ := q
  rw [hm_len (H := H), hm_app2 (H := H)]
  refine x_putF fpX4_44 rfl hm_get zf_o (by simp) dX4_init_69 ?_
  rw [hm_set]
  refine x_al0 rfl dX4_init_72 ?_
  refine x_null dX4_init_73 ?_
  refine x_put fdX4_47 hm_get zf_an (by simp) dX4_init_74 ?_
  rw [hm_set]
  refine x_al0 rfl dX4_init_77 ?_
  refine x_iconst (v := nI 0) dX4_init_78 rfl ?_
  refine x_put fdX4_51 hm_get zf_i (by simp) dX4_init_79 ?_
  rw [hm_set]
  refine x_al0 rfl dX4_init_82 ?_
  refine x_iconst (v := nI 0) dX4_init_83 rfl ?_
  refine x_put fdX4_54 hm_get zf_i (by simp) dX4_init_84 ?_
  rw [hm_set]
  refine x_al0 rfl dX4_init_87 ?_
  refine x_iconst (v := nI 2) dX4_init_88 rfl ?_
  refine x_put fdX4_57 hm_get zf_i (by simp) dX4_init_89 ?_
  rw [hm_set]
  refine x_al0 rfl dX4_init_92 ?_
  refine x_iconst (v := nI 0) dX4_init_93 rfl ?_
  refine x_put fdX4_60 hm_get zf_i (by simp) dX4_init_94 ?_
  rw [hm_set]
  refine x_al0 rfl dX4_init_97 ?_
  refine x_iconst (v := nI 0) dX4_init_98 rfl ?_
  refine x_put fdX4_63 hm_get zf_i (by simp) dX4_init_99 ?_
  rw [hm_set]
  refine x_al0 rfl dX4_init_102 ?_
  refine x_iconst (v := nI 0) dX4_init_103 rfl ?_
  refine x_put fdX4_66 hm_get zf_i (by simp) dX4_init_104 ?_
  rw [hm_set]
  refine x_al0 rfl dX4_init_107 ?_
  refine x_al0 rfl dX4_init_108 ?_
  refine x_get fdX4_40 hm_get rfl dX4_init_109 ?_
  refine x_put fdX4_69 hm_get zf_o (by simp) dX4_init_112 ?_
  rw [hm_set]
  exact x_vret rfl dX4_init_115 ⟨rfl, rfl⟩
end ZCx

