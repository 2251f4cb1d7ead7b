/-! the class's parts are made -/
section ZCp
variable {g : zG} {d κ σ : Nat} {H l : zH} {a b c : va_E}
theorem hm_len : (H ++ (a :: l)).length = H.length + 1 + l.length := by rw [List.length_append, List.length_cons]; omega
theorem hm_app : (H ++ (a :: l)) ++ [b] = H ++ (a :: (l ++ [b])) := by simp
theorem c_stI : Zm g (d + 1) 0 0 mX7_init [.ref H.length] (H ++ [.inr (7, [.int 0, .int 0, .int 0])]) (rVp (fun h' => h' = H ++ [s3E (0, 0, 0)])) := by
  show Zw g (d + 1) 0 0 mX7_init 0 [some (.ref H.length)] [] _ _
  refine x_al0 rfl dX7_init_0 ?_
  refine x_obj koX7_1 (Nat.le_of_ble_eq_true rfl) dX7_init_1 ?_
  refine x_al0 rfl dX7_init_4 ?_
  refine x_iconst (v := nI 0) dX7_init_5 rfl ?_
  refine x_put fdX7_7 hm_get zf_i (by simp) dX7_init_6 ?_
  rw [hm_set]
  refine x_al0 rfl dX7_init_9 ?_
  refine x_iconst (v := nI 0) dX7_init_10 rfl ?_
  refine x_put fdX7_13 hm_get zf_i (by simp) dX7_init_11 ?_
  rw [hm_set]
  refine x_al0 rfl dX7_init_14 ?_
  refine x_iconst (v := nI 0) dX7_init_15 rfl ?_
  refine x_put fdX7_16 hm_get zf_i (by simp) dX7_init_16 ?_
  rw [hm_set]
  exact x_vret rfl dX7_init_19 ⟨rfl, rfl⟩
theorem c_dftI : Zm g (d + 1) 1 900 mX1_init [.ref H.length] (H ++ [.inr (1, [.null, .int 0, .int 0, .int 0])]) (rVp (fun h' => h' = H ++ [drE (H.length + 1) 0 0 0, inA 900 (fun _ => 0)])) := by
  show Zw g (d + 1) 1 900 mX1_init 0 [some (.ref H.length)] [] _ _
  refine Zw.room (κ' := 0 + 1) (σ' := 0 + 900) ?_ (by omega) (by omega)
  refine x_al0 rfl dX1_init_0 ?_
  refine x_obj koX1_3 (Nat.le_of_ble_eq_true rfl) dX1_init_1 ?_
  refine x_al0 rfl dX1_init_4 ?_
  refine x_sipush (v := nI 900) dX1_init_5 (by decide) ?_
  refine x_newa_int ka_int (by decide) (show (nI 900).toNatClampNeg = 900 from rfl) (by decide) dX1_init_8 ?_
  rw [hm_len (H := H), hm_app (H := H)]
  refine x_putF fpX1_9 rfl hm_get zf_a (by simp) dX1_init_10 ?_
  rw [hm_set]
  refine x_al0 rfl dX1_init_13 ?_
  refine x_iconst (v := nI 0) dX1_init_14 rfl ?_
  refine x_put fdX1_15 hm_get zf_i (by simp) dX1_init_15 ?_
  rw [hm_set]
  refine x_al0 rfl dX1_init_18 ?_
  refine x_iconst (v := nI 0) dX1_init_19 rfl ?_
  refine x_put fdX1_19 hm_get zf_i (by simp) dX1_init_20 ?_
  rw [hm_set]
  refine x_al0 rfl dX1_init_23 ?_
  refine x_iconst (v := nI 0) dX1_init_24 rfl ?_
  refine x_put fdX1_22 hm_get zf_i (by simp) dX1_init_25 ?_
  rw [hm_set]
  exact x_vret rfl dX1_init_28 ⟨rfl, rfl⟩
theorem c_trI : Zm g (d + 1) 1 40 mX8_init [.ref H.length] (H ++ [.inr (8, [.int 0, .int 0, .null])]) (rVp (fun h' => h' = H ++ [trE 0 (-1) (H.length + 1), lnA 40 (fun _ => 0)])) := by
  show Zw g (d + 1) 1 40 mX8_init 0 [some (.ref H.length)] [] _ _
  refine Zw.room (κ' := 0 + 1) (σ' := 0 + 40) ?_ (by omega) (by omega)
  refine x_al0 rfl dX8_init_0 ?_
  refine x_obj koX8_3 (Nat.le_of_ble_eq_true rfl) dX8_init_1 ?_
  refine x_al0 rfl dX8_init_4 ?_
  refine x_iconst (v := nI 0) dX8_init_5 rfl ?_
  refine x_put fdX8_9 hm_get zf_i (by simp) dX8_init_6 ?_
  rw [hm_set]
  refine x_al0 rfl dX8_init_9 ?_
  refine x_iconst (v := (-1)) dX8_init_10 rfl ?_
  refine x_put fdX8_15 hm_get zf_i (by simp) dX8_init_11 ?_
  rw [hm_set]
  refine x_al0 rfl dX8_init_14 ?_
  refine x_bipush (v := nI 40) dX8_init_15 rfl ?_
  refine x_newa_long ka_long (by decide) (show (nI 40).toNatClampNeg = 40 from rfl) (by decide) dX8_init_17 ?_
  rw [hm_len (H := H), hm_app (H := H)]
  refine x_putF fpX8_18 rfl hm_get zf_a (by simp) dX8_init_19 ?_
  rw [hm_set]
  exact x_vret rfl dX8_init_22 ⟨rfl, rfl⟩
theorem c_piI : Zm g (d + 2) 1 3 mX3_init [.ref H.length] (H ++ [.inr (3, [.null, .null])]) (rVp (fun h' => h' = H ++ [.inr (3, [.null, .ref (H.length + 1)]), s3E (0, 0, 0)])) := by
  show Zw g (d + 2) 1 3 mX3_init 0 [some (.ref H.length)] [] _ _
  refine Zw.room (κ' := 0 + 1) (σ' := 0 + 3) ?_ (by omega) (by omega)
  refine x_al0 rfl dX3_init_0 ?_
  refine x_obj koX3_1 (Nat.le_of_ble_eq_true rfl) dX3_init_1 ?_
  refine x_al0 rfl dX3_init_4 ?_
  refine x_null dX3_init_5 ?_
  refine x_put fdX3_7 hm_get zf_on (by simp) dX3_init_6 ?_
  rw [hm_set]
  refine x_al0 rfl dX3_init_9 ?_
  refine x_new (ci := 7) (fs := [.int 0, .int 0, .int 0]) rfl inX7 tyX7_ok klX3_13 kiX7 knX7 (fun j hj => by match j, hj with | 0, _ => rfl | 1, _ => rfl | 2, _ => rfl | _ + 3, h9 => exact absurd h9 (by omega)) (fun _ => rfl) (by simp) dX3_init_10 ?_
  rw [hm_len (H := H)]
  refine x_dup rfl dX3_init_13 ?_
  refine x_ci0 (κ1 := 0) (κ2 := 0) (σ1 := 0) (σ2 := 0) mX7_init_ok rfl lkX3_15 (Nat.le_of_ble_eq_true rfl) (Nat.le_of_ble_eq_true rfl) dX3_init_14 (Nat.le_refl _) (Nat.le_refl _) (show Zm g (d + 1) 0 0 mX7_init [.ref (H.length + 1 + ([] : zH).length)] _ _ from hm_len (H := H) (l := []) ▸ c_stI) (fun v h' q => ?_)
  obtain ⟨rfl, rfl⟩ := q
  rw [hm_app]
  refine x_putF fpX3_16 rfl hm_get zf_o (by simp) dX3_init_17 ?_
  rw [hm_set]
  exact x_vret rfl dX3_init_20 ⟨rfl, rfl⟩
theorem c_rwI : Zm g (d + 1) 4 23 mX5_init [.ref H.length] (H ++ [.inr (5, [.int 0, .int 0, .int 0, .int 0, .null, .null, .null, .null])]) (rVp (fun h' => h' = H ++ [.inr (5, [.int 0, .int 0, .int 0, .int 0, .ref (H.length + 1), .ref (H.length + 2), .ref (H.length + 3), .ref (H.length + 4)]), .inl (1, 1, .inl (fun _ => 0)), inA 1 (fun _ => 0), inA 15 (fun _ => 0), inA 6 (fun _ => 0)])) := by
  show Zw g (d + 1) 4 23 mX5_init 0 [some (.ref H.length)] [] _ _
  refine Zw.room (κ' := 0 + 1 + 1 + 1 + 1) (σ' := 0 + 6 + 15 + 1 + 1) ?_ (by omega) (by omega)
  refine x_al0 rfl dX5_init_0 ?_
  refine x_obj koX5_3 (Nat.le_of_ble_eq_true rfl) dX5_init_1 ?_
  refine x_al0 rfl dX5_init_4 ?_
  refine x_iconst (v := nI 0) dX5_init_5 rfl ?_
  refine x_put fdX5_9 hm_get zf_i (by simp) dX5_init_6 ?_
  rw [hm_set]
  refine x_al0 rfl dX5_init_9 ?_
  refine x_iconst (v := nI 0) dX5_init_10 rfl ?_
  refine x_put fdX5_15 hm_get zf_i (by simp) dX5_init_11 ?_
  rw [hm_set]
  refine x_al0 rfl dX5_init_14 ?_
  refine x_iconst (v := nI 0) dX5_init_15 rfl ?_
  refine x_put fdX5_18 hm_get zf_i (by simp) dX5_init_16 ?_
  rw [hm_set]
  refine x_al0 rfl dX5_init_19 ?_
  refine x_iconst (v := nI 0) dX5_init_20 rfl ?_
  refine x_put fdX5_21 hm_get (zf_z (by first | exact Or.inl rfl | exact Or.inr rfl)) (by simp) dX5_init_21 ?_
  rw [hm_set]
  refine x_al0 rfl dX5_init_24 ?_
  refine x_iconst (v := nI 1) dX5_init_25 rfl ?_
  refine x_newa_byte ka_byte (by decide) (show (nI 1).toNatClampNeg = 1 from rfl) (by decide) dX5_init_26 ?_
  rw [hm_len (H := H), hm_app (H := H)]
  refine x_put fdX5_25 hm_get (by first | exact zf_a | exact zf_an) (by simp) dX5_init_28 ?_
  rw [hm_set]
  refine x_al0 rfl dX5_init_31 ?_
  refine x_iconst (v := nI 1) dX5_init_32 rfl ?_
  refine x_newa_int ka_int (by decide) (show (nI 1).toNatClampNeg = 1 from rfl) (by decide) dX5_init_33 ?_
  rw [hm_len (H := H), hm_app (H := H)]
  refine x_put fdX5_29 hm_get (by first | exact zf_a | exact zf_an) (by simp) dX5_init_35 ?_
  rw [hm_set]
  refine x_al0 rfl dX5_init_38 ?_
  refine x_bipush (v := nI 15) dX5_init_39 rfl ?_
  refine x_newa_int ka_int (by decide) (show (nI 15).toNatClampNeg = 15 from rfl) (by decide) dX5_init_41 ?_
  rw [hm_len (H := H), hm_app (H := H)]
  refine x_putF fpX5_33 rfl hm_get zf_a (by simp) dX5_init_43 ?_
  rw [hm_set]
  refine x_al0 rfl dX5_init_46 ?_
  refine x_bipush (v := nI 6) dX5_init_47 rfl ?_
  refine x_newa_int ka_int (by decide) (show (nI 6).toNatClampNeg = 6 from rfl) (by decide) dX5_init_49 ?_
  rw [hm_len (H := H), hm_app (H := H)]
  refine x_putF fpX5_36 rfl hm_get zf_a (by simp) dX5_init_51 ?_
  rw [hm_set]
  exact x_vret rfl dX5_init_54 ⟨rfl, rfl⟩
theorem c_viI : Zm g (d + 1) 5 26 mX9_init [.ref H.length, .ref 15] (H ++ [.inr (9, [.null, .null, .null, .null, .int 0, .null, .null, .null, .int 0, .int 0])]) (rVp (fun h' => h' = H ++ [.inr (9, [.ref 15, .null, .ref (H.length + 1), .ref (H.length + 2), .int 0, .ref (H.length + 3), .ref (H.length + 4), .ref (H.length + 5), .int 0, .int 0]), .inl (1, 1, .inl (fun _ => 0)), .inl (1, 1, .inl (fun _ => 0)), .inl (3, 10, .inl (fun _ => 0)), inA 5 (fun _ => 0), inA 9 (fun _ => 0)])) := by
  show Zw g (d + 1) 5 26 mX9_init 0 [some (.ref H.length), some (.ref 15)] [] _ _
  refine Zw.room (κ' := 0 + 1 + 1 + 1 + 1 + 1) (σ' := 0 + 9 + 5 + 10 + 1 + 1) ?_ (by omega) (by omega)
  refine x_al0 rfl dX9_init_0 ?_
  refine x_obj koX9_3 (Nat.le_of_ble_eq_true rfl) dX9_init_1 ?_
  refine x_al0 rfl dX9_init_4 ?_
  refine x_null dX9_init_5 ?_
  refine x_put fdX9_9 hm_get zf_on (by simp) dX9_init_6 ?_
  rw [hm_set]
  refine x_al0 rfl dX9_init_9 ?_
  refine x_iconst (v := nI 1) dX9_init_10 rfl ?_
  refine x_newa_byte ka_byte (by decide) (show (nI 1).toNatClampNeg = 1 from rfl) (by decide) dX9_init_11 ?_
  rw [hm_len (H := H), hm_app (H := H)]
  refine x_put fdX9_15 hm_get (by first | exact zf_a | exact zf_an) (by simp) dX9_init_13 ?_
  rw [hm_set]
  refine x_al0 rfl dX9_init_16 ?_
  refine x_iconst (v := nI 1) dX9_init_17 rfl ?_
  refine x_newa_byte ka_byte (by decide) (show (nI 1).toNatClampNeg = 1 from rfl) (by decide) dX9_init_18 ?_
  rw [hm_len (H := H), hm_app (H := H)]
  refine x_put fdX9_19 hm_get (by first | exact zf_a | exact zf_an) (by simp) dX9_init_20 ?_
  rw [hm_set]
  refine x_al0 rfl dX9_init_23 ?_
  refine x_iconst (v := nI 0) dX9_init_24 rfl ?_
  refine x_put fdX9_22 hm_get zf_i (by simp) dX9_init_25 ?_
  rw [hm_set]
  refine x_al0 rfl dX9_init_28 ?_
  refine x_bipush (v := nI 10) dX9_init_29 rfl ?_
  refine x_newa_boolean ka_boolean (by decide) (show (nI 10).toNatClampNeg = 10 from rfl) (by decide) dX9_init_31 ?_
  rw [hm_len (H := H), hm_app (H := H)]
  refine x_putF fpX9_26 rfl hm_get zf_a (by simp) dX9_init_33 ?_
  rw [hm_set]
  refine x_al0 rfl dX9_init_36 ?_
  refine x_iconst (v := nI 5) dX9_init_37 rfl ?_
  refine x_newa_int ka_int (by decide) (show (nI 5).toNatClampNeg = 5 from rfl) (by decide) dX9_init_38 ?_
  rw [hm_len (H := H), hm_app (H := H)]
  refine x_putF fpX9_32 rfl hm_get zf_a (by simp) dX9_init_40 ?_
  rw [hm_set]
  refine x_al0 rfl dX9_init_43 ?_
  refine x_bipush (v := nI 9) dX9_init_44 rfl ?_
  refine x_newa_int ka_int (by decide) (show (nI 9).toNatClampNeg = 9 from rfl) (by decide) dX9_init_46 ?_
  rw [hm_len (H := H), hm_app (H := H)]
  refine x_putF fpX9_36 rfl hm_get zf_a (by simp) dX9_init_48 ?_
  rw [hm_set]
  refine x_al0 rfl dX9_init_51 ?_
  refine x_iconst (v := nI 0) dX9_init_52 rfl ?_
  refine x_put fdX9_39 hm_get zf_i (by simp) dX9_init_53 ?_
  rw [hm_set]
  refine x_al0 rfl dX9_init_56 ?_
  refine x_iconst (v := nI 0) dX9_init_57 rfl ?_
  refine x_put fdX9_42 hm_get (zf_z (by first | exact Or.inl rfl | exact Or.inr rfl)) (by simp) dX9_init_58 ?_
  rw [hm_set]
  refine x_al0 rfl dX9_init_61 ?_
  refine x_al1 rfl dX9_init_62 ?_
  refine x_putF fpX9_46 rfl hm_get zf_o (by simp) dX9_init_63 ?_
  rw [hm_set]
  exact x_vret rfl dX9_init_66 ⟨rfl, rfl⟩
theorem c_waI : Zm g (d + 1) 2 2 mX10_init [.ref H.length, .ref 15, .ref 20] (H ++ [.inr (10, [.null, .null, .null, .null, .int 0])]) (rVp (fun h' => h' = H ++ [waysE (H.length + 1) (H.length + 2) 0, inA 1 (fun _ => 0), inA 1 (fun _ => 0)])) := by
  show Zw g (d + 1) 2 2 mX10_init 0 [some (.ref H.length), some (.ref 15), some (.ref 20)] [] _ _
  refine Zw.room (κ' := 0 + 1 + 1) (σ' := 0 + 1 + 1) ?_ (by omega) (by omega)
  refine x_al0 rfl dX10_init_0 ?_
  refine x_obj koX10_3 (Nat.le_of_ble_eq_true rfl) dX10_init_1 ?_
  refine x_al0 rfl dX10_init_4 ?_
  refine x_iconst (v := nI 1) dX10_init_5 rfl ?_
  refine x_newa_int ka_int (by decide) (show (nI 1).toNatClampNeg = 1 from rfl) (by decide) dX10_init_6 ?_
  rw [hm_len (H := H), hm_app (H := H)]
  refine x_put fdX10_9 hm_get (by first | exact zf_a | exact zf_an) (by simp) dX10_init_8 ?_
  rw [hm_set]
  refine x_al0 rfl dX10_init_11 ?_
  refine x_iconst (v := nI 1) dX10_init_12 rfl ?_
  refine x_newa_int ka_int (by decide) (show (nI 1).toNatClampNeg = 1 from rfl) (by decide) dX10_init_13 ?_
  rw [hm_len (H := H), hm_app (H := H)]
  refine x_put fdX10_15 hm_get (by first | exact zf_a | exact zf_an) (by simp) dX10_init_15 ?_
  rw [hm_set]
  refine x_al0 rfl dX10_init_18 ?_
  refine x_iconst (v := nI 0) dX10_init_19 rfl ?_
  refine x_put fdX10_18 hm_get zf_i (by simp) dX10_init_20 ?_
  rw [hm_set]
  refine x_al0 rfl dX10_init_23 ?_
  refine x_al1 rfl dX10_init_24 ?_
  refine x_putF fpX10_22 rfl hm_get zf_o (by simp) dX10_init_25 ?_
  rw [hm_set]
  refine x_al0 rfl dX10_init_28 ?_
  refine x_al2 rfl dX10_init_29 ?_
  refine x_putF fpX10_26 rfl hm_get zf_o (by simp) dX10_init_30 ?_
  rw [hm_set]
  exact x_vret rfl dX10_init_33 ⟨rfl, rfl⟩
theorem c_spI : Zm g (d + 1) 2 2 mX6_init [.ref H.length, .ref 15] (H ++ [.inr (6, [.null, .null, .null])]) (rVp (fun h' => h' = H ++ [sprE (H.length + 1) (H.length + 2), lnA 1 (fun _ => 0), lnA 1 (fun _ => 0)])) := by
  show Zw g (d + 1) 2 2 mX6_init 0 [some (.ref H.length), some (.ref 15)] [] _ _
  refine Zw.room (κ' := 0 + 1 + 1) (σ' := 0 + 1 + 1) ?_ (by omega) (by omega)
  refine x_al0 rfl dX6_init_0 ?_
  refine x_obj koX6_3 (Nat.le_of_ble_eq_true rfl) dX6_init_1 ?_
  refine x_al0 rfl dX6_init_4 ?_
  refine x_iconst (v := nI 1) dX6_init_5 rfl ?_
  refine x_newa_long ka_long (by decide) (show (nI 1).toNatClampNeg = 1 from rfl) (by decide) dX6_init_6 ?_
  rw [hm_len (H := H), hm_app (H := H)]
  refine x_put fdX6_9 hm_get (by first | exact zf_a | exact zf_an) (by simp) dX6_init_8 ?_
  rw [hm_set]
  refine x_al0 rfl dX6_init_11 ?_
  refine x_iconst (v := nI 1) dX6_init_12 rfl ?_
  refine x_newa_long ka_long (by decide) (show (nI 1).toNatClampNeg = 1 from rfl) (by decide) dX6_init_13 ?_
  rw [hm_len (H := H), hm_app (H := H)]
  refine x_put fdX6_15 hm_get (by first | exact zf_a | exact zf_an) (by simp) dX6_init_15 ?_
  rw [hm_set]
  refine x_al0 rfl dX6_init_18 ?_
  refine x_al1 rfl dX6_init_19 ?_
  refine x_putF fpX6_18 rfl hm_get zf_o (by simp) dX6_init_20 ?_
  rw [hm_set]
  exact x_vret rfl dX6_init_23 ⟨rfl, rfl⟩
end ZCp

