/-! the law from its start -/
section ZLw3
variable {g : zG} {d : Nat}
theorem z_law (hl : g.2.2.2.2.1 < 3078) : Zw g (d + 80) 8282 6927839 mL_law 0 [some (.retAddr 1), none, none, none] [] [] rT := by
  refine Zw.room (κ' := 8281 + 1) (σ' := 6927821 + 18) ?_ (by decide) (by decide)
  refine x_new (ci := 11) (fs := [.null, .int 0, .null, .null, .null, .null, .null, .null, .int 0, .int 0, .null, .null, .null, .null, .null, .null, .null, .null]) rfl inX11 tyX11_ok klL_7 kiX11 knX11 (fun j hj => by match j, hj with | 0, _ => rfl | 1, _ => rfl | 2, _ => rfl | 3, _ => rfl | 4, _ => rfl | 5, _ => rfl | 6, _ => rfl | 7, _ => rfl | 8, _ => rfl | 9, _ => rfl | 10, _ => rfl | 11, _ => rfl | 12, _ => rfl | 13, _ => rfl | 14, _ => rfl | 15, _ => rfl | 16, _ => rfl | 17, _ => rfl | _ + 18, h9 => exact absurd h9 (by omega)) (fun _ => rfl) (by simp) dL_law_0 ?_
  refine x_dup rfl dL_law_3 ?_
  refine x_ci0 (κ1 := 65) (κ2 := 8216) (σ1 := 7111) (σ2 := 6920710) mX11_init_ok rfl lkL_9 (Nat.le_of_ble_eq_true rfl) (Nat.le_of_ble_eq_true rfl) dL_law_4 (by decide) (by decide) (c_ctor (d := d + 70)) (fun v H q => ?_)
  obtain ⟨rfl, K⟩ := q
  have hH := K.1
  show Zw g (d + 80) 8216 6920710 mL_law 7 [some (.retAddr 1), none, none, none] [.ref 0] H _
  refine x_as1 rfl rfl dL_law_7 ?_
  refine Zw.room (κ' := 8215 + 1) (σ' := 6920669 + 41) ?_ (by decide) (by decide)
  refine x_new (ci := 12) (fs := mFs) rfl inX12 tyX12_ok klL_10 kiX12 knX12 (fun j hj => by match j, hj with | 0, _ => rfl | 1, _ => rfl | 2, _ => rfl | 3, _ => rfl | 4, _ => rfl | 5, _ => rfl | 6, _ => rfl | 7, _ => rfl | 8, _ => rfl | 9, _ => rfl | 10, _ => rfl | 11, _ => rfl | 12, _ => rfl | 13, _ => rfl | 14, _ => rfl | 15, _ => rfl | 16, _ => rfl | 17, _ => rfl | 18, _ => rfl | 19, _ => rfl | 20, _ => rfl | 21, _ => rfl | 22, _ => rfl | 23, _ => rfl | 24, _ => rfl | 25, _ => rfl | 26, _ => rfl | 27, _ => rfl | 28, _ => rfl | 29, _ => rfl | 30, _ => rfl | 31, _ => rfl | 32, _ => rfl | 33, _ => rfl | 34, _ => rfl | 35, _ => rfl | 36, _ => rfl | 37, _ => rfl | 38, _ => rfl | 39, _ => rfl | 40, _ => rfl | _ + 41, h9 => exact absurd h9 (by omega)) (fun _ => rfl) (by simp [mFs]) dL_law_8 ?_
  rw [hH]
  refine x_dup rfl dL_law_11 ?_
  refine x_ci0 (κ1 := 23) (κ2 := 8192) (σ1 := 24669) (σ2 := 6896000) mX12_init_ok rfl lkL_12 (Nat.le_of_ble_eq_true rfl) (Nat.le_of_ble_eq_true rfl) dL_law_12 (by decide) (by decide) (w_init (d := d + 71) hH) (fun v h q => ?_)
  obtain ⟨rfl, h1, a1, a2, J⟩ := q
  show Zw g (d + 80) 8192 6896000 mL_law 15 [some (.retAddr 1), some (.ref 0), none, none] [.ref 59] h _
  refine x_as2 rfl rfl dL_law_15 ?_
  refine x_iconst (v := nI 0) dL_law_16 rfl ?_
  refine x_is3 rfl dL_law_17 ?_
  have B := K.bi a1 a2 J
  have p := phi_0
  refine Zw.room (κ' := 16 * 512) (σ' := 13000 * 512 + Phi (1, 1, false, 10, 10, 1, 1)) ?_ (by decide) (by omega)
  exact lw_loop (by omega) 512 0 h _ (by decide) (by omega) B
end ZLw3

