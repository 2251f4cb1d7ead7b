/-! the cases of the law -/
def mL_law : zMe := (yL_law, cL_law, 4, some FieldType.boolean)
section ZCs
variable {g : zG} {d i κ σ : Nat} {h : zH} {ln : zLn} {Q : Option Value → zH → Prop}
theorem CI.obj {h0 : zH} {dk : zDk} {st : zSt} {un : List zSt} {tp : List Nat} {tr : Nat → zTr} {pi : Nat → zPi} {fl : Nat × Nat} {sb sj : zS3} {dr : Int32} (I : CI h0 h dk st un tp tr pi fl ln sb sj dr) : ∃ fs, h[0]? = some (.inr (11, fs)) := by
  obtain ⟨Z, rt, ds, C, W, J⟩ := I
  exact ⟨_, C.get J.1⟩
theorem MI.obj {h0 : zH} {dk : zDk} {st : zSt} {un : List zSt} {tp : List Nat} {tr : Nat → zTr} {pi : Nat → zPi} {fl : Nat × Nat} (I : MI h0 h dk st un tp tr pi fl) : ∃ fs, h[59]? = some (.inr (12, fs)) := by
  obtain ⟨s, M, L, W, J⟩ := I
  exact ⟨_, W.1⟩
abbrev lawL (i : Nat) : List (Option Value) := [some (.retAddr 1), some (.ref 0), some (.ref 59), some (.int (nI i))]
theorem in_le : ∀ n, n < 7 → fct n * np n ≤ 10800 ∧ fct n ≤ 720 := by decide
theorem sS_le {n : Nat} (h6 : n ≤ 6) : sS n ln ≤ 10800 := by
  have a := in_le n (by omega)
  unfold sS grw
  cases ln.2.2.1
  · simp only [cond_false]
    split <;> omega
  · simp only [cond_true]
    omega
theorem sW_le {n : Nat} (h6 : n ≤ 6) : sW n ln ≤ 1440 := by
  have a := in_le n (by omega)
  unfold sW grw
  split <;> omega
theorem sV_le {n : Nat} (h6 : n ≤ 6) : sV n ln ≤ 1440 := by
  have a := in_le n (by omega)
  unfold sV grw
  split <;> omega
theorem lw_feed (hi : i + 6 ≤ g.2.2.2.2.1) (hg : g.2.2.2.2.1 < 2 ^ 31) (B : BI h ln) (kk : ∀ (h' : zH) (l2 : zLn), BI h' l2 → Zw g (d + 80) κ (σ + Phi l2) mL_law 1583 (lawL i) [] h' Q) : Zw g (d + 80) (κ + 16) (σ + 13000 + Phi ln) mL_law 220 (lawL i) [] h Q := by
  obtain ⟨h0, hh, dk, st, un, tp, tr, pi, fl, sb, sj, dr, J, I⟩ := B
  have I := I.mo J Mo.rf
  have J := J.co Co.rf
  obtain ⟨fs, hc⟩ := I.obj
  obtain ⟨n0, n6, -⟩ := I.dkB
  refine x_al1 rfl dL_law_220 ?_
  refine x_al0 rfl dL_law_221 ?_
  refine x_il3 dL_law_222 ?_
  refine x_iconst (v := nI 1) dL_law_223 rfl ?_
  refine x_iadd (nI_add _ _) dL_law_224 ?_
  refine x_scr (vp_in_nI (show i + 1 < g.2.2.2.2.1 by omega) hg) rfl dL_law_225 ?_
  refine x_al0 rfl dL_law_226 ?_
  refine x_il3 dL_law_227 ?_
  refine x_iconst (v := nI 2) dL_law_228 rfl ?_
  refine x_iadd (nI_add _ _) dL_law_229 ?_
  refine x_scr (vp_in_nI (show i + 2 < g.2.2.2.2.1 by omega) hg) rfl dL_law_230 ?_
  refine x_al0 rfl dL_law_231 ?_
  refine x_il3 dL_law_232 ?_
  refine x_iconst (v := nI 3) dL_law_233 rfl ?_
  refine x_iadd (nI_add _ _) dL_law_234 ?_
  refine x_scr (vp_in_nI (show i + 3 < g.2.2.2.2.1 by omega) hg) rfl dL_law_235 ?_
  refine x_al0 rfl dL_law_236 ?_
  refine x_il3 dL_law_237 ?_
  refine x_iconst (v := nI 4) dL_law_238 rfl ?_
  refine x_iadd (nI_add _ _) dL_law_239 ?_
  refine x_scr (vp_in_nI (show i + 4 < g.2.2.2.2.1 by omega) hg) rfl dL_law_240 ?_
  refine x_al0 rfl dL_law_241 ?_
  refine x_il3 dL_law_242 ?_
  refine x_iconst (v := nI 5) dL_law_243 rfl ?_
  refine x_iadd (nI_add _ _) dL_law_244 ?_
  refine x_scr (vp_in_nI (show i + 5 < g.2.2.2.2.1 by omega) hg) rfl dL_law_245 ?_
  have ph : 0 + Phi ln ≤ Phi ln + 3610 := by omega
  refine x_callV (as := [.int _, .int _, .int _, .int _, .int _]) (κ1 := 0) (κ2 := κ) (σ1 := 0) (σ2 := σ + 13000 + Phi ln - (0)) mX11_feed_ok lkL_13 rfl rfl (Nat.le_of_ble_eq_true rfl) (Nat.le_of_ble_eq_true rfl) dL_law_246 hc (by omega) (by omega) (k_feed (d := d + 78) I) (fun v h1 hq => ?_)
  obtain ⟨r, rfl, e1, I2⟩ := hq
  have J := J.co I2.co
  obtain ⟨fm, hm⟩ := J.obj
  refine Zw.room (κ' := κ) (σ' := σ + Phi ln) ?_ (by omega) (by omega)
  refine x_al2 rfl dL_law_249 ?_
  refine x_al0 rfl dL_law_250 ?_
  refine x_il3 dL_law_251 ?_
  refine x_iconst (v := nI 1) dL_law_252 rfl ?_
  refine x_iadd (nI_add _ _) dL_law_253 ?_
  refine x_scr (vp_in_nI (show i + 1 < g.2.2.2.2.1 by omega) hg) rfl dL_law_254 ?_
  refine x_al0 rfl dL_law_255 ?_
  refine x_il3 dL_law_256 ?_
  refine x_iconst (v := nI 2) dL_law_257 rfl ?_
  refine x_iadd (nI_add _ _) dL_law_258 ?_
  refine x_scr (vp_in_nI (show i + 2 < g.2.2.2.2.1 by omega) hg) rfl dL_law_259 ?_
  refine x_al0 rfl dL_law_260 ?_
  refine x_il3 dL_law_261 ?_
  refine x_iconst (v := nI 3) dL_law_262 rfl ?_
  refine x_iadd (nI_add _ _) dL_law_263 ?_
  refine x_scr (vp_in_nI (show i + 3 < g.2.2.2.2.1 by omega) hg) rfl dL_law_264 ?_
  refine x_al0 rfl dL_law_265 ?_
  refine x_il3 dL_law_266 ?_
  refine x_iconst (v := nI 4) dL_law_267 rfl ?_
  refine x_iadd (nI_add _ _) dL_law_268 ?_
  refine x_scr (vp_in_nI (show i + 4 < g.2.2.2.2.1 by omega) hg) rfl dL_law_269 ?_
  refine x_al0 rfl dL_law_270 ?_
  refine x_il3 dL_law_271 ?_
  refine x_iconst (v := nI 5) dL_law_272 rfl ?_
  refine x_iadd (nI_add _ _) dL_law_273 ?_
  refine x_scr (vp_in_nI (show i + 5 < g.2.2.2.2.1 by omega) hg) rfl dL_law_274 ?_
  refine x_callV (as := [.int _, .int _, .int _, .int _, .int _]) (κ1 := 0) (κ2 := κ) (σ1 := 0) (σ2 := σ + Phi ln) mX12_feed_ok lkL_17 rfl rfl (Nat.le_of_ble_eq_true rfl) (Nat.le_of_ble_eq_true rfl) dL_law_275 hm (by omega) (by omega) (w_feed (d := d + 78) J) (fun v h2 hq => ?_)
  obtain ⟨r2, rfl, e2, J2⟩ := hq
  have I2 := I2.mo J J2.mo
  have e : r = r2 := e1.trans e2.symm
  refine x_icmp_eq (tgt := 1583) dL_law_278 rfl (fun _ => kk h2 _ ⟨_, _, _, _, _, _, _, _, _, _, _, _, J2, I2⟩) (fun q => absurd e q)
theorem lw_desk (hi : i + 6 ≤ g.2.2.2.2.1) (hg : g.2.2.2.2.1 < 2 ^ 31) (B : BI h ln) (kk : ∀ (h' : zH) (l2 : zLn), BI h' l2 → Zw g (d + 80) κ (σ + Phi l2) mL_law 1583 (lawL i) [] h' Q) : Zw g (d + 80) (κ + 16) (σ + 13000 + Phi ln) mL_law 283 (lawL i) [] h Q := by
  obtain ⟨h0, hh, dk, st, un, tp, tr, pi, fl, sb, sj, dr, J, I⟩ := B
  have I := I.mo J Mo.rf
  have J := J.co Co.rf
  obtain ⟨fs, hc⟩ := I.obj
  obtain ⟨n0, n6, -⟩ := I.dkB
  refine x_al1 rfl dL_law_283 ?_
  refine x_al0 rfl dL_law_284 ?_
  refine x_il3 dL_law_285 ?_
  refine x_iconst (v := nI 1) dL_law_286 rfl ?_
  refine x_iadd (nI_add _ _) dL_law_287 ?_
  refine x_scr (vp_in_nI (show i + 1 < g.2.2.2.2.1 by omega) hg) rfl dL_law_288 ?_
  have ph := phi_desk (x := (g.2.2.2.2.2 (nI (i + 1)).toNatClampNeg)) I
  refine x_callV (as := [.int _]) (κ1 := 10) (κ2 := κ) (σ1 := K_desk dk tp ln (g.2.2.2.2.2 (nI (i + 1)).toNatClampNeg)) (σ2 := σ + 13000 + Phi ln - (K_desk dk tp ln (g.2.2.2.2.2 (nI (i + 1)).toNatClampNeg))) mX11_desk_ok lkL_18 rfl rfl (Nat.le_of_ble_eq_true rfl) (Nat.le_of_ble_eq_true rfl) dL_law_289 hc (by omega) (by omega) (k_desk (d := d + 11) I) (fun v h1 hq => ?_)
  obtain ⟨r, rfl, e1, I2⟩ := hq
  have J := J.co I2.co
  obtain ⟨fm, hm⟩ := J.obj
  refine Zw.room (κ' := κ) (σ' := σ + Phi (L_desk dk tp ln (g.2.2.2.2.2 (nI (i + 1)).toNatClampNeg))) ?_ (by omega) (by omega)
  refine x_al2 rfl dL_law_292 ?_
  refine x_al0 rfl dL_law_293 ?_
  refine x_il3 dL_law_294 ?_
  refine x_iconst (v := nI 1) dL_law_295 rfl ?_
  refine x_iadd (nI_add _ _) dL_law_296 ?_
  refine x_scr (vp_in_nI (show i + 1 < g.2.2.2.2.1 by omega) hg) rfl dL_law_297 ?_
  refine x_callV (as := [.int _]) (κ1 := 0) (κ2 := κ) (σ1 := 0) (σ2 := σ + Phi (L_desk dk tp ln (g.2.2.2.2.2 (nI (i + 1)).toNatClampNeg))) mX12_desk_ok lkL_22 rfl rfl (Nat.le_of_ble_eq_true rfl) (Nat.le_of_ble_eq_true rfl) dL_law_298 hm (by omega) (by omega) (w_desk (d := d + 22) J) (fun v h2 hq => ?_)
  obtain ⟨r2, rfl, e2, J2⟩ := hq
  have I2 := I2.mo J J2.mo
  have e : r = r2 := e1.trans e2.symm
  refine x_icmp_eq (tgt := 1583) dL_law_301 rfl (fun _ => kk h2 _ ⟨_, _, _, _, _, _, _, _, _, _, _, _, J2, I2⟩) (fun q => absurd e q)
theorem lw_fault (hi : i + 6 ≤ g.2.2.2.2.1) (hg : g.2.2.2.2.1 < 2 ^ 31) (B : BI h ln) (kk : ∀ (h' : zH) (l2 : zLn), BI h' l2 → Zw g (d + 80) κ (σ + Phi l2) mL_law 1583 (lawL i) [] h' Q) : Zw g (d + 80) (κ + 16) (σ + 13000 + Phi ln) mL_law 306 (lawL i) [] h Q := by
  obtain ⟨h0, hh, dk, st, un, tp, tr, pi, fl, sb, sj, dr, J, I⟩ := B
  have I := I.mo J Mo.rf
  have J := J.co Co.rf
  obtain ⟨fs, hc⟩ := I.obj
  obtain ⟨n0, n6, -⟩ := I.dkB
  refine x_al1 rfl dL_law_306 ?_
  refine x_al0 rfl dL_law_307 ?_
  refine x_il3 dL_law_308 ?_
  refine x_iconst (v := nI 1) dL_law_309 rfl ?_
  refine x_iadd (nI_add _ _) dL_law_310 ?_
  refine x_scr (vp_in_nI (show i + 1 < g.2.2.2.2.1 by omega) hg) rfl dL_law_311 ?_
  have ph : 0 + Phi ln ≤ Phi ln + 3610 := by omega
  refine x_callV (as := [.int _]) (κ1 := 0) (κ2 := κ) (σ1 := 0) (σ2 := σ + 13000 + Phi ln - (0)) mX11_fault_ok lkL_23 rfl rfl (Nat.le_of_ble_eq_true rfl) (Nat.le_of_ble_eq_true rfl) dL_law_312 hc (by omega) (by omega) (k_fault (d := d + 72) I) (fun v h1 hq => ?_)
  obtain ⟨r, rfl, e1, I2⟩ := hq
  have J := J.co I2.co
  obtain ⟨fm, hm⟩ := J.obj
  refine Zw.room (κ' := κ) (σ' := σ + Phi ln) ?_ (by omega) (by omega)
  refine x_al2 rfl dL_law_315 ?_
  refine x_al0 rfl dL_law_316 ?_
  refine x_il3 dL_law_317 ?_
  refine x_iconst (v := nI 1) dL_law_318 rfl ?_
  refine x_iadd (nI_add _ _) dL_law_319 ?_
  refine x_scr (vp_in_nI (show i + 1 < g.2.2.2.2.1 by omega) hg) rfl dL_law_320 ?_
  refine x_callV (as := [.int _]) (κ1 := 0) (κ2 := κ) (σ1 := 0) (σ2 := σ + Phi ln) mX12_fault_ok lkL_26 rfl rfl (Nat.le_of_ble_eq_true rfl) (Nat.le_of_ble_eq_true rfl) dL_law_321 hm (by omega) (by omega) (w_fault (d := d + 74) J) (fun v h2 hq => ?_)
  obtain ⟨r2, rfl, e2, J2⟩ := hq
  have I2 := I2.mo J J2.mo
  have e : r = r2 := e1.trans e2.symm
  refine x_icmp_eq (tgt := 1583) dL_law_324 rfl (fun _ => kk h2 _ ⟨_, _, _, _, _, _, _, _, _, _, _, _, J2, I2⟩) (fun q => absurd e q)
theorem lw_drawer (hi : i + 6 ≤ g.2.2.2.2.1) (hg : g.2.2.2.2.1 < 2 ^ 31) (B : BI h ln) (kk : ∀ (h' : zH) (l2 : zLn), BI h' l2 → Zw g (d + 80) κ (σ + Phi l2) mL_law 1583 (lawL i) [] h' Q) : Zw g (d + 80) (κ + 16) (σ + 13000 + Phi ln) mL_law 329 (lawL i) [] h Q := by
  obtain ⟨h0, hh, dk, st, un, tp, tr, pi, fl, sb, sj, dr, J, I⟩ := B
  have I := I.mo J Mo.rf
  have J := J.co Co.rf
  obtain ⟨fs, hc⟩ := I.obj
  obtain ⟨n0, n6, -⟩ := I.dkB
  refine x_al1 rfl dL_law_329 ?_
  refine x_al0 rfl dL_law_330 ?_
  refine x_il3 dL_law_331 ?_
  refine x_iconst (v := nI 1) dL_law_332 rfl ?_
  refine x_iadd (nI_add _ _) dL_law_333 ?_
  refine x_scr (vp_in_nI (show i + 1 < g.2.2.2.2.1 by omega) hg) rfl dL_law_334 ?_
  refine x_al0 rfl dL_law_335 ?_
  refine x_il3 dL_law_336 ?_
  refine x_iconst (v := nI 2) dL_law_337 rfl ?_
  refine x_iadd (nI_add _ _) dL_law_338 ?_
  refine x_scr (vp_in_nI (show i + 2 < g.2.2.2.2.1 by omega) hg) rfl dL_law_339 ?_
  have ph : 0 + Phi ln ≤ Phi ln + 3610 := by omega
  refine x_callV (as := [.int _, .int _]) (κ1 := 0) (κ2 := κ) (σ1 := 0) (σ2 := σ + 13000 + Phi ln - (0)) mX11_drawer_ok lkL_27 rfl rfl (Nat.le_of_ble_eq_true rfl) (Nat.le_of_ble_eq_true rfl) dL_law_340 hc (by omega) (by omega) (k_drawer (d := d + 77) I) (fun v h1 hq => ?_)
  obtain ⟨r, rfl, e1, I2⟩ := hq
  have J := J.co I2.co
  obtain ⟨fm, hm⟩ := J.obj
  refine Zw.room (κ' := κ) (σ' := σ + Phi ln) ?_ (by omega) (by omega)
  refine x_al2 rfl dL_law_343 ?_
  refine x_al0 rfl dL_law_344 ?_
  refine x_il3 dL_law_345 ?_
  refine x_iconst (v := nI 1) dL_law_346 rfl ?_
  refine x_iadd (nI_add _ _) dL_law_347 ?_
  refine x_scr (vp_in_nI (show i + 1 < g.2.2.2.2.1 by omega) hg) rfl dL_law_348 ?_
  refine x_al0 rfl dL_law_349 ?_
  refine x_il3 dL_law_350 ?_
  refine x_iconst (v := nI 2) dL_law_351 rfl ?_
  refine x_iadd (nI_add _ _) dL_law_352 ?_
  refine x_scr (vp_in_nI (show i + 2 < g.2.2.2.2.1 by omega) hg) rfl dL_law_353 ?_
  refine x_callV (as := [.int _, .int _]) (κ1 := 0) (κ2 := κ) (σ1 := 0) (σ2 := σ + Phi ln) mX12_drawer_ok lkL_31 rfl rfl (Nat.le_of_ble_eq_true rfl) (Nat.le_of_ble_eq_true rfl) dL_law_354 hm (by omega) (by omega) (w_drawer (d := d + 77) J) (fun v h2 hq => ?_)
  obtain ⟨r2, rfl, e2, J2⟩ := hq
  have I2 := I2.mo J J2.mo
  have e : r = r2 := e1.trans e2.symm
  refine x_icmp_eq (tgt := 1583) dL_law_357 rfl (fun _ => kk h2 _ ⟨_, _, _, _, _, _, _, _, _, _, _, _, J2, I2⟩) (fun q => absurd e q)
theorem lw_visit (hi : i + 6 ≤ g.2.2.2.2.1) (hg : g.2.2.2.2.1 < 2 ^ 31) (B : BI h ln) (kk : ∀ (h' : zH) (l2 : zLn), BI h' l2 → Zw g (d + 80) κ (σ + Phi l2) mL_law 1583 (lawL i) [] h' Q) : Zw g (d + 80) (κ + 16) (σ + 13000 + Phi ln) mL_law 362 (lawL i) [] h Q := by
  obtain ⟨h0, hh, dk, st, un, tp, tr, pi, fl, sb, sj, dr, J, I⟩ := B
  have I := I.mo J Mo.rf
  have J := J.co Co.rf
  obtain ⟨fs, hc⟩ := I.obj
  obtain ⟨n0, n6, -⟩ := I.dkB
  refine x_al1 rfl dL_law_362 ?_
  refine x_al0 rfl dL_law_363 ?_
  refine x_il3 dL_law_364 ?_
  refine x_iconst (v := nI 1) dL_law_365 rfl ?_
  refine x_iadd (nI_add _ _) dL_law_366 ?_
  refine x_scr (vp_in_nI (show i + 1 < g.2.2.2.2.1 by omega) hg) rfl dL_law_367 ?_
  refine x_al0 rfl dL_law_368 ?_
  refine x_il3 dL_law_369 ?_
  refine x_iconst (v := nI 2) dL_law_370 rfl ?_
  refine x_iadd (nI_add _ _) dL_law_371 ?_
  refine x_scr (vp_in_nI (show i + 2 < g.2.2.2.2.1 by omega) hg) rfl dL_law_372 ?_
  have ph : 0 + Phi ln ≤ Phi ln + 3610 := by omega
  refine x_callV (as := [.int _, .int _]) (κ1 := 0) (κ2 := κ) (σ1 := 0) (σ2 := σ + 13000 + Phi ln - (0)) mX11_visit_ok lkL_32 rfl rfl (Nat.le_of_ble_eq_true rfl) (Nat.le_of_ble_eq_true rfl) dL_law_373 hc (by omega) (by omega) (k_visit (d := d + 74) I) (fun v h1 hq => ?_)
  obtain ⟨r, rfl, e1, I2⟩ := hq
  have J := J.co I2.co
  obtain ⟨fm, hm⟩ := J.obj
  refine Zw.room (κ' := κ) (σ' := σ + Phi ln) ?_ (by omega) (by omega)
  refine x_al2 rfl dL_law_376 ?_
  refine x_al0 rfl dL_law_377 ?_
  refine x_il3 dL_law_378 ?_
  refine x_iconst (v := nI 1) dL_law_379 rfl ?_
  refine x_iadd (nI_add _ _) dL_law_380 ?_
  refine x_scr (vp_in_nI (show i + 1 < g.2.2.2.2.1 by omega) hg) rfl dL_law_381 ?_
  refine x_al0 rfl dL_law_382 ?_
  refine x_il3 dL_law_383 ?_
  refine x_iconst (v := nI 2) dL_law_384 rfl ?_
  refine x_iadd (nI_add _ _) dL_law_385 ?_
  refine x_scr (vp_in_nI (show i + 2 < g.2.2.2.2.1 by omega) hg) rfl dL_law_386 ?_
  refine x_callV (as := [.int _, .int _]) (κ1 := 0) (κ2 := κ) (σ1 := 0) (σ2 := σ + Phi ln) mX12_visit_ok lkL_35 rfl rfl (Nat.le_of_ble_eq_true rfl) (Nat.le_of_ble_eq_true rfl) dL_law_387 hm (by omega) (by omega) (w_visit (d := d + 74) J) (fun v h2 hq => ?_)
  obtain ⟨r2, rfl, e2, J2⟩ := hq
  have I2 := I2.mo J J2.mo
  have e : r = r2 := e1.trans e2.symm
  refine x_icmp_eq (tgt := 1583) dL_law_390 rfl (fun _ => kk h2 _ ⟨_, _, _, _, _, _, _, _, _, _, _, _, J2, I2⟩) (fun q => absurd e q)
theorem lw_opened (hi : i + 6 ≤ g.2.2.2.2.1) (hg : g.2.2.2.2.1 < 2 ^ 31) (B : BI h ln) (kk : ∀ (h' : zH) (l2 : zLn), BI h' l2 → Zw g (d + 80) κ (σ + Phi l2) mL_law 1583 (lawL i) [] h' Q) : Zw g (d + 80) (κ + 16) (σ + 13000 + Phi ln) mL_law 395 (lawL i) [] h Q := by
  obtain ⟨h0, hh, dk, st, un, tp, tr, pi, fl, sb, sj, dr, J, I⟩ := B
  have I := I.mo J Mo.rf
  have J := J.co Co.rf
  obtain ⟨fs, hc⟩ := I.obj
  obtain ⟨n0, n6, -⟩ := I.dkB
  refine x_al1 rfl dL_law_395 ?_
  refine x_al0 rfl dL_law_396 ?_
  refine x_il3 dL_law_397 ?_
  refine x_iconst (v := nI 1) dL_law_398 rfl ?_
  refine x_iadd (nI_add _ _) dL_law_399 ?_
  refine x_scr (vp_in_nI (show i + 1 < g.2.2.2.2.1 by omega) hg) rfl dL_law_400 ?_
  refine x_al0 rfl dL_law_401 ?_
  refine x_il3 dL_law_402 ?_
  refine x_iconst (v := nI 2) dL_law_403 rfl ?_
  refine x_iadd (nI_add _ _) dL_law_404 ?_
  refine x_scr (vp_in_nI (show i + 2 < g.2.2.2.2.1 by omega) hg) rfl dL_law_405 ?_
  have ph : 0 + Phi ln ≤ Phi ln + 3610 := by omega
  refine x_callV (as := [.int _, .int _]) (κ1 := 0) (κ2 := κ) (σ1 := 0) (σ2 := σ + 13000 + Phi ln - (0)) mX11_opened_ok lkL_36 rfl rfl (Nat.le_of_ble_eq_true rfl) (Nat.le_of_ble_eq_true rfl) dL_law_406 hc (by omega) (by omega) (k_opened (d := d + 74) I) (fun v h1 hq => ?_)
  obtain ⟨r, rfl, e1, I2⟩ := hq
  have J := J.co I2.co
  obtain ⟨fm, hm⟩ := J.obj
  refine Zw.room (κ' := κ) (σ' := σ + Phi ln) ?_ (by omega) (by omega)
  refine x_al2 rfl dL_law_409 ?_
  refine x_al0 rfl dL_law_410 ?_
  refine x_il3 dL_law_411 ?_
  refine x_iconst (v := nI 1) dL_law_412 rfl ?_
  refine x_iadd (nI_add _ _) dL_law_413 ?_
  refine x_scr (vp_in_nI (show i + 1 < g.2.2.2.2.1 by omega) hg) rfl dL_law_414 ?_
  refine x_al0 rfl dL_law_415 ?_
  refine x_il3 dL_law_416 ?_
  refine x_iconst (v := nI 2) dL_law_417 rfl ?_
  refine x_iadd (nI_add _ _) dL_law_418 ?_
  refine x_scr (vp_in_nI (show i + 2 < g.2.2.2.2.1 by omega) hg) rfl dL_law_419 ?_
  refine x_callV (as := [.int _, .int _]) (κ1 := 0) (κ2 := κ) (σ1 := 0) (σ2 := σ + Phi ln) mX12_opened_ok lkL_39 rfl rfl (Nat.le_of_ble_eq_true rfl) (Nat.le_of_ble_eq_true rfl) dL_law_420 hm (by omega) (by omega) (w_opened (d := d + 74) J) (fun v h2 hq => ?_)
  obtain ⟨r2, rfl, e2, J2⟩ := hq
  have I2 := I2.mo J J2.mo
  have e : r = r2 := e1.trans e2.symm
  refine x_icmp_eq (tgt := 1583) dL_law_423 rfl (fun _ => kk h2 _ ⟨_, _, _, _, _, _, _, _, _, _, _, _, J2, I2⟩) (fun q => absurd e q)
theorem lw_letOff (hi : i + 6 ≤ g.2.2.2.2.1) (hg : g.2.2.2.2.1 < 2 ^ 31) (B : BI h ln) (kk : ∀ (h' : zH) (l2 : zLn), BI h' l2 → Zw g (d + 80) κ (σ + Phi l2) mL_law 1583 (lawL i) [] h' Q) : Zw g (d + 80) (κ + 16) (σ + 13000 + Phi ln) mL_law 428 (lawL i) [] h Q := by
  obtain ⟨h0, hh, dk, st, un, tp, tr, pi, fl, sb, sj, dr, J, I⟩ := B
  have I := I.mo J Mo.rf
  have J := J.co Co.rf
  obtain ⟨fs, hc⟩ := I.obj
  obtain ⟨n0, n6, -⟩ := I.dkB
  refine x_al1 rfl dL_law_428 ?_
  have ph : 0 + Phi ln ≤ Phi ln + 3610 := by omega
  refine x_callV (as := []) (κ1 := 0) (κ2 := κ) (σ1 := 0) (σ2 := σ + 13000 + Phi ln - (0)) mX11_letOff_ok lkL_40 rfl rfl (Nat.le_of_ble_eq_true rfl) (Nat.le_of_ble_eq_true rfl) dL_law_429 hc (by omega) (by omega) (k_letOff (d := d + 73) I) (fun v h1 hq => ?_)
  obtain ⟨r, rfl, e1, I2⟩ := hq
  have J := J.co I2.co
  obtain ⟨fm, hm⟩ := J.obj
  refine Zw.room (κ' := κ) (σ' := σ + Phi ln) ?_ (by omega) (by omega)
  refine x_al2 rfl dL_law_432 ?_
  refine x_callV (as := []) (κ1 := 0) (κ2 := κ) (σ1 := 0) (σ2 := σ + Phi ln) mX12_letOff_ok lkL_44 rfl rfl (Nat.le_of_ble_eq_true rfl) (Nat.le_of_ble_eq_true rfl) dL_law_433 hm (by omega) (by omega) (w_letOff (d := d + 74) J) (fun v h2 hq => ?_)
  obtain ⟨r2, rfl, e2, J2⟩ := hq
  have I2 := I2.mo J J2.mo
  have e : r = r2 := e1.trans e2.symm
  refine x_icmp_eq (tgt := 1583) dL_law_436 rfl (fun _ => kk h2 _ ⟨_, _, _, _, _, _, _, _, _, _, _, _, J2, I2⟩) (fun q => absurd e q)
theorem lw_swap (hi : i + 6 ≤ g.2.2.2.2.1) (hg : g.2.2.2.2.1 < 2 ^ 31) (B : BI h ln) (kk : ∀ (h' : zH) (l2 : zLn), BI h' l2 → Zw g (d + 80) κ (σ + Phi l2) mL_law 1583 (lawL i) [] h' Q) : Zw g (d + 80) (κ + 16) (σ + 13000 + Phi ln) mL_law 441 (lawL i) [] h Q := by
  obtain ⟨h0, hh, dk, st, un, tp, tr, pi, fl, sb, sj, dr, J, I⟩ := B
  have I := I.mo J Mo.rf
  have J := J.co Co.rf
  obtain ⟨fs, hc⟩ := I.obj
  obtain ⟨n0, n6, -⟩ := I.dkB
  refine x_al1 rfl dL_law_441 ?_
  refine x_al0 rfl dL_law_442 ?_
  refine x_il3 dL_law_443 ?_
  refine x_iconst (v := nI 1) dL_law_444 rfl ?_
  refine x_iadd (nI_add _ _) dL_law_445 ?_
  refine x_scr (vp_in_nI (show i + 1 < g.2.2.2.2.1 by omega) hg) rfl dL_law_446 ?_
  refine x_al0 rfl dL_law_447 ?_
  refine x_il3 dL_law_448 ?_
  refine x_iconst (v := nI 2) dL_law_449 rfl ?_
  refine x_iadd (nI_add _ _) dL_law_450 ?_
  refine x_scr (vp_in_nI (show i + 2 < g.2.2.2.2.1 by omega) hg) rfl dL_law_451 ?_
  have ph : 0 + Phi ln ≤ Phi ln + 3610 := by omega
  refine x_callV (as := [.int _, .int _]) (κ1 := 0) (κ2 := κ) (σ1 := 0) (σ2 := σ + 13000 + Phi ln - (0)) mX11_swap_ok lkL_45 rfl rfl (Nat.le_of_ble_eq_true rfl) (Nat.le_of_ble_eq_true rfl) dL_law_452 hc (by omega) (by omega) (k_swap (d := d + 72) I) (fun v h1 hq => ?_)
  obtain ⟨r, rfl, e1, I2⟩ := hq
  have J := J.co I2.co
  obtain ⟨fm, hm⟩ := J.obj
  refine Zw.room (κ' := κ) (σ' := σ + Phi ln) ?_ (by omega) (by omega)
  refine x_al2 rfl dL_law_455 ?_
  refine x_al0 rfl dL_law_456 ?_
  refine x_il3 dL_law_457 ?_
  refine x_iconst (v := nI 1) dL_law_458 rfl ?_
  refine x_iadd (nI_add _ _) dL_law_459 ?_
  refine x_scr (vp_in_nI (show i + 1 < g.2.2.2.2.1 by omega) hg) rfl dL_law_460 ?_
  refine x_al0 rfl dL_law_461 ?_
  refine x_il3 dL_law_462 ?_
  refine x_iconst (v := nI 2) dL_law_463 rfl ?_
  refine x_iadd (nI_add _ _) dL_law_464 ?_
  refine x_scr (vp_in_nI (show i + 2 < g.2.2.2.2.1 by omega) hg) rfl dL_law_465 ?_
  refine x_callV (as := [.int _, .int _]) (κ1 := 0) (κ2 := κ) (σ1 := 0) (σ2 := σ + Phi ln) mX12_swap_ok lkL_48 rfl rfl (Nat.le_of_ble_eq_true rfl) (Nat.le_of_ble_eq_true rfl) dL_law_466 hm (by omega) (by omega) (w_swap (d := d + 74) J) (fun v h2 hq => ?_)
  obtain ⟨r2, rfl, e2, J2⟩ := hq
  have I2 := I2.mo J J2.mo
  have e : r = r2 := e1.trans e2.symm
  refine x_icmp_eq (tgt := 1583) dL_law_469 rfl (fun _ => kk h2 _ ⟨_, _, _, _, _, _, _, _, _, _, _, _, J2, I2⟩) (fun q => absurd e q)
theorem lw_nights (hi : i + 6 ≤ g.2.2.2.2.1) (hg : g.2.2.2.2.1 < 2 ^ 31) (B : BI h ln) (kk : ∀ (h' : zH) (l2 : zLn), BI h' l2 → Zw g (d + 80) κ (σ + Phi l2) mL_law 1583 (lawL i) [] h' Q) : Zw g (d + 80) (κ + 16) (σ + 13000 + Phi ln) mL_law 474 (lawL i) [] h Q := by
  obtain ⟨h0, hh, dk, st, un, tp, tr, pi, fl, sb, sj, dr, J, I⟩ := B
  have I := I.mo J Mo.rf
  have J := J.co Co.rf
  obtain ⟨fs, hc⟩ := I.obj
  obtain ⟨n0, n6, -⟩ := I.dkB
  refine x_al1 rfl dL_law_474 ?_
  refine x_al0 rfl dL_law_475 ?_
  refine x_il3 dL_law_476 ?_
  refine x_iconst (v := nI 1) dL_law_477 rfl ?_
  refine x_iadd (nI_add _ _) dL_law_478 ?_
  refine x_scr (vp_in_nI (show i + 1 < g.2.2.2.2.1 by omega) hg) rfl dL_law_479 ?_
  have ph : 0 + Phi ln ≤ Phi ln + 3610 := by omega
  refine x_callV (as := [.int _]) (κ1 := 0) (κ2 := κ) (σ1 := 0) (σ2 := σ + 13000 + Phi ln - (0)) mX11_nights_ok lkL_49 rfl rfl (Nat.le_of_ble_eq_true rfl) (Nat.le_of_ble_eq_true rfl) dL_law_480 hc (by omega) (by omega) (k_nights (d := d + 72) I) (fun v h1 hq => ?_)
  obtain ⟨r, rfl, e1, I2⟩ := hq
  have J := J.co I2.co
  obtain ⟨fm, hm⟩ := J.obj
  refine Zw.room (κ' := κ) (σ' := σ + Phi ln) ?_ (by omega) (by omega)
  refine x_al2 rfl dL_law_483 ?_
  refine x_al0 rfl dL_law_484 ?_
  refine x_il3 dL_law_485 ?_
  refine x_iconst (v := nI 1) dL_law_486 rfl ?_
  refine x_iadd (nI_add _ _) dL_law_487 ?_
  refine x_scr (vp_in_nI (show i + 1 < g.2.2.2.2.1 by omega) hg) rfl dL_law_488 ?_
  refine x_callV (as := [.int _]) (κ1 := 0) (κ2 := κ) (σ1 := 0) (σ2 := σ + Phi ln) mX12_nights_ok lkL_52 rfl rfl (Nat.le_of_ble_eq_true rfl) (Nat.le_of_ble_eq_true rfl) dL_law_489 hm (by omega) (by omega) (w_nights (d := d + 74) J) (fun v h2 hq => ?_)
  obtain ⟨r2, rfl, e2, J2⟩ := hq
  have I2 := I2.mo J J2.mo
  have e : r = r2 := e1.trans e2.symm
  refine x_icmp_eq (tgt := 1583) dL_law_492 rfl (fun _ => kk h2 _ ⟨_, _, _, _, _, _, _, _, _, _, _, _, J2, I2⟩) (fun q => absurd e q)
theorem lw_clue (hi : i + 6 ≤ g.2.2.2.2.1) (hg : g.2.2.2.2.1 < 2 ^ 31) (B : BI h ln) (kk : ∀ (h' : zH) (l2 : zLn), BI h' l2 → Zw g (d + 80) κ (σ + Phi l2) mL_law 1583 (lawL i) [] h' Q) : Zw g (d + 80) (κ + 16) (σ + 13000 + Phi ln) mL_law 497 (lawL i) [] h Q := by
  obtain ⟨h0, hh, dk, st, un, tp, tr, pi, fl, sb, sj, dr, J, I⟩ := B
  have I := I.mo J Mo.rf
  have J := J.co Co.rf
  obtain ⟨fs, hc⟩ := I.obj
  obtain ⟨n0, n6, -⟩ := I.dkB
  refine x_al1 rfl dL_law_497 ?_
  refine x_al0 rfl dL_law_498 ?_
  refine x_il3 dL_law_499 ?_
  refine x_iconst (v := nI 1) dL_law_500 rfl ?_
  refine x_iadd (nI_add _ _) dL_law_501 ?_
  refine x_scr (vp_in_nI (show i + 1 < g.2.2.2.2.1 by omega) hg) rfl dL_law_502 ?_
  have ph : 0 + Phi ln ≤ Phi ln + 3610 := by omega
  refine x_callV (as := [.int _]) (κ1 := 0) (κ2 := κ) (σ1 := 0) (σ2 := σ + 13000 + Phi ln - (0)) mX11_clue_ok lkL_53 rfl rfl (Nat.le_of_ble_eq_true rfl) (Nat.le_of_ble_eq_true rfl) dL_law_503 hc (by omega) (by omega) (k_clue (d := d + 72) I) (fun v h1 hq => ?_)
  obtain ⟨r, rfl, e1, I2⟩ := hq
  have J := J.co I2.co
  obtain ⟨fm, hm⟩ := J.obj
  refine Zw.room (κ' := κ) (σ' := σ + Phi ln) ?_ (by omega) (by omega)
  refine x_al2 rfl dL_law_506 ?_
  refine x_al0 rfl dL_law_507 ?_
  refine x_il3 dL_law_508 ?_
  refine x_iconst (v := nI 1) dL_law_509 rfl ?_
  refine x_iadd (nI_add _ _) dL_law_510 ?_
  refine x_scr (vp_in_nI (show i + 1 < g.2.2.2.2.1 by omega) hg) rfl dL_law_511 ?_
  refine x_callV (as := [.int _]) (κ1 := 0) (κ2 := κ) (σ1 := 0) (σ2 := σ + Phi ln) mX12_clue_ok lkL_56 rfl rfl (Nat.le_of_ble_eq_true rfl) (Nat.le_of_ble_eq_true rfl) dL_law_512 hm (by omega) (by omega) (w_clue (d := d + 74) J) (fun v h2 hq => ?_)
  obtain ⟨r2, rfl, e2, J2⟩ := hq
  have I2 := I2.mo J J2.mo
  have e : r = r2 := e1.trans e2.symm
  refine x_icmp_eq (tgt := 1583) dL_law_515 rfl (fun _ => kk h2 _ ⟨_, _, _, _, _, _, _, _, _, _, _, _, J2, I2⟩) (fun q => absurd e q)
theorem lw_undo (hi : i + 6 ≤ g.2.2.2.2.1) (hg : g.2.2.2.2.1 < 2 ^ 31) (B : BI h ln) (kk : ∀ (h' : zH) (l2 : zLn), BI h' l2 → Zw g (d + 80) κ (σ + Phi l2) mL_law 1583 (lawL i) [] h' Q) : Zw g (d + 80) (κ + 16) (σ + 13000 + Phi ln) mL_law 520 (lawL i) [] h Q := by
  obtain ⟨h0, hh, dk, st, un, tp, tr, pi, fl, sb, sj, dr, J, I⟩ := B
  have I := I.mo J Mo.rf
  have J := J.co Co.rf
  obtain ⟨fs, hc⟩ := I.obj
  obtain ⟨n0, n6, -⟩ := I.dkB
  refine x_al1 rfl dL_law_520 ?_
  refine x_al0 rfl dL_law_521 ?_
  refine x_il3 dL_law_522 ?_
  refine x_iconst (v := nI 1) dL_law_523 rfl ?_
  refine x_iadd (nI_add _ _) dL_law_524 ?_
  refine x_scr (vp_in_nI (show i + 1 < g.2.2.2.2.1 by omega) hg) rfl dL_law_525 ?_
  have ph : 0 + Phi ln ≤ Phi ln + 3610 := by omega
  refine x_callV (as := [.int _]) (κ1 := 0) (κ2 := κ) (σ1 := 0) (σ2 := σ + 13000 + Phi ln - (0)) mX11_undo_ok lkL_57 rfl rfl (Nat.le_of_ble_eq_true rfl) (Nat.le_of_ble_eq_true rfl) dL_law_526 hc (by omega) (by omega) (k_undo (d := d + 72) I) (fun v h1 hq => ?_)
  obtain ⟨r, rfl, e1, I2⟩ := hq
  have J := J.co I2.co
  obtain ⟨fm, hm⟩ := J.obj
  refine Zw.room (κ' := κ) (σ' := σ + Phi ln) ?_ (by omega) (by omega)
  refine x_al2 rfl dL_law_529 ?_
  refine x_al0 rfl dL_law_530 ?_
  refine x_il3 dL_law_531 ?_
  refine x_iconst (v := nI 1) dL_law_532 rfl ?_
  refine x_iadd (nI_add _ _) dL_law_533 ?_
  refine x_scr (vp_in_nI (show i + 1 < g.2.2.2.2.1 by omega) hg) rfl dL_law_534 ?_
  refine x_callV (as := [.int _]) (κ1 := 0) (κ2 := κ) (σ1 := 0) (σ2 := σ + Phi ln) mX12_undo_ok lkL_60 rfl rfl (Nat.le_of_ble_eq_true rfl) (Nat.le_of_ble_eq_true rfl) dL_law_535 hm (by omega) (by omega) (w_undo (d := d + 74) J) (fun v h2 hq => ?_)
  obtain ⟨r2, rfl, e2, J2⟩ := hq
  have I2 := I2.mo J J2.mo
  have e : r = r2 := e1.trans e2.symm
  refine x_icmp_eq (tgt := 1583) dL_law_538 rfl (fun _ => kk h2 _ ⟨_, _, _, _, _, _, _, _, _, _, _, _, J2, I2⟩) (fun q => absurd e q)
theorem lw_judge (hi : i + 6 ≤ g.2.2.2.2.1) (hg : g.2.2.2.2.1 < 2 ^ 31) (B : BI h ln) (kk : ∀ (h' : zH) (l2 : zLn), BI h' l2 → Zw g (d + 80) κ (σ + Phi l2) mL_law 1583 (lawL i) [] h' Q) : Zw g (d + 80) (κ + 16) (σ + 13000 + Phi ln) mL_law 543 (lawL i) [] h Q := by
  obtain ⟨h0, hh, dk, st, un, tp, tr, pi, fl, sb, sj, dr, J, I⟩ := B
  have I := I.mo J Mo.rf
  have J := J.co Co.rf
  obtain ⟨fs, hc⟩ := I.obj
  obtain ⟨n0, n6, -⟩ := I.dkB
  refine x_al1 rfl dL_law_543 ?_
  refine x_al0 rfl dL_law_544 ?_
  refine x_il3 dL_law_545 ?_
  refine x_iconst (v := nI 1) dL_law_546 rfl ?_
  refine x_iadd (nI_add _ _) dL_law_547 ?_
  refine x_scr (vp_in_nI (show i + 1 < g.2.2.2.2.1 by omega) hg) rfl dL_law_548 ?_
  refine x_al0 rfl dL_law_549 ?_
  refine x_il3 dL_law_550 ?_
  refine x_iconst (v := nI 2) dL_law_551 rfl ?_
  refine x_iadd (nI_add _ _) dL_law_552 ?_
  refine x_scr (vp_in_nI (show i + 2 < g.2.2.2.2.1 by omega) hg) rfl dL_law_553 ?_
  have ph : 0 + Phi ln ≤ Phi ln + 3610 := by omega
  refine x_callV (as := [.int _, .int _]) (κ1 := 0) (κ2 := κ) (σ1 := 0) (σ2 := σ + 13000 + Phi ln - (0)) mX11_judge_ok lkL_61 rfl rfl (Nat.le_of_ble_eq_true rfl) (Nat.le_of_ble_eq_true rfl) dL_law_554 hc (by omega) (by omega) (k_judge (d := d + 73) I) (fun v h1 hq => ?_)
  obtain ⟨r, rfl, e1, sx, I2⟩ := hq
  have J := J.co I2.co
  obtain ⟨fm, hm⟩ := J.obj
  refine Zw.room (κ' := κ) (σ' := σ + Phi ln) ?_ (by omega) (by omega)
  refine x_al2 rfl dL_law_557 ?_
  refine x_al0 rfl dL_law_558 ?_
  refine x_il3 dL_law_559 ?_
  refine x_iconst (v := nI 1) dL_law_560 rfl ?_
  refine x_iadd (nI_add _ _) dL_law_561 ?_
  refine x_scr (vp_in_nI (show i + 1 < g.2.2.2.2.1 by omega) hg) rfl dL_law_562 ?_
  refine x_al0 rfl dL_law_563 ?_
  refine x_il3 dL_law_564 ?_
  refine x_iconst (v := nI 2) dL_law_565 rfl ?_
  refine x_iadd (nI_add _ _) dL_law_566 ?_
  refine x_scr (vp_in_nI (show i + 2 < g.2.2.2.2.1 by omega) hg) rfl dL_law_567 ?_
  refine x_callV (as := [.int _, .int _]) (κ1 := 0) (κ2 := κ) (σ1 := 0) (σ2 := σ + Phi ln) mX12_judge_ok lkL_64 rfl rfl (Nat.le_of_ble_eq_true rfl) (Nat.le_of_ble_eq_true rfl) dL_law_568 hm (by omega) (by omega) (w_judge (d := d + 73) J) (fun v h2 hq => ?_)
  obtain ⟨r2, rfl, e2, J2⟩ := hq
  have I2 := I2.mo J J2.mo
  have e : r = r2 := e1.trans e2.symm
  refine x_icmp_eq (tgt := 1583) dL_law_571 rfl (fun _ => kk h2 _ ⟨_, _, _, _, _, _, _, _, _, _, _, _, J2, I2⟩) (fun q => absurd e q)
theorem lw_perform (hi : i + 6 ≤ g.2.2.2.2.1) (hg : g.2.2.2.2.1 < 2 ^ 31) (B : BI h ln) (kk : ∀ (h' : zH) (l2 : zLn), BI h' l2 → Zw g (d + 80) κ (σ + Phi l2) mL_law 1583 (lawL i) [] h' Q) : Zw g (d + 80) (κ + 16) (σ + 13000 + Phi ln) mL_law 576 (lawL i) [] h Q := by
  obtain ⟨h0, hh, dk, st, un, tp, tr, pi, fl, sb, sj, dr, J, I⟩ := B
  have I := I.mo J Mo.rf
  have J := J.co Co.rf
  obtain ⟨fs, hc⟩ := I.obj
  obtain ⟨n0, n6, -⟩ := I.dkB
  refine x_al1 rfl dL_law_576 ?_
  refine x_al0 rfl dL_law_577 ?_
  refine x_il3 dL_law_578 ?_
  refine x_iconst (v := nI 1) dL_law_579 rfl ?_
  refine x_iadd (nI_add _ _) dL_law_580 ?_
  refine x_scr (vp_in_nI (show i + 1 < g.2.2.2.2.1 by omega) hg) rfl dL_law_581 ?_
  have ph : 0 + Phi ln ≤ Phi ln + 3610 := by omega
  refine x_callV (as := [.int _]) (κ1 := 0) (κ2 := κ) (σ1 := 0) (σ2 := σ + 13000 + Phi ln - (0)) mX11_perform_ok lkL_65 rfl rfl (Nat.le_of_ble_eq_true rfl) (Nat.le_of_ble_eq_true rfl) dL_law_582 hc (by omega) (by omega) (k_perform (d := d + 73) I) (fun v h1 hq => ?_)
  obtain ⟨r, rfl, e1, sx, I2⟩ := hq
  have J := J.co I2.co
  obtain ⟨fm, hm⟩ := J.obj
  refine Zw.room (κ' := κ) (σ' := σ + Phi ln) ?_ (by omega) (by omega)
  refine x_al2 rfl dL_law_585 ?_
  refine x_al0 rfl dL_law_586 ?_
  refine x_il3 dL_law_587 ?_
  refine x_iconst (v := nI 1) dL_law_588 rfl ?_
  refine x_iadd (nI_add _ _) dL_law_589 ?_
  refine x_scr (vp_in_nI (show i + 1 < g.2.2.2.2.1 by omega) hg) rfl dL_law_590 ?_
  refine x_callV (as := [.int _]) (κ1 := 0) (κ2 := κ) (σ1 := 0) (σ2 := σ + Phi ln) mX12_perform_ok lkL_68 rfl rfl (Nat.le_of_ble_eq_true rfl) (Nat.le_of_ble_eq_true rfl) dL_law_591 hm (by omega) (by omega) (w_perform (d := d + 73) J) (fun v h2 hq => ?_)
  obtain ⟨r2, rfl, e2, J2⟩ := hq
  have I2 := I2.mo J J2.mo
  have e : r = r2 := e1.trans e2.symm
  refine x_icmp_eq (tgt := 1583) dL_law_594 rfl (fun _ => kk h2 _ ⟨_, _, _, _, _, _, _, _, _, _, _, _, J2, I2⟩) (fun q => absurd e q)
theorem lw_year (hi : i + 6 ≤ g.2.2.2.2.1) (hg : g.2.2.2.2.1 < 2 ^ 31) (B : BI h ln) (kk : ∀ (h' : zH) (l2 : zLn), BI h' l2 → Zw g (d + 80) κ (σ + Phi l2) mL_law 1583 (lawL i) [] h' Q) : Zw g (d + 80) (κ + 16) (σ + 13000 + Phi ln) mL_law 599 (lawL i) [] h Q := by
  obtain ⟨h0, hh, dk, st, un, tp, tr, pi, fl, sb, sj, dr, J, I⟩ := B
  have I := I.mo J Mo.rf
  have J := J.co Co.rf
  obtain ⟨fs, hc⟩ := I.obj
  obtain ⟨n0, n6, -⟩ := I.dkB
  refine x_al1 rfl dL_law_599 ?_
  refine x_al0 rfl dL_law_600 ?_
  refine x_il3 dL_law_601 ?_
  refine x_iconst (v := nI 1) dL_law_602 rfl ?_
  refine x_iadd (nI_add _ _) dL_law_603 ?_
  refine x_scr (vp_in_nI (show i + 1 < g.2.2.2.2.1 by omega) hg) rfl dL_law_604 ?_
  refine x_al0 rfl dL_law_605 ?_
  refine x_il3 dL_law_606 ?_
  refine x_iconst (v := nI 2) dL_law_607 rfl ?_
  refine x_iadd (nI_add _ _) dL_law_608 ?_
  refine x_scr (vp_in_nI (show i + 2 < g.2.2.2.2.1 by omega) hg) rfl dL_law_609 ?_
  have ph : 0 + Phi ln ≤ Phi ln + 3610 := by omega
  refine x_callV (as := [.int _, .int _]) (κ1 := 0) (κ2 := κ) (σ1 := 0) (σ2 := σ + 13000 + Phi ln - (0)) mX11_year_ok lkL_69 rfl rfl (Nat.le_of_ble_eq_true rfl) (Nat.le_of_ble_eq_true rfl) dL_law_610 hc (by omega) (by omega) (k_year (d := d + 73) I) (fun v h1 hq => ?_)
  obtain ⟨r, rfl, e1, sx, dx, I2⟩ := hq
  have J := J.co I2.co
  obtain ⟨fm, hm⟩ := J.obj
  refine Zw.room (κ' := κ) (σ' := σ + Phi ln) ?_ (by omega) (by omega)
  refine x_al2 rfl dL_law_613 ?_
  refine x_al0 rfl dL_law_614 ?_
  refine x_il3 dL_law_615 ?_
  refine x_iconst (v := nI 1) dL_law_616 rfl ?_
  refine x_iadd (nI_add _ _) dL_law_617 ?_
  refine x_scr (vp_in_nI (show i + 1 < g.2.2.2.2.1 by omega) hg) rfl dL_law_618 ?_
  refine x_al0 rfl dL_law_619 ?_
  refine x_il3 dL_law_620 ?_
  refine x_iconst (v := nI 2) dL_law_621 rfl ?_
  refine x_iadd (nI_add _ _) dL_law_622 ?_
  refine x_scr (vp_in_nI (show i + 2 < g.2.2.2.2.1 by omega) hg) rfl dL_law_623 ?_
  refine x_callV (as := [.int _, .int _]) (κ1 := 0) (κ2 := κ) (σ1 := 0) (σ2 := σ + Phi ln) mX12_year_ok lkL_72 rfl rfl (Nat.le_of_ble_eq_true rfl) (Nat.le_of_ble_eq_true rfl) dL_law_624 hm (by omega) (by omega) (w_year (d := d + 73) J) (fun v h2 hq => ?_)
  obtain ⟨r2, rfl, e2, J2⟩ := hq
  have I2 := I2.mo J J2.mo
  have e : r = r2 := e1.trans e2.symm
  refine x_icmp_eq (tgt := 1583) dL_law_627 rfl (fun _ => kk h2 _ ⟨_, _, _, _, _, _, _, _, _, _, _, _, J2, I2⟩) (fun q => absurd e q)
theorem lw_lies (hi : i + 6 ≤ g.2.2.2.2.1) (hg : g.2.2.2.2.1 < 2 ^ 31) (B : BI h ln) (kk : ∀ (h' : zH) (l2 : zLn), BI h' l2 → Zw g (d + 80) κ (σ + Phi l2) mL_law 1583 (lawL i) [] h' Q) : Zw g (d + 80) (κ + 16) (σ + 13000 + Phi ln) mL_law 632 (lawL i) [] h Q := by
  obtain ⟨h0, hh, dk, st, un, tp, tr, pi, fl, sb, sj, dr, J, I⟩ := B
  have I := I.mo J Mo.rf
  have J := J.co Co.rf
  obtain ⟨fs, hc⟩ := I.obj
  obtain ⟨n0, n6, -⟩ := I.dkB
  refine x_al1 rfl dL_law_632 ?_
  refine x_al0 rfl dL_law_633 ?_
  refine x_il3 dL_law_634 ?_
  refine x_iconst (v := nI 1) dL_law_635 rfl ?_
  refine x_iadd (nI_add _ _) dL_law_636 ?_
  refine x_scr (vp_in_nI (show i + 1 < g.2.2.2.2.1 by omega) hg) rfl dL_law_637 ?_
  have ph : 0 + Phi ln ≤ Phi ln + 3610 := by omega
  refine x_callV (as := [.int _]) (κ1 := 0) (κ2 := κ) (σ1 := 0) (σ2 := σ + 13000 + Phi ln - (0)) mX11_lies_ok lkL_73 rfl rfl (Nat.le_of_ble_eq_true rfl) (Nat.le_of_ble_eq_true rfl) dL_law_638 hc (by omega) (by omega) (k_lies (d := d + 74) I) (fun v h1 hq => ?_)
  obtain ⟨r, rfl, e1, I2⟩ := hq
  have J := J.co I2.co
  obtain ⟨fm, hm⟩ := J.obj
  refine Zw.room (κ' := κ) (σ' := σ + Phi ln) ?_ (by omega) (by omega)
  refine x_al2 rfl dL_law_641 ?_
  refine x_al0 rfl dL_law_642 ?_
  refine x_il3 dL_law_643 ?_
  refine x_iconst (v := nI 1) dL_law_644 rfl ?_
  refine x_iadd (nI_add _ _) dL_law_645 ?_
  refine x_scr (vp_in_nI (show i + 1 < g.2.2.2.2.1 by omega) hg) rfl dL_law_646 ?_
  refine x_callV (as := [.int _]) (κ1 := 0) (κ2 := κ) (σ1 := 0) (σ2 := σ + Phi ln) mX12_lies_ok lkL_76 rfl rfl (Nat.le_of_ble_eq_true rfl) (Nat.le_of_ble_eq_true rfl) dL_law_647 hm (by omega) (by omega) (w_lies (d := d + 70) J) (fun v h2 hq => ?_)
  obtain ⟨r2, rfl, e2, J2⟩ := hq
  have I2 := I2.mo J J2.mo
  have e : r = r2 := e1.trans e2.symm
  refine x_icmp_eq (tgt := 1583) dL_law_650 rfl (fun _ => kk h2 _ ⟨_, _, _, _, _, _, _, _, _, _, _, _, J2, I2⟩) (fun q => absurd e q)
theorem lw_round (hi : i + 6 ≤ g.2.2.2.2.1) (hg : g.2.2.2.2.1 < 2 ^ 31) (B : BI h ln) (kk : ∀ (h' : zH) (l2 : zLn), BI h' l2 → Zw g (d + 80) κ (σ + Phi l2) mL_law 1583 (lawL i) [] h' Q) : Zw g (d + 80) (κ + 16) (σ + 13000 + Phi ln) mL_law 655 (lawL i) [] h Q := by
  obtain ⟨h0, hh, dk, st, un, tp, tr, pi, fl, sb, sj, dr, J, I⟩ := B
  have I := I.mo J Mo.rf
  have J := J.co Co.rf
  obtain ⟨fs, hc⟩ := I.obj
  obtain ⟨n0, n6, -⟩ := I.dkB
  refine x_al1 rfl dL_law_655 ?_
  refine x_al0 rfl dL_law_656 ?_
  refine x_il3 dL_law_657 ?_
  refine x_iconst (v := nI 1) dL_law_658 rfl ?_
  refine x_iadd (nI_add _ _) dL_law_659 ?_
  refine x_scr (vp_in_nI (show i + 1 < g.2.2.2.2.1 by omega) hg) rfl dL_law_660 ?_
  refine x_al0 rfl dL_law_661 ?_
  refine x_il3 dL_law_662 ?_
  refine x_iconst (v := nI 2) dL_law_663 rfl ?_
  refine x_iadd (nI_add _ _) dL_law_664 ?_
  refine x_scr (vp_in_nI (show i + 2 < g.2.2.2.2.1 by omega) hg) rfl dL_law_665 ?_
  have ph : 0 + Phi ln ≤ Phi ln + 3610 := by omega
  refine x_callV (as := [.int _, .int _]) (κ1 := 0) (κ2 := κ) (σ1 := 0) (σ2 := σ + 13000 + Phi ln - (0)) mX11_round_ok lkL_77 rfl rfl (Nat.le_of_ble_eq_true rfl) (Nat.le_of_ble_eq_true rfl) dL_law_666 hc (by omega) (by omega) (k_round (d := d + 76) I) (fun v h1 hq => ?_)
  obtain ⟨r, rfl, e1, I2⟩ := hq
  have J := J.co I2.co
  obtain ⟨fm, hm⟩ := J.obj
  refine Zw.room (κ' := κ) (σ' := σ + Phi ln) ?_ (by omega) (by omega)
  refine x_al2 rfl dL_law_669 ?_
  refine x_al0 rfl dL_law_670 ?_
  refine x_il3 dL_law_671 ?_
  refine x_iconst (v := nI 1) dL_law_672 rfl ?_
  refine x_iadd (nI_add _ _) dL_law_673 ?_
  refine x_scr (vp_in_nI (show i + 1 < g.2.2.2.2.1 by omega) hg) rfl dL_law_674 ?_
  refine x_al0 rfl dL_law_675 ?_
  refine x_il3 dL_law_676 ?_
  refine x_iconst (v := nI 2) dL_law_677 rfl ?_
  refine x_iadd (nI_add _ _) dL_law_678 ?_
  refine x_scr (vp_in_nI (show i + 2 < g.2.2.2.2.1 by omega) hg) rfl dL_law_679 ?_
  refine x_callV (as := [.int _, .int _]) (κ1 := 0) (κ2 := κ) (σ1 := 0) (σ2 := σ + Phi ln) mX12_round_ok lkL_80 rfl rfl (Nat.le_of_ble_eq_true rfl) (Nat.le_of_ble_eq_true rfl) dL_law_680 hm (by omega) (by omega) (w_round (d := d + 76) J) (fun v h2 hq => ?_)
  obtain ⟨r2, rfl, e2, J2⟩ := hq
  have I2 := I2.mo J J2.mo
  have e : r = r2 := e1.trans e2.symm
  refine x_icmp_eq (tgt := 1583) dL_law_683 rfl (fun _ => kk h2 _ ⟨_, _, _, _, _, _, _, _, _, _, _, _, J2, I2⟩) (fun q => absurd e q)
theorem lw_power (hi : i + 6 ≤ g.2.2.2.2.1) (hg : g.2.2.2.2.1 < 2 ^ 31) (B : BI h ln) (kk : ∀ (h' : zH) (l2 : zLn), BI h' l2 → Zw g (d + 80) κ (σ + Phi l2) mL_law 1583 (lawL i) [] h' Q) : Zw g (d + 80) (κ + 16) (σ + 13000 + Phi ln) mL_law 688 (lawL i) [] h Q := by
  obtain ⟨h0, hh, dk, st, un, tp, tr, pi, fl, sb, sj, dr, J, I⟩ := B
  have I := I.mo J Mo.rf
  have J := J.co Co.rf
  obtain ⟨fs, hc⟩ := I.obj
  obtain ⟨n0, n6, -⟩ := I.dkB
  refine x_al1 rfl dL_law_688 ?_
  refine x_al0 rfl dL_law_689 ?_
  refine x_il3 dL_law_690 ?_
  refine x_iconst (v := nI 1) dL_law_691 rfl ?_
  refine x_iadd (nI_add _ _) dL_law_692 ?_
  refine x_scr (vp_in_nI (show i + 1 < g.2.2.2.2.1 by omega) hg) rfl dL_law_693 ?_
  refine x_i2l rfl dL_law_694 ?_
  refine x_bipush (v := nI 32) dL_law_695 rfl ?_
  refine x_lshl rfl dL_law_697 ?_
  refine x_al0 rfl dL_law_698 ?_
  refine x_il3 dL_law_699 ?_
  refine x_iconst (v := nI 2) dL_law_700 rfl ?_
  refine x_iadd (nI_add _ _) dL_law_701 ?_
  refine x_scr (vp_in_nI (show i + 2 < g.2.2.2.2.1 by omega) hg) rfl dL_law_702 ?_
  refine x_i2l rfl dL_law_703 ?_
  refine x_ldc2 kcL_81 dL_law_704 ?_
  refine x_land rfl dL_law_707 ?_
  refine x_lor rfl dL_law_708 ?_
  have ph : 0 + Phi ln ≤ Phi ln + 3610 := by omega
  refine x_callV (as := [.long _]) (κ1 := 0) (κ2 := κ) (σ1 := 0) (σ2 := σ + 13000 + Phi ln - (0)) mX11_power_ok lkL_83 rfl rfl (Nat.le_of_ble_eq_true rfl) (Nat.le_of_ble_eq_true rfl) dL_law_709 hc (by omega) (by omega) (k_power (d := d + 76) I) (fun v h1 hq => ?_)
  obtain ⟨r, rfl, e1, I2⟩ := hq
  have J := J.co I2.co
  obtain ⟨fm, hm⟩ := J.obj
  refine Zw.room (κ' := κ) (σ' := σ + Phi ln) ?_ (by omega) (by omega)
  refine x_al2 rfl dL_law_712 ?_
  refine x_al0 rfl dL_law_713 ?_
  refine x_il3 dL_law_714 ?_
  refine x_iconst (v := nI 1) dL_law_715 rfl ?_
  refine x_iadd (nI_add _ _) dL_law_716 ?_
  refine x_scr (vp_in_nI (show i + 1 < g.2.2.2.2.1 by omega) hg) rfl dL_law_717 ?_
  refine x_i2l rfl dL_law_718 ?_
  refine x_bipush (v := nI 32) dL_law_719 rfl ?_
  refine x_lshl rfl dL_law_721 ?_
  refine x_al0 rfl dL_law_722 ?_
  refine x_il3 dL_law_723 ?_
  refine x_iconst (v := nI 2) dL_law_724 rfl ?_
  refine x_iadd (nI_add _ _) dL_law_725 ?_
  refine x_scr (vp_in_nI (show i + 2 < g.2.2.2.2.1 by omega) hg) rfl dL_law_726 ?_
  refine x_i2l rfl dL_law_727 ?_
  refine x_ldc2 kcL_81 dL_law_728 ?_
  refine x_land rfl dL_law_731 ?_
  refine x_lor rfl dL_law_732 ?_
  refine x_callV (as := [.long _]) (κ1 := 0) (κ2 := κ) (σ1 := 0) (σ2 := σ + Phi ln) mX12_power_ok lkL_87 rfl rfl (Nat.le_of_ble_eq_true rfl) (Nat.le_of_ble_eq_true rfl) dL_law_733 hm (by omega) (by omega) (w_power (d := d + 70) J) (fun v h2 hq => ?_)
  obtain ⟨r2, rfl, e2, J2⟩ := hq
  have I2 := I2.mo J J2.mo
  have e : r = r2 := e1.trans e2.symm
  refine x_icmp_eq (tgt := 1583) dL_law_736 rfl (fun _ => kk h2 _ ⟨_, _, _, _, _, _, _, _, _, _, _, _, J2, I2⟩) (fun q => absurd e q)
theorem lw_roots (hi : i + 6 ≤ g.2.2.2.2.1) (hg : g.2.2.2.2.1 < 2 ^ 31) (B : BI h ln) (kk : ∀ (h' : zH) (l2 : zLn), BI h' l2 → Zw g (d + 80) κ (σ + Phi l2) mL_law 1583 (lawL i) [] h' Q) : Zw g (d + 80) (κ + 16) (σ + 13000 + Phi ln) mL_law 741 (lawL i) [] h Q := by
  obtain ⟨h0, hh, dk, st, un, tp, tr, pi, fl, sb, sj, dr, J, I⟩ := B
  have I := I.mo J Mo.rf
  have J := J.co Co.rf
  obtain ⟨fs, hc⟩ := I.obj
  obtain ⟨n0, n6, -⟩ := I.dkB
  refine x_al1 rfl dL_law_741 ?_
  refine x_al0 rfl dL_law_742 ?_
  refine x_il3 dL_law_743 ?_
  refine x_iconst (v := nI 1) dL_law_744 rfl ?_
  refine x_iadd (nI_add _ _) dL_law_745 ?_
  refine x_scr (vp_in_nI (show i + 1 < g.2.2.2.2.1 by omega) hg) rfl dL_law_746 ?_
  have ph : 0 + Phi ln ≤ Phi ln + 3610 := by omega
  refine x_callV (as := [.int _]) (κ1 := 0) (κ2 := κ) (σ1 := 0) (σ2 := σ + 13000 + Phi ln - (0)) mX11_roots_ok lkL_88 rfl rfl (Nat.le_of_ble_eq_true rfl) (Nat.le_of_ble_eq_true rfl) dL_law_747 hc (by omega) (by omega) (k_roots (d := d + 75) I) (fun v h1 hq => ?_)
  obtain ⟨r, rfl, e1, I2⟩ := hq
  have J := J.co I2.co
  obtain ⟨fm, hm⟩ := J.obj
  refine Zw.room (κ' := κ) (σ' := σ + Phi ln) ?_ (by omega) (by omega)
  refine x_al2 rfl dL_law_750 ?_
  refine x_al0 rfl dL_law_751 ?_
  refine x_il3 dL_law_752 ?_
  refine x_iconst (v := nI 1) dL_law_753 rfl ?_
  refine x_iadd (nI_add _ _) dL_law_754 ?_
  refine x_scr (vp_in_nI (show i + 1 < g.2.2.2.2.1 by omega) hg) rfl dL_law_755 ?_
  refine x_callV (as := [.int _]) (κ1 := 0) (κ2 := κ) (σ1 := 0) (σ2 := σ + Phi ln) mX12_roots_ok lkL_91 rfl rfl (Nat.le_of_ble_eq_true rfl) (Nat.le_of_ble_eq_true rfl) dL_law_756 hm (by omega) (by omega) (w_roots (d := d + 76) J) (fun v h2 hq => ?_)
  obtain ⟨r2, rfl, e2, J2⟩ := hq
  have I2 := I2.mo J J2.mo
  have e : r = r2 := e1.trans e2.symm
  refine x_icmp_eq (tgt := 1583) dL_law_759 rfl (fun _ => kk h2 _ ⟨_, _, _, _, _, _, _, _, _, _, _, _, J2, I2⟩) (fun q => absurd e q)
theorem lw_bounded (hi : i + 6 ≤ g.2.2.2.2.1) (hg : g.2.2.2.2.1 < 2 ^ 31) (B : BI h ln) (kk : ∀ (h' : zH) (l2 : zLn), BI h' l2 → Zw g (d + 80) κ (σ + Phi l2) mL_law 1583 (lawL i) [] h' Q) : Zw g (d + 80) (κ + 16) (σ + 13000 + Phi ln) mL_law 764 (lawL i) [] h Q := by
  obtain ⟨h0, hh, dk, st, un, tp, tr, pi, fl, sb, sj, dr, J, I⟩ := B
  have I := I.mo J Mo.rf
  have J := J.co Co.rf
  obtain ⟨fs, hc⟩ := I.obj
  obtain ⟨n0, n6, -⟩ := I.dkB
  refine x_al1 rfl dL_law_764 ?_
  refine x_al0 rfl dL_law_765 ?_
  refine x_il3 dL_law_766 ?_
  refine x_iconst (v := nI 1) dL_law_767 rfl ?_
  refine x_iadd (nI_add _ _) dL_law_768 ?_
  refine x_scr (vp_in_nI (show i + 1 < g.2.2.2.2.1 by omega) hg) rfl dL_law_769 ?_
  refine x_al0 rfl dL_law_770 ?_
  refine x_il3 dL_law_771 ?_
  refine x_iconst (v := nI 2) dL_law_772 rfl ?_
  refine x_iadd (nI_add _ _) dL_law_773 ?_
  refine x_scr (vp_in_nI (show i + 2 < g.2.2.2.2.1 by omega) hg) rfl dL_law_774 ?_
  have ph : 0 + Phi ln ≤ Phi ln + 3610 := by omega
  refine x_callV (as := [.int _, .int _]) (κ1 := 0) (κ2 := κ) (σ1 := 0) (σ2 := σ + 13000 + Phi ln - (0)) mX11_bounded_ok lkL_92 rfl rfl (Nat.le_of_ble_eq_true rfl) (Nat.le_of_ble_eq_true rfl) dL_law_775 hc (by omega) (by omega) (k_bounded (d := d + 76) I) (fun v h1 hq => ?_)
  obtain ⟨r, rfl, e1, I2⟩ := hq
  have J := J.co I2.co
  obtain ⟨fm, hm⟩ := J.obj
  refine Zw.room (κ' := κ) (σ' := σ + Phi ln) ?_ (by omega) (by omega)
  refine x_al2 rfl dL_law_778 ?_
  refine x_al0 rfl dL_law_779 ?_
  refine x_il3 dL_law_780 ?_
  refine x_iconst (v := nI 1) dL_law_781 rfl ?_
  refine x_iadd (nI_add _ _) dL_law_782 ?_
  refine x_scr (vp_in_nI (show i + 1 < g.2.2.2.2.1 by omega) hg) rfl dL_law_783 ?_
  refine x_al0 rfl dL_law_784 ?_
  refine x_il3 dL_law_785 ?_
  refine x_iconst (v := nI 2) dL_law_786 rfl ?_
  refine x_iadd (nI_add _ _) dL_law_787 ?_
  refine x_scr (vp_in_nI (show i + 2 < g.2.2.2.2.1 by omega) hg) rfl dL_law_788 ?_
  refine x_callV (as := [.int _, .int _]) (κ1 := 0) (κ2 := κ) (σ1 := 0) (σ2 := σ + Phi ln) mX12_bounded_ok lkL_96 rfl rfl (Nat.le_of_ble_eq_true rfl) (Nat.le_of_ble_eq_true rfl) dL_law_789 hm (by omega) (by omega) (w_bounded (d := d + 76) J) (fun v h2 hq => ?_)
  obtain ⟨r2, rfl, e2, J2⟩ := hq
  have I2 := I2.mo J J2.mo
  have e : r = r2 := e1.trans e2.symm
  refine x_lcmp rfl dL_law_792 ?_
  refine x_if_eq (tgt := 1583) dL_law_793 rfl (fun _ => kk h2 _ ⟨_, _, _, _, _, _, _, _, _, _, _, _, J2, I2⟩) (fun q => absurd (cmp_eq.mpr e) q)
theorem lw_fewest (hi : i + 6 ≤ g.2.2.2.2.1) (hg : g.2.2.2.2.1 < 2 ^ 31) (B : BI h ln) (kk : ∀ (h' : zH) (l2 : zLn), BI h' l2 → Zw g (d + 80) κ (σ + Phi l2) mL_law 1583 (lawL i) [] h' Q) : Zw g (d + 80) (κ + 16) (σ + 13000 + Phi ln) mL_law 798 (lawL i) [] h Q := by
  obtain ⟨h0, hh, dk, st, un, tp, tr, pi, fl, sb, sj, dr, J, I⟩ := B
  have I := I.mo J Mo.rf
  have J := J.co Co.rf
  obtain ⟨fs, hc⟩ := I.obj
  obtain ⟨n0, n6, -⟩ := I.dkB
  refine x_al1 rfl dL_law_798 ?_
  refine x_al0 rfl dL_law_799 ?_
  refine x_il3 dL_law_800 ?_
  refine x_iconst (v := nI 1) dL_law_801 rfl ?_
  refine x_iadd (nI_add _ _) dL_law_802 ?_
  refine x_scr (vp_in_nI (show i + 1 < g.2.2.2.2.1 by omega) hg) rfl dL_law_803 ?_
  have ph := phi_SW (ln := ln) n0 n6
  refine x_callV (as := [.int _]) (κ1 := 3) (κ2 := κ) (σ1 := sS dk.1 ln + sW dk.1 ln) (σ2 := σ + 13000 + Phi ln - (sS dk.1 ln + sW dk.1 ln)) mX11_fewest_ok lkL_97 rfl rfl (Nat.le_of_ble_eq_true rfl) (Nat.le_of_ble_eq_true rfl) dL_law_804 hc (by omega) (by omega) (k_fewest (d := d + 72) I) (fun v h1 hq => ?_)
  obtain ⟨r, rfl, e1, I2⟩ := hq
  have s1 := sS_le (ln := ln) n6
  have s2 := sW_le (ln := ln) n6
  have s3 := sV_le (ln := ln) n6
  have I3 : ∃ l2, CI h h1 dk st un tp tr pi fl l2 sb sj dr ∧ (sS dk.1 ln + sW dk.1 ln) + Phi l2 ≤ Phi ln + 13000 := by
    rcases I2 with z | z
    · exact ⟨ln, z, by omega⟩
    · exact ⟨_, z, by omega⟩
  obtain ⟨l2, I2, ph⟩ := I3
  have J := J.co I2.co
  obtain ⟨fm, hm⟩ := J.obj
  refine Zw.room (κ' := κ) (σ' := σ + Phi l2) ?_ (by omega) (by omega)
  refine x_al2 rfl dL_law_807 ?_
  refine x_al0 rfl dL_law_808 ?_
  refine x_il3 dL_law_809 ?_
  refine x_iconst (v := nI 1) dL_law_810 rfl ?_
  refine x_iadd (nI_add _ _) dL_law_811 ?_
  refine x_scr (vp_in_nI (show i + 1 < g.2.2.2.2.1 by omega) hg) rfl dL_law_812 ?_
  refine x_callV (as := [.int _]) (κ1 := 0) (κ2 := κ) (σ1 := 0) (σ2 := σ + Phi l2) mX12_fewest_ok lkL_100 rfl rfl (Nat.le_of_ble_eq_true rfl) (Nat.le_of_ble_eq_true rfl) dL_law_813 hm (by omega) (by omega) (w_fewest (d := d + 72) J) (fun v h2 hq => ?_)
  obtain ⟨r2, rfl, e2, J2⟩ := hq
  have I2 := I2.mo J J2.mo
  have e : r = r2 := A_fewest_u e1 e2
  refine x_icmp_eq (tgt := 1583) dL_law_816 rfl (fun _ => kk h2 _ ⟨_, _, _, _, _, _, _, _, _, _, _, _, J2, I2⟩) (fun q => absurd e q)
theorem lw_way (hi : i + 6 ≤ g.2.2.2.2.1) (hg : g.2.2.2.2.1 < 2 ^ 31) (B : BI h ln) (kk : ∀ (h' : zH) (l2 : zLn), BI h' l2 → Zw g (d + 80) κ (σ + Phi l2) mL_law 1583 (lawL i) [] h' Q) : Zw g (d + 80) (κ + 16) (σ + 13000 + Phi ln) mL_law 821 (lawL i) [] h Q := by
  obtain ⟨h0, hh, dk, st, un, tp, tr, pi, fl, sb, sj, dr, J, I⟩ := B
  have I := I.mo J Mo.rf
  have J := J.co Co.rf
  obtain ⟨fs, hc⟩ := I.obj
  obtain ⟨n0, n6, -⟩ := I.dkB
  refine x_al1 rfl dL_law_821 ?_
  refine x_al0 rfl dL_law_822 ?_
  refine x_il3 dL_law_823 ?_
  refine x_iconst (v := nI 1) dL_law_824 rfl ?_
  refine x_iadd (nI_add _ _) dL_law_825 ?_
  refine x_scr (vp_in_nI (show i + 1 < g.2.2.2.2.1 by omega) hg) rfl dL_law_826 ?_
  refine x_al0 rfl dL_law_827 ?_
  refine x_il3 dL_law_828 ?_
  refine x_iconst (v := nI 2) dL_law_829 rfl ?_
  refine x_iadd (nI_add _ _) dL_law_830 ?_
  refine x_scr (vp_in_nI (show i + 2 < g.2.2.2.2.1 by omega) hg) rfl dL_law_831 ?_
  have ph := phi_SW (ln := ln) n0 n6
  refine x_callV (as := [.int _, .int _]) (κ1 := 3) (κ2 := κ) (σ1 := sS dk.1 ln + sW dk.1 ln) (σ2 := σ + 13000 + Phi ln - (sS dk.1 ln + sW dk.1 ln)) mX11_way_ok lkL_101 rfl rfl (Nat.le_of_ble_eq_true rfl) (Nat.le_of_ble_eq_true rfl) dL_law_832 hc (by omega) (by omega) (k_way (d := d + 72) I) (fun v h1 hq => ?_)
  obtain ⟨r, rfl, e1, I2⟩ := hq
  have s1 := sS_le (ln := ln) n6
  have s2 := sW_le (ln := ln) n6
  have s3 := sV_le (ln := ln) n6
  have I3 : ∃ l2, CI h h1 dk st un tp tr pi fl l2 sb sj dr ∧ (sS dk.1 ln + sW dk.1 ln) + Phi l2 ≤ Phi ln + 13000 := by
    rcases I2 with z | z
    · exact ⟨ln, z, by omega⟩
    · exact ⟨_, z, by omega⟩
  obtain ⟨l2, I2, ph⟩ := I3
  have J := J.co I2.co
  obtain ⟨fm, hm⟩ := J.obj
  refine Zw.room (κ' := κ) (σ' := σ + Phi l2) ?_ (by omega) (by omega)
  refine x_al2 rfl dL_law_835 ?_
  refine x_al0 rfl dL_law_836 ?_
  refine x_il3 dL_law_837 ?_
  refine x_iconst (v := nI 1) dL_law_838 rfl ?_
  refine x_iadd (nI_add _ _) dL_law_839 ?_
  refine x_scr (vp_in_nI (show i + 1 < g.2.2.2.2.1 by omega) hg) rfl dL_law_840 ?_
  refine x_al0 rfl dL_law_841 ?_
  refine x_il3 dL_law_842 ?_
  refine x_iconst (v := nI 2) dL_law_843 rfl ?_
  refine x_iadd (nI_add _ _) dL_law_844 ?_
  refine x_scr (vp_in_nI (show i + 2 < g.2.2.2.2.1 by omega) hg) rfl dL_law_845 ?_
  refine x_callV (as := [.int _, .int _]) (κ1 := 0) (κ2 := κ) (σ1 := 0) (σ2 := σ + Phi l2) mX12_way_ok lkL_104 rfl rfl (Nat.le_of_ble_eq_true rfl) (Nat.le_of_ble_eq_true rfl) dL_law_846 hm (by omega) (by omega) (w_way (d := d + 72) J) (fun v h2 hq => ?_)
  obtain ⟨r2, rfl, e2, J2⟩ := hq
  have I2 := I2.mo J J2.mo
  have e : r = r2 := A_way_u e1 e2
  refine x_icmp_eq (tgt := 1583) dL_law_849 rfl (fun _ => kk h2 _ ⟨_, _, _, _, _, _, _, _, _, _, _, _, J2, I2⟩) (fun q => absurd e q)
theorem lw_rows (hi : i + 6 ≤ g.2.2.2.2.1) (hg : g.2.2.2.2.1 < 2 ^ 31) (B : BI h ln) (kk : ∀ (h' : zH) (l2 : zLn), BI h' l2 → Zw g (d + 80) κ (σ + Phi l2) mL_law 1583 (lawL i) [] h' Q) : Zw g (d + 80) (κ + 16) (σ + 13000 + Phi ln) mL_law 854 (lawL i) [] h Q := by
  obtain ⟨h0, hh, dk, st, un, tp, tr, pi, fl, sb, sj, dr, J, I⟩ := B
  have I := I.mo J Mo.rf
  have J := J.co Co.rf
  obtain ⟨fs, hc⟩ := I.obj
  obtain ⟨n0, n6, -⟩ := I.dkB
  refine x_al1 rfl dL_law_854 ?_
  refine x_al0 rfl dL_law_855 ?_
  refine x_il3 dL_law_856 ?_
  refine x_iconst (v := nI 1) dL_law_857 rfl ?_
  refine x_iadd (nI_add _ _) dL_law_858 ?_
  refine x_scr (vp_in_nI (show i + 1 < g.2.2.2.2.1 by omega) hg) rfl dL_law_859 ?_
  refine x_al0 rfl dL_law_860 ?_
  refine x_il3 dL_law_861 ?_
  refine x_iconst (v := nI 2) dL_law_862 rfl ?_
  refine x_iadd (nI_add _ _) dL_law_863 ?_
  refine x_scr (vp_in_nI (show i + 2 < g.2.2.2.2.1 by omega) hg) rfl dL_law_864 ?_
  have ph := phi_SV (ln := ln) n0 n6
  refine x_callV (as := [.int _, .int _]) (κ1 := 3) (κ2 := κ) (σ1 := sS dk.1 ln + sV dk.1 ln) (σ2 := σ + 13000 + Phi ln - (sS dk.1 ln + sV dk.1 ln)) mX11_rows_ok lkL_105 rfl rfl (Nat.le_of_ble_eq_true rfl) (Nat.le_of_ble_eq_true rfl) dL_law_865 hc (by omega) (by omega) (k_rows (d := d + 72) I) (fun v h1 hq => ?_)
  obtain ⟨r, rfl, e1, I2⟩ := hq
  have s1 := sS_le (ln := ln) n6
  have s2 := sW_le (ln := ln) n6
  have s3 := sV_le (ln := ln) n6
  have I3 : ∃ l2, CI h h1 dk st un tp tr pi fl l2 sb sj dr ∧ (sS dk.1 ln + sV dk.1 ln) + Phi l2 ≤ Phi ln + 13000 := by
    rcases I2 with z | z
    · exact ⟨ln, z, by omega⟩
    · exact ⟨_, z, by omega⟩
  obtain ⟨l2, I2, ph⟩ := I3
  have J := J.co I2.co
  obtain ⟨fm, hm⟩ := J.obj
  refine Zw.room (κ' := κ) (σ' := σ + Phi l2) ?_ (by omega) (by omega)
  refine x_al2 rfl dL_law_868 ?_
  refine x_al0 rfl dL_law_869 ?_
  refine x_il3 dL_law_870 ?_
  refine x_iconst (v := nI 1) dL_law_871 rfl ?_
  refine x_iadd (nI_add _ _) dL_law_872 ?_
  refine x_scr (vp_in_nI (show i + 1 < g.2.2.2.2.1 by omega) hg) rfl dL_law_873 ?_
  refine x_al0 rfl dL_law_874 ?_
  refine x_il3 dL_law_875 ?_
  refine x_iconst (v := nI 2) dL_law_876 rfl ?_
  refine x_iadd (nI_add _ _) dL_law_877 ?_
  refine x_scr (vp_in_nI (show i + 2 < g.2.2.2.2.1 by omega) hg) rfl dL_law_878 ?_
  refine x_callV (as := [.int _, .int _]) (κ1 := 0) (κ2 := κ) (σ1 := 0) (σ2 := σ + Phi l2) mX12_rows_ok lkL_108 rfl rfl (Nat.le_of_ble_eq_true rfl) (Nat.le_of_ble_eq_true rfl) dL_law_879 hm (by omega) (by omega) (w_rows (d := d + 72) J) (fun v h2 hq => ?_)
  obtain ⟨r2, rfl, e2, J2⟩ := hq
  have I2 := I2.mo J J2.mo
  have e : r = r2 := e1.trans e2.symm
  refine x_lcmp rfl dL_law_882 ?_
  refine x_if_eq (tgt := 1583) dL_law_883 rfl (fun _ => kk h2 _ ⟨_, _, _, _, _, _, _, _, _, _, _, _, J2, I2⟩) (fun q => absurd (cmp_eq.mpr e) q)
theorem lw_ofAll (hi : i + 6 ≤ g.2.2.2.2.1) (hg : g.2.2.2.2.1 < 2 ^ 31) (B : BI h ln) (kk : ∀ (h' : zH) (l2 : zLn), BI h' l2 → Zw g (d + 80) κ (σ + Phi l2) mL_law 1583 (lawL i) [] h' Q) : Zw g (d + 80) (κ + 16) (σ + 13000 + Phi ln) mL_law 888 (lawL i) [] h Q := by
  obtain ⟨h0, hh, dk, st, un, tp, tr, pi, fl, sb, sj, dr, J, I⟩ := B
  have I := I.mo J Mo.rf
  have J := J.co Co.rf
  obtain ⟨fs, hc⟩ := I.obj
  obtain ⟨n0, n6, -⟩ := I.dkB
  refine x_al1 rfl dL_law_888 ?_
  refine x_al0 rfl dL_law_889 ?_
  refine x_il3 dL_law_890 ?_
  refine x_iconst (v := nI 1) dL_law_891 rfl ?_
  refine x_iadd (nI_add _ _) dL_law_892 ?_
  refine x_scr (vp_in_nI (show i + 1 < g.2.2.2.2.1 by omega) hg) rfl dL_law_893 ?_
  have ph : 0 + Phi ln ≤ Phi ln + 3610 := by omega
  refine x_callV (as := [.int _]) (κ1 := 0) (κ2 := κ) (σ1 := 0) (σ2 := σ + 13000 + Phi ln - (0)) mX11_ofAll_ok lkL_109 rfl rfl (Nat.le_of_ble_eq_true rfl) (Nat.le_of_ble_eq_true rfl) dL_law_894 hc (by omega) (by omega) (k_ofAll (d := d + 72) I) (fun v h1 hq => ?_)
  obtain ⟨r, rfl, e1, I2⟩ := hq
  have J := J.co I2.co
  obtain ⟨fm, hm⟩ := J.obj
  refine Zw.room (κ' := κ) (σ' := σ + Phi ln) ?_ (by omega) (by omega)
  refine x_al2 rfl dL_law_897 ?_
  refine x_al0 rfl dL_law_898 ?_
  refine x_il3 dL_law_899 ?_
  refine x_iconst (v := nI 1) dL_law_900 rfl ?_
  refine x_iadd (nI_add _ _) dL_law_901 ?_
  refine x_scr (vp_in_nI (show i + 1 < g.2.2.2.2.1 by omega) hg) rfl dL_law_902 ?_
  refine x_callV (as := [.int _]) (κ1 := 0) (κ2 := κ) (σ1 := 0) (σ2 := σ + Phi ln) mX12_ofAll_ok lkL_112 rfl rfl (Nat.le_of_ble_eq_true rfl) (Nat.le_of_ble_eq_true rfl) dL_law_903 hm (by omega) (by omega) (w_ofAll (d := d + 74) J) (fun v h2 hq => ?_)
  obtain ⟨r2, rfl, e2, J2⟩ := hq
  have I2 := I2.mo J J2.mo
  have e : r = r2 := e1.trans e2.symm
  refine x_icmp_eq (tgt := 1583) dL_law_906 rfl (fun _ => kk h2 _ ⟨_, _, _, _, _, _, _, _, _, _, _, _, J2, I2⟩) (fun q => absurd e q)
theorem lw_ofOne (hi : i + 6 ≤ g.2.2.2.2.1) (hg : g.2.2.2.2.1 < 2 ^ 31) (B : BI h ln) (kk : ∀ (h' : zH) (l2 : zLn), BI h' l2 → Zw g (d + 80) κ (σ + Phi l2) mL_law 1583 (lawL i) [] h' Q) : Zw g (d + 80) (κ + 16) (σ + 13000 + Phi ln) mL_law 911 (lawL i) [] h Q := by
  obtain ⟨h0, hh, dk, st, un, tp, tr, pi, fl, sb, sj, dr, J, I⟩ := B
  have I := I.mo J Mo.rf
  have J := J.co Co.rf
  obtain ⟨fs, hc⟩ := I.obj
  obtain ⟨n0, n6, -⟩ := I.dkB
  refine x_al1 rfl dL_law_911 ?_
  refine x_al0 rfl dL_law_912 ?_
  refine x_il3 dL_law_913 ?_
  refine x_iconst (v := nI 1) dL_law_914 rfl ?_
  refine x_iadd (nI_add _ _) dL_law_915 ?_
  refine x_scr (vp_in_nI (show i + 1 < g.2.2.2.2.1 by omega) hg) rfl dL_law_916 ?_
  have ph : 0 + Phi ln ≤ Phi ln + 3610 := by omega
  refine x_callV (as := [.int _]) (κ1 := 0) (κ2 := κ) (σ1 := 0) (σ2 := σ + 13000 + Phi ln - (0)) mX11_ofOne_ok lkL_113 rfl rfl (Nat.le_of_ble_eq_true rfl) (Nat.le_of_ble_eq_true rfl) dL_law_917 hc (by omega) (by omega) (k_ofOne (d := d + 72) I) (fun v h1 hq => ?_)
  obtain ⟨r, rfl, e1, I2⟩ := hq
  have J := J.co I2.co
  obtain ⟨fm, hm⟩ := J.obj
  refine Zw.room (κ' := κ) (σ' := σ + Phi ln) ?_ (by omega) (by omega)
  refine x_al2 rfl dL_law_920 ?_
  refine x_al0 rfl dL_law_921 ?_
  refine x_il3 dL_law_922 ?_
  refine x_iconst (v := nI 1) dL_law_923 rfl ?_
  refine x_iadd (nI_add _ _) dL_law_924 ?_
  refine x_scr (vp_in_nI (show i + 1 < g.2.2.2.2.1 by omega) hg) rfl dL_law_925 ?_
  refine x_callV (as := [.int _]) (κ1 := 0) (κ2 := κ) (σ1 := 0) (σ2 := σ + Phi ln) mX12_ofOne_ok lkL_116 rfl rfl (Nat.le_of_ble_eq_true rfl) (Nat.le_of_ble_eq_true rfl) dL_law_926 hm (by omega) (by omega) (w_ofOne (d := d + 74) J) (fun v h2 hq => ?_)
  obtain ⟨r2, rfl, e2, J2⟩ := hq
  have I2 := I2.mo J J2.mo
  have e : r = r2 := e1.trans e2.symm
  refine x_icmp_eq (tgt := 1583) dL_law_929 rfl (fun _ => kk h2 _ ⟨_, _, _, _, _, _, _, _, _, _, _, _, J2, I2⟩) (fun q => absurd e q)
theorem lw_just (hi : i + 6 ≤ g.2.2.2.2.1) (hg : g.2.2.2.2.1 < 2 ^ 31) (B : BI h ln) (kk : ∀ (h' : zH) (l2 : zLn), BI h' l2 → Zw g (d + 80) κ (σ + Phi l2) mL_law 1583 (lawL i) [] h' Q) : Zw g (d + 80) (κ + 16) (σ + 13000 + Phi ln) mL_law 934 (lawL i) [] h Q := by
  obtain ⟨h0, hh, dk, st, un, tp, tr, pi, fl, sb, sj, dr, J, I⟩ := B
  have I := I.mo J Mo.rf
  have J := J.co Co.rf
  obtain ⟨fs, hc⟩ := I.obj
  obtain ⟨n0, n6, -⟩ := I.dkB
  refine x_al1 rfl dL_law_934 ?_
  refine x_al0 rfl dL_law_935 ?_
  refine x_il3 dL_law_936 ?_
  refine x_iconst (v := nI 1) dL_law_937 rfl ?_
  refine x_iadd (nI_add _ _) dL_law_938 ?_
  refine x_scr (vp_in_nI (show i + 1 < g.2.2.2.2.1 by omega) hg) rfl dL_law_939 ?_
  have ph : 0 + Phi ln ≤ Phi ln + 3610 := by omega
  refine x_callV (as := [.int _]) (κ1 := 0) (κ2 := κ) (σ1 := 0) (σ2 := σ + 13000 + Phi ln - (0)) mX11_just_ok lkL_117 rfl rfl (Nat.le_of_ble_eq_true rfl) (Nat.le_of_ble_eq_true rfl) dL_law_940 hc (by omega) (by omega) (k_just (d := d + 72) I) (fun v h1 hq => ?_)
  obtain ⟨r, rfl, e1, I2⟩ := hq
  have J := J.co I2.co
  obtain ⟨fm, hm⟩ := J.obj
  refine Zw.room (κ' := κ) (σ' := σ + Phi ln) ?_ (by omega) (by omega)
  refine x_al2 rfl dL_law_943 ?_
  refine x_al0 rfl dL_law_944 ?_
  refine x_il3 dL_law_945 ?_
  refine x_iconst (v := nI 1) dL_law_946 rfl ?_
  refine x_iadd (nI_add _ _) dL_law_947 ?_
  refine x_scr (vp_in_nI (show i + 1 < g.2.2.2.2.1 by omega) hg) rfl dL_law_948 ?_
  refine x_callV (as := [.int _]) (κ1 := 0) (κ2 := κ) (σ1 := 0) (σ2 := σ + Phi ln) mX12_just_ok lkL_120 rfl rfl (Nat.le_of_ble_eq_true rfl) (Nat.le_of_ble_eq_true rfl) dL_law_949 hm (by omega) (by omega) (w_just (d := d + 74) J) (fun v h2 hq => ?_)
  obtain ⟨r2, rfl, e2, J2⟩ := hq
  have I2 := I2.mo J J2.mo
  have e : r = r2 := e1.trans e2.symm
  refine x_icmp_eq (tgt := 1583) dL_law_952 rfl (fun _ => kk h2 _ ⟨_, _, _, _, _, _, _, _, _, _, _, _, J2, I2⟩) (fun q => absurd e q)
theorem lw_at (hi : i + 6 ≤ g.2.2.2.2.1) (hg : g.2.2.2.2.1 < 2 ^ 31) (B : BI h ln) (kk : ∀ (h' : zH) (l2 : zLn), BI h' l2 → Zw g (d + 80) κ (σ + Phi l2) mL_law 1583 (lawL i) [] h' Q) : Zw g (d + 80) (κ + 16) (σ + 13000 + Phi ln) mL_law 957 (lawL i) [] h Q := by
  obtain ⟨h0, hh, dk, st, un, tp, tr, pi, fl, sb, sj, dr, J, I⟩ := B
  have I := I.mo J Mo.rf
  have J := J.co Co.rf
  obtain ⟨fs, hc⟩ := I.obj
  obtain ⟨n0, n6, -⟩ := I.dkB
  refine x_al1 rfl dL_law_957 ?_
  refine x_al0 rfl dL_law_958 ?_
  refine x_il3 dL_law_959 ?_
  refine x_iconst (v := nI 1) dL_law_960 rfl ?_
  refine x_iadd (nI_add _ _) dL_law_961 ?_
  refine x_scr (vp_in_nI (show i + 1 < g.2.2.2.2.1 by omega) hg) rfl dL_law_962 ?_
  refine x_i2l rfl dL_law_963 ?_
  refine x_bipush (v := nI 32) dL_law_964 rfl ?_
  refine x_lshl rfl dL_law_966 ?_
  refine x_al0 rfl dL_law_967 ?_
  refine x_il3 dL_law_968 ?_
  refine x_iconst (v := nI 2) dL_law_969 rfl ?_
  refine x_iadd (nI_add _ _) dL_law_970 ?_
  refine x_scr (vp_in_nI (show i + 2 < g.2.2.2.2.1 by omega) hg) rfl dL_law_971 ?_
  refine x_i2l rfl dL_law_972 ?_
  refine x_ldc2 kcL_81 dL_law_973 ?_
  refine x_land rfl dL_law_976 ?_
  refine x_lor rfl dL_law_977 ?_
  have ph : 0 + Phi ln ≤ Phi ln + 3610 := by omega
  refine x_callV (as := [.long _]) (κ1 := 0) (κ2 := κ) (σ1 := 0) (σ2 := σ + 13000 + Phi ln - (0)) mX11_at_ok lkL_121 rfl rfl (Nat.le_of_ble_eq_true rfl) (Nat.le_of_ble_eq_true rfl) dL_law_978 hc (by omega) (by omega) (k_at (d := d + 75) I) (fun v h1 hq => ?_)
  obtain ⟨r, rfl, e1, I2⟩ := hq
  have J := J.co I2.co
  obtain ⟨fm, hm⟩ := J.obj
  refine Zw.room (κ' := κ) (σ' := σ + Phi ln) ?_ (by omega) (by omega)
  refine x_al2 rfl dL_law_981 ?_
  refine x_al0 rfl dL_law_982 ?_
  refine x_il3 dL_law_983 ?_
  refine x_iconst (v := nI 1) dL_law_984 rfl ?_
  refine x_iadd (nI_add _ _) dL_law_985 ?_
  refine x_scr (vp_in_nI (show i + 1 < g.2.2.2.2.1 by omega) hg) rfl dL_law_986 ?_
  refine x_i2l rfl dL_law_987 ?_
  refine x_bipush (v := nI 32) dL_law_988 rfl ?_
  refine x_lshl rfl dL_law_990 ?_
  refine x_al0 rfl dL_law_991 ?_
  refine x_il3 dL_law_992 ?_
  refine x_iconst (v := nI 2) dL_law_993 rfl ?_
  refine x_iadd (nI_add _ _) dL_law_994 ?_
  refine x_scr (vp_in_nI (show i + 2 < g.2.2.2.2.1 by omega) hg) rfl dL_law_995 ?_
  refine x_i2l rfl dL_law_996 ?_
  refine x_ldc2 kcL_81 dL_law_997 ?_
  refine x_land rfl dL_law_1000 ?_
  refine x_lor rfl dL_law_1001 ?_
  refine x_callV (as := [.long _]) (κ1 := 0) (κ2 := κ) (σ1 := 0) (σ2 := σ + Phi ln) mX12_at_ok lkL_124 rfl rfl (Nat.le_of_ble_eq_true rfl) (Nat.le_of_ble_eq_true rfl) dL_law_1002 hm (by omega) (by omega) (w_at (d := d + 76) J) (fun v h2 hq => ?_)
  obtain ⟨r2, rfl, e2, J2⟩ := hq
  have I2 := I2.mo J J2.mo
  have e : r = r2 := e1.trans e2.symm
  refine x_icmp_eq (tgt := 1583) dL_law_1005 rfl (fun _ => kk h2 _ ⟨_, _, _, _, _, _, _, _, _, _, _, _, J2, I2⟩) (fun q => absurd e q)
theorem lw_comesRound (hi : i + 6 ≤ g.2.2.2.2.1) (hg : g.2.2.2.2.1 < 2 ^ 31) (B : BI h ln) (kk : ∀ (h' : zH) (l2 : zLn), BI h' l2 → Zw g (d + 80) κ (σ + Phi l2) mL_law 1583 (lawL i) [] h' Q) : Zw g (d + 80) (κ + 16) (σ + 13000 + Phi ln) mL_law 1010 (lawL i) [] h Q := by
  obtain ⟨h0, hh, dk, st, un, tp, tr, pi, fl, sb, sj, dr, J, I⟩ := B
  have I := I.mo J Mo.rf
  have J := J.co Co.rf
  obtain ⟨fs, hc⟩ := I.obj
  obtain ⟨n0, n6, -⟩ := I.dkB
  refine x_al1 rfl dL_law_1010 ?_
  have ph : 0 + Phi ln ≤ Phi ln + 3610 := by omega
  refine x_callV (as := []) (κ1 := 0) (κ2 := κ) (σ1 := 0) (σ2 := σ + 13000 + Phi ln - (0)) mX11_comesRound_ok lkL_125 rfl rfl (Nat.le_of_ble_eq_true rfl) (Nat.le_of_ble_eq_true rfl) dL_law_1011 hc (by omega) (by omega) (k_comesRound (d := d + 75) I) (fun v h1 hq => ?_)
  obtain ⟨r, rfl, e1, I2⟩ := hq
  have J := J.co I2.co
  obtain ⟨fm, hm⟩ := J.obj
  refine Zw.room (κ' := κ) (σ' := σ + Phi ln) ?_ (by omega) (by omega)
  refine x_al2 rfl dL_law_1014 ?_
  refine x_callV (as := []) (κ1 := 0) (κ2 := κ) (σ1 := 0) (σ2 := σ + Phi ln) mX12_comesRound_ok lkL_128 rfl rfl (Nat.le_of_ble_eq_true rfl) (Nat.le_of_ble_eq_true rfl) dL_law_1015 hm (by omega) (by omega) (w_comesRound (d := d + 76) J) (fun v h2 hq => ?_)
  obtain ⟨r2, rfl, e2, J2⟩ := hq
  have I2 := I2.mo J J2.mo
  have e : r = r2 := e1.trans e2.symm
  refine x_icmp_eq (tgt := 1583) dL_law_1018 rfl (fun _ => kk h2 _ ⟨_, _, _, _, _, _, _, _, _, _, _, _, J2, I2⟩) (fun q => absurd e q)
theorem lw_first (hi : i + 6 ≤ g.2.2.2.2.1) (hg : g.2.2.2.2.1 < 2 ^ 31) (B : BI h ln) (kk : ∀ (h' : zH) (l2 : zLn), BI h' l2 → Zw g (d + 80) κ (σ + Phi l2) mL_law 1583 (lawL i) [] h' Q) : Zw g (d + 80) (κ + 16) (σ + 13000 + Phi ln) mL_law 1023 (lawL i) [] h Q := by
  obtain ⟨h0, hh, dk, st, un, tp, tr, pi, fl, sb, sj, dr, J, I⟩ := B
  have I := I.mo J Mo.rf
  have J := J.co Co.rf
  obtain ⟨fs, hc⟩ := I.obj
  obtain ⟨n0, n6, -⟩ := I.dkB
  refine x_al1 rfl dL_law_1023 ?_
  refine x_al0 rfl dL_law_1024 ?_
  refine x_il3 dL_law_1025 ?_
  refine x_iconst (v := nI 1) dL_law_1026 rfl ?_
  refine x_iadd (nI_add _ _) dL_law_1027 ?_
  refine x_scr (vp_in_nI (show i + 1 < g.2.2.2.2.1 by omega) hg) rfl dL_law_1028 ?_
  have ph : 0 + Phi ln ≤ Phi ln + 3610 := by omega
  refine x_callV (as := [.int _]) (κ1 := 0) (κ2 := κ) (σ1 := 0) (σ2 := σ + 13000 + Phi ln - (0)) mX11_first_ok lkL_129 rfl rfl (Nat.le_of_ble_eq_true rfl) (Nat.le_of_ble_eq_true rfl) dL_law_1029 hc (by omega) (by omega) (k_first (d := d + 73) I) (fun v h1 hq => ?_)
  obtain ⟨r, rfl, e1, I2⟩ := hq
  have J := J.co I2.co
  obtain ⟨fm, hm⟩ := J.obj
  refine Zw.room (κ' := κ) (σ' := σ + Phi ln) ?_ (by omega) (by omega)
  refine x_al2 rfl dL_law_1032 ?_
  refine x_al0 rfl dL_law_1033 ?_
  refine x_il3 dL_law_1034 ?_
  refine x_iconst (v := nI 1) dL_law_1035 rfl ?_
  refine x_iadd (nI_add _ _) dL_law_1036 ?_
  refine x_scr (vp_in_nI (show i + 1 < g.2.2.2.2.1 by omega) hg) rfl dL_law_1037 ?_
  refine x_callV (as := [.int _]) (κ1 := 0) (κ2 := κ) (σ1 := 0) (σ2 := σ + Phi ln) mX12_first_ok lkL_132 rfl rfl (Nat.le_of_ble_eq_true rfl) (Nat.le_of_ble_eq_true rfl) dL_law_1038 hm (by omega) (by omega) (w_first (d := d + 74) J) (fun v h2 hq => ?_)
  obtain ⟨r2, rfl, e2, J2⟩ := hq
  have I2 := I2.mo J J2.mo
  have e : r = r2 := e1.trans e2.symm
  refine x_icmp_eq (tgt := 1583) dL_law_1041 rfl (fun _ => kk h2 _ ⟨_, _, _, _, _, _, _, _, _, _, _, _, J2, I2⟩) (fun q => absurd e q)
theorem lw_often (hi : i + 6 ≤ g.2.2.2.2.1) (hg : g.2.2.2.2.1 < 2 ^ 31) (B : BI h ln) (kk : ∀ (h' : zH) (l2 : zLn), BI h' l2 → Zw g (d + 80) κ (σ + Phi l2) mL_law 1583 (lawL i) [] h' Q) : Zw g (d + 80) (κ + 16) (σ + 13000 + Phi ln) mL_law 1046 (lawL i) [] h Q := by
  obtain ⟨h0, hh, dk, st, un, tp, tr, pi, fl, sb, sj, dr, J, I⟩ := B
  have I := I.mo J Mo.rf
  have J := J.co Co.rf
  obtain ⟨fs, hc⟩ := I.obj
  obtain ⟨n0, n6, -⟩ := I.dkB
  refine x_al1 rfl dL_law_1046 ?_
  refine x_al0 rfl dL_law_1047 ?_
  refine x_il3 dL_law_1048 ?_
  refine x_iconst (v := nI 1) dL_law_1049 rfl ?_
  refine x_iadd (nI_add _ _) dL_law_1050 ?_
  refine x_scr (vp_in_nI (show i + 1 < g.2.2.2.2.1 by omega) hg) rfl dL_law_1051 ?_
  refine x_al0 rfl dL_law_1052 ?_
  refine x_il3 dL_law_1053 ?_
  refine x_iconst (v := nI 2) dL_law_1054 rfl ?_
  refine x_iadd (nI_add _ _) dL_law_1055 ?_
  refine x_scr (vp_in_nI (show i + 2 < g.2.2.2.2.1 by omega) hg) rfl dL_law_1056 ?_
  refine x_i2l rfl dL_law_1057 ?_
  refine x_bipush (v := nI 32) dL_law_1058 rfl ?_
  refine x_lshl rfl dL_law_1060 ?_
  refine x_al0 rfl dL_law_1061 ?_
  refine x_il3 dL_law_1062 ?_
  refine x_iconst (v := nI 3) dL_law_1063 rfl ?_
  refine x_iadd (nI_add _ _) dL_law_1064 ?_
  refine x_scr (vp_in_nI (show i + 3 < g.2.2.2.2.1 by omega) hg) rfl dL_law_1065 ?_
  refine x_i2l rfl dL_law_1066 ?_
  refine x_ldc2 kcL_81 dL_law_1067 ?_
  refine x_land rfl dL_law_1070 ?_
  refine x_lor rfl dL_law_1071 ?_
  have ph : 0 + Phi ln ≤ Phi ln + 3610 := by omega
  refine x_callV (as := [.int _, .long _]) (κ1 := 0) (κ2 := κ) (σ1 := 0) (σ2 := σ + 13000 + Phi ln - (0)) mX11_often_ok lkL_133 rfl rfl (Nat.le_of_ble_eq_true rfl) (Nat.le_of_ble_eq_true rfl) dL_law_1072 hc (by omega) (by omega) (k_often (d := d + 72) I) (fun v h1 hq => ?_)
  obtain ⟨r, rfl, e1, I2⟩ := hq
  have J := J.co I2.co
  obtain ⟨fm, hm⟩ := J.obj
  refine Zw.room (κ' := κ) (σ' := σ + Phi ln) ?_ (by omega) (by omega)
  refine x_al2 rfl dL_law_1075 ?_
  refine x_al0 rfl dL_law_1076 ?_
  refine x_il3 dL_law_1077 ?_
  refine x_iconst (v := nI 1) dL_law_1078 rfl ?_
  refine x_iadd (nI_add _ _) dL_law_1079 ?_
  refine x_scr (vp_in_nI (show i + 1 < g.2.2.2.2.1 by omega) hg) rfl dL_law_1080 ?_
  refine x_al0 rfl dL_law_1081 ?_
  refine x_il3 dL_law_1082 ?_
  refine x_iconst (v := nI 2) dL_law_1083 rfl ?_
  refine x_iadd (nI_add _ _) dL_law_1084 ?_
  refine x_scr (vp_in_nI (show i + 2 < g.2.2.2.2.1 by omega) hg) rfl dL_law_1085 ?_
  refine x_i2l rfl dL_law_1086 ?_
  refine x_bipush (v := nI 32) dL_law_1087 rfl ?_
  refine x_lshl rfl dL_law_1089 ?_
  refine x_al0 rfl dL_law_1090 ?_
  refine x_il3 dL_law_1091 ?_
  refine x_iconst (v := nI 3) dL_law_1092 rfl ?_
  refine x_iadd (nI_add _ _) dL_law_1093 ?_
  refine x_scr (vp_in_nI (show i + 3 < g.2.2.2.2.1 by omega) hg) rfl dL_law_1094 ?_
  refine x_i2l rfl dL_law_1095 ?_
  refine x_ldc2 kcL_81 dL_law_1096 ?_
  refine x_land rfl dL_law_1099 ?_
  refine x_lor rfl dL_law_1100 ?_
  refine x_callV (as := [.int _, .long _]) (κ1 := 0) (κ2 := κ) (σ1 := 0) (σ2 := σ + Phi ln) mX12_often_ok lkL_137 rfl rfl (Nat.le_of_ble_eq_true rfl) (Nat.le_of_ble_eq_true rfl) dL_law_1101 hm (by omega) (by omega) (w_often (d := d + 74) J) (fun v h2 hq => ?_)
  obtain ⟨r2, rfl, e2, J2⟩ := hq
  have I2 := I2.mo J J2.mo
  have e : r = r2 := e1.trans e2.symm
  refine x_lcmp rfl dL_law_1104 ?_
  refine x_if_eq (tgt := 1583) dL_law_1105 rfl (fun _ => kk h2 _ ⟨_, _, _, _, _, _, _, _, _, _, _, _, J2, I2⟩) (fun q => absurd (cmp_eq.mpr e) q)
theorem lw_found (hi : i + 6 ≤ g.2.2.2.2.1) (hg : g.2.2.2.2.1 < 2 ^ 31) (B : BI h ln) (kk : ∀ (h' : zH) (l2 : zLn), BI h' l2 → Zw g (d + 80) κ (σ + Phi l2) mL_law 1583 (lawL i) [] h' Q) : Zw g (d + 80) (κ + 16) (σ + 13000 + Phi ln) mL_law 1110 (lawL i) [] h Q := by
  obtain ⟨h0, hh, dk, st, un, tp, tr, pi, fl, sb, sj, dr, J, I⟩ := B
  have I := I.mo J Mo.rf
  have J := J.co Co.rf
  obtain ⟨fs, hc⟩ := I.obj
  obtain ⟨n0, n6, -⟩ := I.dkB
  refine x_al1 rfl dL_law_1110 ?_
  refine x_al0 rfl dL_law_1111 ?_
  refine x_il3 dL_law_1112 ?_
  refine x_iconst (v := nI 1) dL_law_1113 rfl ?_
  refine x_iadd (nI_add _ _) dL_law_1114 ?_
  refine x_scr (vp_in_nI (show i + 1 < g.2.2.2.2.1 by omega) hg) rfl dL_law_1115 ?_
  refine x_al0 rfl dL_law_1116 ?_
  refine x_il3 dL_law_1117 ?_
  refine x_iconst (v := nI 2) dL_law_1118 rfl ?_
  refine x_iadd (nI_add _ _) dL_law_1119 ?_
  refine x_scr (vp_in_nI (show i + 2 < g.2.2.2.2.1 by omega) hg) rfl dL_law_1120 ?_
  have ph : 0 + Phi ln ≤ Phi ln + 3610 := by omega
  refine x_callV (as := [.int _, .int _]) (κ1 := 0) (κ2 := κ) (σ1 := 0) (σ2 := σ + 13000 + Phi ln - (0)) mX11_found_ok lkL_138 rfl rfl (Nat.le_of_ble_eq_true rfl) (Nat.le_of_ble_eq_true rfl) dL_law_1121 hc (by omega) (by omega) (k_found (d := d + 72) I) (fun v h1 hq => ?_)
  obtain ⟨r, rfl, e1, I2⟩ := hq
  have J := J.co I2.co
  obtain ⟨fm, hm⟩ := J.obj
  refine Zw.room (κ' := κ) (σ' := σ + Phi ln) ?_ (by omega) (by omega)
  refine x_al2 rfl dL_law_1124 ?_
  refine x_al0 rfl dL_law_1125 ?_
  refine x_il3 dL_law_1126 ?_
  refine x_iconst (v := nI 1) dL_law_1127 rfl ?_
  refine x_iadd (nI_add _ _) dL_law_1128 ?_
  refine x_scr (vp_in_nI (show i + 1 < g.2.2.2.2.1 by omega) hg) rfl dL_law_1129 ?_
  refine x_al0 rfl dL_law_1130 ?_
  refine x_il3 dL_law_1131 ?_
  refine x_iconst (v := nI 2) dL_law_1132 rfl ?_
  refine x_iadd (nI_add _ _) dL_law_1133 ?_
  refine x_scr (vp_in_nI (show i + 2 < g.2.2.2.2.1 by omega) hg) rfl dL_law_1134 ?_
  refine x_callV (as := [.int _, .int _]) (κ1 := 0) (κ2 := κ) (σ1 := 0) (σ2 := σ + Phi ln) mX12_found_ok lkL_141 rfl rfl (Nat.le_of_ble_eq_true rfl) (Nat.le_of_ble_eq_true rfl) dL_law_1135 hm (by omega) (by omega) (w_found (d := d + 74) J) (fun v h2 hq => ?_)
  obtain ⟨r2, rfl, e2, J2⟩ := hq
  have I2 := I2.mo J J2.mo
  have e : r = r2 := e1.trans e2.symm
  refine x_icmp_eq (tgt := 1583) dL_law_1138 rfl (fun _ => kk h2 _ ⟨_, _, _, _, _, _, _, _, _, _, _, _, J2, I2⟩) (fun q => absurd e q)
theorem lw_names (hi : i + 6 ≤ g.2.2.2.2.1) (hg : g.2.2.2.2.1 < 2 ^ 31) (B : BI h ln) (kk : ∀ (h' : zH) (l2 : zLn), BI h' l2 → Zw g (d + 80) κ (σ + Phi l2) mL_law 1583 (lawL i) [] h' Q) : Zw g (d + 80) (κ + 16) (σ + 13000 + Phi ln) mL_law 1143 (lawL i) [] h Q := by
  obtain ⟨h0, hh, dk, st, un, tp, tr, pi, fl, sb, sj, dr, J, I⟩ := B
  have I := I.mo J Mo.rf
  have J := J.co Co.rf
  obtain ⟨fs, hc⟩ := I.obj
  obtain ⟨n0, n6, -⟩ := I.dkB
  refine x_al1 rfl dL_law_1143 ?_
  refine x_al0 rfl dL_law_1144 ?_
  refine x_il3 dL_law_1145 ?_
  refine x_iconst (v := nI 1) dL_law_1146 rfl ?_
  refine x_iadd (nI_add _ _) dL_law_1147 ?_
  refine x_scr (vp_in_nI (show i + 1 < g.2.2.2.2.1 by omega) hg) rfl dL_law_1148 ?_
  refine x_al0 rfl dL_law_1149 ?_
  refine x_il3 dL_law_1150 ?_
  refine x_iconst (v := nI 2) dL_law_1151 rfl ?_
  refine x_iadd (nI_add _ _) dL_law_1152 ?_
  refine x_scr (vp_in_nI (show i + 2 < g.2.2.2.2.1 by omega) hg) rfl dL_law_1153 ?_
  refine x_al0 rfl dL_law_1154 ?_
  refine x_il3 dL_law_1155 ?_
  refine x_iconst (v := nI 3) dL_law_1156 rfl ?_
  refine x_iadd (nI_add _ _) dL_law_1157 ?_
  refine x_scr (vp_in_nI (show i + 3 < g.2.2.2.2.1 by omega) hg) rfl dL_law_1158 ?_
  have ph : 0 + Phi ln ≤ Phi ln + 3610 := by omega
  refine x_callV (as := [.int _, .int _, .int _]) (κ1 := 0) (κ2 := κ) (σ1 := 0) (σ2 := σ + 13000 + Phi ln - (0)) mX11_names_ok lkL_142 rfl rfl (Nat.le_of_ble_eq_true rfl) (Nat.le_of_ble_eq_true rfl) dL_law_1159 hc (by omega) (by omega) (k_names (d := d + 72) I) (fun v h1 hq => ?_)
  obtain ⟨r, rfl, e1, I2⟩ := hq
  have J := J.co I2.co
  obtain ⟨fm, hm⟩ := J.obj
  refine Zw.room (κ' := κ) (σ' := σ + Phi ln) ?_ (by omega) (by omega)
  refine x_al2 rfl dL_law_1162 ?_
  refine x_al0 rfl dL_law_1163 ?_
  refine x_il3 dL_law_1164 ?_
  refine x_iconst (v := nI 1) dL_law_1165 rfl ?_
  refine x_iadd (nI_add _ _) dL_law_1166 ?_
  refine x_scr (vp_in_nI (show i + 1 < g.2.2.2.2.1 by omega) hg) rfl dL_law_1167 ?_
  refine x_al0 rfl dL_law_1168 ?_
  refine x_il3 dL_law_1169 ?_
  refine x_iconst (v := nI 2) dL_law_1170 rfl ?_
  refine x_iadd (nI_add _ _) dL_law_1171 ?_
  refine x_scr (vp_in_nI (show i + 2 < g.2.2.2.2.1 by omega) hg) rfl dL_law_1172 ?_
  refine x_al0 rfl dL_law_1173 ?_
  refine x_il3 dL_law_1174 ?_
  refine x_iconst (v := nI 3) dL_law_1175 rfl ?_
  refine x_iadd (nI_add _ _) dL_law_1176 ?_
  refine x_scr (vp_in_nI (show i + 3 < g.2.2.2.2.1 by omega) hg) rfl dL_law_1177 ?_
  refine x_callV (as := [.int _, .int _, .int _]) (κ1 := 0) (κ2 := κ) (σ1 := 0) (σ2 := σ + Phi ln) mX12_names_ok lkL_146 rfl rfl (Nat.le_of_ble_eq_true rfl) (Nat.le_of_ble_eq_true rfl) dL_law_1178 hm (by omega) (by omega) (w_names (d := d + 74) J) (fun v h2 hq => ?_)
  obtain ⟨r2, rfl, e2, J2⟩ := hq
  have I2 := I2.mo J J2.mo
  have e : r = r2 := e1.trans e2.symm
  refine x_icmp_eq (tgt := 1583) dL_law_1181 rfl (fun _ => kk h2 _ ⟨_, _, _, _, _, _, _, _, _, _, _, _, J2, I2⟩) (fun q => absurd e q)
theorem lw_look (hi : i + 6 ≤ g.2.2.2.2.1) (hg : g.2.2.2.2.1 < 2 ^ 31) (B : BI h ln) (kk : ∀ (h' : zH) (l2 : zLn), BI h' l2 → Zw g (d + 80) κ (σ + Phi l2) mL_law 1583 (lawL i) [] h' Q) : Zw g (d + 80) (κ + 16) (σ + 13000 + Phi ln) mL_law 1186 (lawL i) [] h Q := by
  obtain ⟨h0, hh, dk, st, un, tp, tr, pi, fl, sb, sj, dr, J, I⟩ := B
  have I := I.mo J Mo.rf
  have J := J.co Co.rf
  obtain ⟨fs, hc⟩ := I.obj
  obtain ⟨n0, n6, -⟩ := I.dkB
  refine x_al1 rfl dL_law_1186 ?_
  refine x_al0 rfl dL_law_1187 ?_
  refine x_il3 dL_law_1188 ?_
  refine x_iconst (v := nI 1) dL_law_1189 rfl ?_
  refine x_iadd (nI_add _ _) dL_law_1190 ?_
  refine x_scr (vp_in_nI (show i + 1 < g.2.2.2.2.1 by omega) hg) rfl dL_law_1191 ?_
  refine x_al0 rfl dL_law_1192 ?_
  refine x_il3 dL_law_1193 ?_
  refine x_iconst (v := nI 2) dL_law_1194 rfl ?_
  refine x_iadd (nI_add _ _) dL_law_1195 ?_
  refine x_scr (vp_in_nI (show i + 2 < g.2.2.2.2.1 by omega) hg) rfl dL_law_1196 ?_
  have ph : 0 + Phi ln ≤ Phi ln + 3610 := by omega
  refine x_callV (as := [.int _, .int _]) (κ1 := 0) (κ2 := κ) (σ1 := 0) (σ2 := σ + 13000 + Phi ln - (0)) mX11_look_ok lkL_147 rfl rfl (Nat.le_of_ble_eq_true rfl) (Nat.le_of_ble_eq_true rfl) dL_law_1197 hc (by omega) (by omega) (k_look (d := d + 72) I) (fun v h1 hq => ?_)
  obtain ⟨r, rfl, e1, I2⟩ := hq
  have J := J.co I2.co
  obtain ⟨fm, hm⟩ := J.obj
  refine Zw.room (κ' := κ) (σ' := σ + Phi ln) ?_ (by omega) (by omega)
  refine x_al2 rfl dL_law_1200 ?_
  refine x_al0 rfl dL_law_1201 ?_
  refine x_il3 dL_law_1202 ?_
  refine x_iconst (v := nI 1) dL_law_1203 rfl ?_
  refine x_iadd (nI_add _ _) dL_law_1204 ?_
  refine x_scr (vp_in_nI (show i + 1 < g.2.2.2.2.1 by omega) hg) rfl dL_law_1205 ?_
  refine x_al0 rfl dL_law_1206 ?_
  refine x_il3 dL_law_1207 ?_
  refine x_iconst (v := nI 2) dL_law_1208 rfl ?_
  refine x_iadd (nI_add _ _) dL_law_1209 ?_
  refine x_scr (vp_in_nI (show i + 2 < g.2.2.2.2.1 by omega) hg) rfl dL_law_1210 ?_
  refine x_callV (as := [.int _, .int _]) (κ1 := 0) (κ2 := κ) (σ1 := 0) (σ2 := σ + Phi ln) mX12_look_ok lkL_150 rfl rfl (Nat.le_of_ble_eq_true rfl) (Nat.le_of_ble_eq_true rfl) dL_law_1211 hm (by omega) (by omega) (w_look (d := d + 74) J) (fun v h2 hq => ?_)
  obtain ⟨r2, rfl, e2, J2⟩ := hq
  have I2 := I2.mo J J2.mo
  have e : r = r2 := e1.trans e2.symm
  refine x_icmp_eq (tgt := 1583) dL_law_1214 rfl (fun _ => kk h2 _ ⟨_, _, _, _, _, _, _, _, _, _, _, _, J2, I2⟩) (fun q => absurd e q)
theorem lw_clues (hi : i + 6 ≤ g.2.2.2.2.1) (hg : g.2.2.2.2.1 < 2 ^ 31) (B : BI h ln) (kk : ∀ (h' : zH) (l2 : zLn), BI h' l2 → Zw g (d + 80) κ (σ + Phi l2) mL_law 1583 (lawL i) [] h' Q) : Zw g (d + 80) (κ + 16) (σ + 13000 + Phi ln) mL_law 1219 (lawL i) [] h Q := by
  obtain ⟨h0, hh, dk, st, un, tp, tr, pi, fl, sb, sj, dr, J, I⟩ := B
  have I := I.mo J Mo.rf
  have J := J.co Co.rf
  obtain ⟨fs, hc⟩ := I.obj
  obtain ⟨n0, n6, -⟩ := I.dkB
  refine x_al1 rfl dL_law_1219 ?_
  refine x_al0 rfl dL_law_1220 ?_
  refine x_il3 dL_law_1221 ?_
  refine x_iconst (v := nI 1) dL_law_1222 rfl ?_
  refine x_iadd (nI_add _ _) dL_law_1223 ?_
  refine x_scr (vp_in_nI (show i + 1 < g.2.2.2.2.1 by omega) hg) rfl dL_law_1224 ?_
  have ph : 0 + Phi ln ≤ Phi ln + 3610 := by omega
  refine x_callV (as := [.int _]) (κ1 := 0) (κ2 := κ) (σ1 := 0) (σ2 := σ + 13000 + Phi ln - (0)) mX11_clues_ok lkL_151 rfl rfl (Nat.le_of_ble_eq_true rfl) (Nat.le_of_ble_eq_true rfl) dL_law_1225 hc (by omega) (by omega) (k_clues (d := d + 72) I) (fun v h1 hq => ?_)
  obtain ⟨r, rfl, e1, I2⟩ := hq
  have J := J.co I2.co
  obtain ⟨fm, hm⟩ := J.obj
  refine Zw.room (κ' := κ) (σ' := σ + Phi ln) ?_ (by omega) (by omega)
  refine x_al2 rfl dL_law_1228 ?_
  refine x_al0 rfl dL_law_1229 ?_
  refine x_il3 dL_law_1230 ?_
  refine x_iconst (v := nI 1) dL_law_1231 rfl ?_
  refine x_iadd (nI_add _ _) dL_law_1232 ?_
  refine x_scr (vp_in_nI (show i + 1 < g.2.2.2.2.1 by omega) hg) rfl dL_law_1233 ?_
  refine x_callV (as := [.int _]) (κ1 := 0) (κ2 := κ) (σ1 := 0) (σ2 := σ + Phi ln) mX12_clues_ok lkL_154 rfl rfl (Nat.le_of_ble_eq_true rfl) (Nat.le_of_ble_eq_true rfl) dL_law_1234 hm (by omega) (by omega) (w_clues (d := d + 74) J) (fun v h2 hq => ?_)
  obtain ⟨r2, rfl, e2, J2⟩ := hq
  have I2 := I2.mo J J2.mo
  have e : r = r2 := e1.trans e2.symm
  refine x_icmp_eq (tgt := 1583) dL_law_1237 rfl (fun _ => kk h2 _ ⟨_, _, _, _, _, _, _, _, _, _, _, _, J2, I2⟩) (fun q => absurd e q)
theorem lw_forces (hi : i + 6 ≤ g.2.2.2.2.1) (hg : g.2.2.2.2.1 < 2 ^ 31) (B : BI h ln) (kk : ∀ (h' : zH) (l2 : zLn), BI h' l2 → Zw g (d + 80) κ (σ + Phi l2) mL_law 1583 (lawL i) [] h' Q) : Zw g (d + 80) (κ + 16) (σ + 13000 + Phi ln) mL_law 1242 (lawL i) [] h Q := by
  obtain ⟨h0, hh, dk, st, un, tp, tr, pi, fl, sb, sj, dr, J, I⟩ := B
  have I := I.mo J Mo.rf
  have J := J.co Co.rf
  obtain ⟨fs, hc⟩ := I.obj
  obtain ⟨n0, n6, -⟩ := I.dkB
  refine x_al1 rfl dL_law_1242 ?_
  refine x_al0 rfl dL_law_1243 ?_
  refine x_il3 dL_law_1244 ?_
  refine x_iconst (v := nI 1) dL_law_1245 rfl ?_
  refine x_iadd (nI_add _ _) dL_law_1246 ?_
  refine x_scr (vp_in_nI (show i + 1 < g.2.2.2.2.1 by omega) hg) rfl dL_law_1247 ?_
  have ph := phi_S (ln := ln) n0 n6
  refine x_callV (as := [.int _]) (κ1 := 1) (κ2 := κ) (σ1 := sS dk.1 ln) (σ2 := σ + 13000 + Phi ln - (sS dk.1 ln)) mX11_forces_ok lkL_155 rfl rfl (Nat.le_of_ble_eq_true rfl) (Nat.le_of_ble_eq_true rfl) dL_law_1248 hc (by omega) (by omega) (k_forces (d := d + 72) I) (fun v h1 hq => ?_)
  obtain ⟨r, rfl, e1, I2⟩ := hq
  have s1 := sS_le (ln := ln) n6
  have s2 := sW_le (ln := ln) n6
  have s3 := sV_le (ln := ln) n6
  have I3 : ∃ l2, CI h h1 dk st un tp tr pi fl l2 sb sj dr ∧ (sS dk.1 ln) + Phi l2 ≤ Phi ln + 13000 := by
    rcases I2 with z | z
    · exact ⟨ln, z, by omega⟩
    · exact ⟨_, z, by omega⟩
  obtain ⟨l2, I2, ph⟩ := I3
  have J := J.co I2.co
  obtain ⟨fm, hm⟩ := J.obj
  refine Zw.room (κ' := κ) (σ' := σ + Phi l2) ?_ (by omega) (by omega)
  refine x_al2 rfl dL_law_1251 ?_
  refine x_al0 rfl dL_law_1252 ?_
  refine x_il3 dL_law_1253 ?_
  refine x_iconst (v := nI 1) dL_law_1254 rfl ?_
  refine x_iadd (nI_add _ _) dL_law_1255 ?_
  refine x_scr (vp_in_nI (show i + 1 < g.2.2.2.2.1 by omega) hg) rfl dL_law_1256 ?_
  refine x_callV (as := [.int _]) (κ1 := 0) (κ2 := κ) (σ1 := 0) (σ2 := σ + Phi l2) mX12_forces_ok lkL_158 rfl rfl (Nat.le_of_ble_eq_true rfl) (Nat.le_of_ble_eq_true rfl) dL_law_1257 hm (by omega) (by omega) (w_forces (d := d + 72) J) (fun v h2 hq => ?_)
  obtain ⟨r2, rfl, e2, J2⟩ := hq
  have I2 := I2.mo J J2.mo
  have e : r = r2 := A_forces_u e1 e2
  refine x_icmp_eq (tgt := 1583) dL_law_1260 rfl (fun _ => kk h2 _ ⟨_, _, _, _, _, _, _, _, _, _, _, _, J2, I2⟩) (fun q => absurd e q)
theorem lw_best (hi : i + 6 ≤ g.2.2.2.2.1) (hg : g.2.2.2.2.1 < 2 ^ 31) (B : BI h ln) (kk : ∀ (h' : zH) (l2 : zLn), BI h' l2 → Zw g (d + 80) κ (σ + Phi l2) mL_law 1583 (lawL i) [] h' Q) : Zw g (d + 80) (κ + 16) (σ + 13000 + Phi ln) mL_law 1265 (lawL i) [] h Q := by
  obtain ⟨h0, hh, dk, st, un, tp, tr, pi, fl, sb, sj, dr, J, I⟩ := B
  have I := I.mo J Mo.rf
  have J := J.co Co.rf
  obtain ⟨fs, hc⟩ := I.obj
  obtain ⟨n0, n6, -⟩ := I.dkB
  refine x_al1 rfl dL_law_1265 ?_
  refine x_al0 rfl dL_law_1266 ?_
  refine x_il3 dL_law_1267 ?_
  refine x_iconst (v := nI 1) dL_law_1268 rfl ?_
  refine x_iadd (nI_add _ _) dL_law_1269 ?_
  refine x_scr (vp_in_nI (show i + 1 < g.2.2.2.2.1 by omega) hg) rfl dL_law_1270 ?_
  have ph := phi_S (ln := ln) n0 n6
  refine x_callV (as := [.int _]) (κ1 := 1) (κ2 := κ) (σ1 := sS dk.1 ln) (σ2 := σ + 13000 + Phi ln - (sS dk.1 ln)) mX11_best_ok lkL_159 rfl rfl (Nat.le_of_ble_eq_true rfl) (Nat.le_of_ble_eq_true rfl) dL_law_1271 hc (by omega) (by omega) (k_best (d := d + 72) I) (fun v h1 hq => ?_)
  obtain ⟨r, rfl, e1, I2⟩ := hq
  have s1 := sS_le (ln := ln) n6
  have s2 := sW_le (ln := ln) n6
  have s3 := sV_le (ln := ln) n6
  have I3 : ∃ l2, CI h h1 dk st un tp tr pi fl l2 sb sj dr ∧ (sS dk.1 ln) + Phi l2 ≤ Phi ln + 13000 := by
    rcases I2 with z | z
    · exact ⟨ln, z, by omega⟩
    · exact ⟨_, z, by omega⟩
  obtain ⟨l2, I2, ph⟩ := I3
  have J := J.co I2.co
  obtain ⟨fm, hm⟩ := J.obj
  refine Zw.room (κ' := κ) (σ' := σ + Phi l2) ?_ (by omega) (by omega)
  refine x_al2 rfl dL_law_1274 ?_
  refine x_al0 rfl dL_law_1275 ?_
  refine x_il3 dL_law_1276 ?_
  refine x_iconst (v := nI 1) dL_law_1277 rfl ?_
  refine x_iadd (nI_add _ _) dL_law_1278 ?_
  refine x_scr (vp_in_nI (show i + 1 < g.2.2.2.2.1 by omega) hg) rfl dL_law_1279 ?_
  refine x_callV (as := [.int _]) (κ1 := 0) (κ2 := κ) (σ1 := 0) (σ2 := σ + Phi l2) mX12_best_ok lkL_162 rfl rfl (Nat.le_of_ble_eq_true rfl) (Nat.le_of_ble_eq_true rfl) dL_law_1280 hm (by omega) (by omega) (w_best (d := d + 72) J) (fun v h2 hq => ?_)
  obtain ⟨r2, rfl, e2, J2⟩ := hq
  have I2 := I2.mo J J2.mo
  have e : r = r2 := A_best_u e1 e2
  refine x_icmp_eq (tgt := 1583) dL_law_1283 rfl (fun _ => kk h2 _ ⟨_, _, _, _, _, _, _, _, _, _, _, _, J2, I2⟩) (fun q => absurd e q)
theorem lw_chance (hi : i + 6 ≤ g.2.2.2.2.1) (hg : g.2.2.2.2.1 < 2 ^ 31) (B : BI h ln) (kk : ∀ (h' : zH) (l2 : zLn), BI h' l2 → Zw g (d + 80) κ (σ + Phi l2) mL_law 1583 (lawL i) [] h' Q) : Zw g (d + 80) (κ + 16) (σ + 13000 + Phi ln) mL_law 1288 (lawL i) [] h Q := by
  obtain ⟨h0, hh, dk, st, un, tp, tr, pi, fl, sb, sj, dr, J, I⟩ := B
  have I := I.mo J Mo.rf
  have J := J.co Co.rf
  obtain ⟨fs, hc⟩ := I.obj
  obtain ⟨n0, n6, -⟩ := I.dkB
  refine x_al1 rfl dL_law_1288 ?_
  refine x_al0 rfl dL_law_1289 ?_
  refine x_il3 dL_law_1290 ?_
  refine x_iconst (v := nI 1) dL_law_1291 rfl ?_
  refine x_iadd (nI_add _ _) dL_law_1292 ?_
  refine x_scr (vp_in_nI (show i + 1 < g.2.2.2.2.1 by omega) hg) rfl dL_law_1293 ?_
  refine x_al0 rfl dL_law_1294 ?_
  refine x_il3 dL_law_1295 ?_
  refine x_iconst (v := nI 2) dL_law_1296 rfl ?_
  refine x_iadd (nI_add _ _) dL_law_1297 ?_
  refine x_scr (vp_in_nI (show i + 2 < g.2.2.2.2.1 by omega) hg) rfl dL_law_1298 ?_
  refine x_al0 rfl dL_law_1299 ?_
  refine x_il3 dL_law_1300 ?_
  refine x_iconst (v := nI 3) dL_law_1301 rfl ?_
  refine x_iadd (nI_add _ _) dL_law_1302 ?_
  refine x_scr (vp_in_nI (show i + 3 < g.2.2.2.2.1 by omega) hg) rfl dL_law_1303 ?_
  have ph := phi_SV (ln := ln) n0 n6
  refine x_callV (as := [.int _, .int _, .int _]) (κ1 := 3) (κ2 := κ) (σ1 := sS dk.1 ln + sV dk.1 ln) (σ2 := σ + 13000 + Phi ln - (sS dk.1 ln + sV dk.1 ln)) mX11_chance_ok lkL_163 rfl rfl (Nat.le_of_ble_eq_true rfl) (Nat.le_of_ble_eq_true rfl) dL_law_1304 hc (by omega) (by omega) (k_chance (d := d + 72) I) (fun v h1 hq => ?_)
  obtain ⟨r, rfl, e1, I2⟩ := hq
  have s1 := sS_le (ln := ln) n6
  have s2 := sW_le (ln := ln) n6
  have s3 := sV_le (ln := ln) n6
  have I3 : ∃ l2, CI h h1 dk st un tp tr pi fl l2 sb sj dr ∧ (sS dk.1 ln + sV dk.1 ln) + Phi l2 ≤ Phi ln + 13000 := by
    rcases I2 with z | z
    · exact ⟨ln, z, by omega⟩
    · exact ⟨_, z, by omega⟩
  obtain ⟨l2, I2, ph⟩ := I3
  have J := J.co I2.co
  obtain ⟨fm, hm⟩ := J.obj
  refine Zw.room (κ' := κ) (σ' := σ + Phi l2) ?_ (by omega) (by omega)
  refine x_al2 rfl dL_law_1307 ?_
  refine x_al0 rfl dL_law_1308 ?_
  refine x_il3 dL_law_1309 ?_
  refine x_iconst (v := nI 1) dL_law_1310 rfl ?_
  refine x_iadd (nI_add _ _) dL_law_1311 ?_
  refine x_scr (vp_in_nI (show i + 1 < g.2.2.2.2.1 by omega) hg) rfl dL_law_1312 ?_
  refine x_al0 rfl dL_law_1313 ?_
  refine x_il3 dL_law_1314 ?_
  refine x_iconst (v := nI 2) dL_law_1315 rfl ?_
  refine x_iadd (nI_add _ _) dL_law_1316 ?_
  refine x_scr (vp_in_nI (show i + 2 < g.2.2.2.2.1 by omega) hg) rfl dL_law_1317 ?_
  refine x_al0 rfl dL_law_1318 ?_
  refine x_il3 dL_law_1319 ?_
  refine x_iconst (v := nI 3) dL_law_1320 rfl ?_
  refine x_iadd (nI_add _ _) dL_law_1321 ?_
  refine x_scr (vp_in_nI (show i + 3 < g.2.2.2.2.1 by omega) hg) rfl dL_law_1322 ?_
  refine x_callV (as := [.int _, .int _, .int _]) (κ1 := 0) (κ2 := κ) (σ1 := 0) (σ2 := σ + Phi l2) mX12_chance_ok lkL_166 rfl rfl (Nat.le_of_ble_eq_true rfl) (Nat.le_of_ble_eq_true rfl) dL_law_1323 hm (by omega) (by omega) (w_chance (d := d + 16) J) (fun v h2 hq => ?_)
  obtain ⟨r2, rfl, e2, J2⟩ := hq
  have I2 := I2.mo J J2.mo
  have e : r = r2 := e1.trans e2.symm
  refine x_icmp_eq (tgt := 1583) dL_law_1326 rfl (fun _ => kk h2 _ ⟨_, _, _, _, _, _, _, _, _, _, _, _, J2, I2⟩) (fun q => absurd e q)
theorem lw_mean (hi : i + 6 ≤ g.2.2.2.2.1) (hg : g.2.2.2.2.1 < 2 ^ 31) (B : BI h ln) (kk : ∀ (h' : zH) (l2 : zLn), BI h' l2 → Zw g (d + 80) κ (σ + Phi l2) mL_law 1583 (lawL i) [] h' Q) : Zw g (d + 80) (κ + 16) (σ + 13000 + Phi ln) mL_law 1331 (lawL i) [] h Q := by
  obtain ⟨h0, hh, dk, st, un, tp, tr, pi, fl, sb, sj, dr, J, I⟩ := B
  have I := I.mo J Mo.rf
  have J := J.co Co.rf
  obtain ⟨fs, hc⟩ := I.obj
  obtain ⟨n0, n6, -⟩ := I.dkB
  refine x_al1 rfl dL_law_1331 ?_
  refine x_al0 rfl dL_law_1332 ?_
  refine x_il3 dL_law_1333 ?_
  refine x_iconst (v := nI 1) dL_law_1334 rfl ?_
  refine x_iadd (nI_add _ _) dL_law_1335 ?_
  refine x_scr (vp_in_nI (show i + 1 < g.2.2.2.2.1 by omega) hg) rfl dL_law_1336 ?_
  refine x_al0 rfl dL_law_1337 ?_
  refine x_il3 dL_law_1338 ?_
  refine x_iconst (v := nI 2) dL_law_1339 rfl ?_
  refine x_iadd (nI_add _ _) dL_law_1340 ?_
  refine x_scr (vp_in_nI (show i + 2 < g.2.2.2.2.1 by omega) hg) rfl dL_law_1341 ?_
  have ph := phi_SV (ln := ln) n0 n6
  refine x_callV (as := [.int _, .int _]) (κ1 := 3) (κ2 := κ) (σ1 := sS dk.1 ln + sV dk.1 ln) (σ2 := σ + 13000 + Phi ln - (sS dk.1 ln + sV dk.1 ln)) mX11_mean_ok lkL_167 rfl rfl (Nat.le_of_ble_eq_true rfl) (Nat.le_of_ble_eq_true rfl) dL_law_1342 hc (by omega) (by omega) (k_mean (d := d + 73) I) (fun v h1 hq => ?_)
  obtain ⟨r, rfl, e1, I2⟩ := hq
  have s1 := sS_le (ln := ln) n6
  have s2 := sW_le (ln := ln) n6
  have s3 := sV_le (ln := ln) n6
  have I3 : ∃ l2, CI h h1 dk st un tp tr pi fl l2 sb sj dr ∧ (sS dk.1 ln + sV dk.1 ln) + Phi l2 ≤ Phi ln + 13000 := by
    rcases I2 with z | z
    · exact ⟨ln, z, by omega⟩
    · exact ⟨_, z, by omega⟩
  obtain ⟨l2, I2, ph⟩ := I3
  have J := J.co I2.co
  obtain ⟨fm, hm⟩ := J.obj
  refine Zw.room (κ' := κ) (σ' := σ + Phi l2) ?_ (by omega) (by omega)
  refine x_al2 rfl dL_law_1345 ?_
  refine x_al0 rfl dL_law_1346 ?_
  refine x_il3 dL_law_1347 ?_
  refine x_iconst (v := nI 1) dL_law_1348 rfl ?_
  refine x_iadd (nI_add _ _) dL_law_1349 ?_
  refine x_scr (vp_in_nI (show i + 1 < g.2.2.2.2.1 by omega) hg) rfl dL_law_1350 ?_
  refine x_al0 rfl dL_law_1351 ?_
  refine x_il3 dL_law_1352 ?_
  refine x_iconst (v := nI 2) dL_law_1353 rfl ?_
  refine x_iadd (nI_add _ _) dL_law_1354 ?_
  refine x_scr (vp_in_nI (show i + 2 < g.2.2.2.2.1 by omega) hg) rfl dL_law_1355 ?_
  refine x_callV (as := [.int _, .int _]) (κ1 := 0) (κ2 := κ) (σ1 := 0) (σ2 := σ + Phi l2) mX12_mean_ok lkL_170 rfl rfl (Nat.le_of_ble_eq_true rfl) (Nat.le_of_ble_eq_true rfl) dL_law_1356 hm (by omega) (by omega) (w_mean (d := d + 16) J) (fun v h2 hq => ?_)
  obtain ⟨r2, rfl, e2, J2⟩ := hq
  have I2 := I2.mo J J2.mo
  have e : r = r2 := e1.trans e2.symm
  refine x_icmp_eq (tgt := 1583) dL_law_1359 rfl (fun _ => kk h2 _ ⟨_, _, _, _, _, _, _, _, _, _, _, _, J2, I2⟩) (fun q => absurd e q)
theorem lw_numbers (hi : i + 6 ≤ g.2.2.2.2.1) (hg : g.2.2.2.2.1 < 2 ^ 31) (B : BI h ln) (kk : ∀ (h' : zH) (l2 : zLn), BI h' l2 → Zw g (d + 80) κ (σ + Phi l2) mL_law 1583 (lawL i) [] h' Q) : Zw g (d + 80) (κ + 16) (σ + 13000 + Phi ln) mL_law 1364 (lawL i) [] h Q := by
  obtain ⟨h0, hh, dk, st, un, tp, tr, pi, fl, sb, sj, dr, J, I⟩ := B
  have I := I.mo J Mo.rf
  have J := J.co Co.rf
  obtain ⟨fs, hc⟩ := I.obj
  obtain ⟨n0, n6, -⟩ := I.dkB
  refine x_al1 rfl dL_law_1364 ?_
  refine x_al0 rfl dL_law_1365 ?_
  refine x_il3 dL_law_1366 ?_
  refine x_iconst (v := nI 1) dL_law_1367 rfl ?_
  refine x_iadd (nI_add _ _) dL_law_1368 ?_
  refine x_scr (vp_in_nI (show i + 1 < g.2.2.2.2.1 by omega) hg) rfl dL_law_1369 ?_
  refine x_al0 rfl dL_law_1370 ?_
  refine x_il3 dL_law_1371 ?_
  refine x_iconst (v := nI 2) dL_law_1372 rfl ?_
  refine x_iadd (nI_add _ _) dL_law_1373 ?_
  refine x_scr (vp_in_nI (show i + 2 < g.2.2.2.2.1 by omega) hg) rfl dL_law_1374 ?_
  refine x_al0 rfl dL_law_1375 ?_
  refine x_il3 dL_law_1376 ?_
  refine x_iconst (v := nI 3) dL_law_1377 rfl ?_
  refine x_iadd (nI_add _ _) dL_law_1378 ?_
  refine x_scr (vp_in_nI (show i + 3 < g.2.2.2.2.1 by omega) hg) rfl dL_law_1379 ?_
  have ph : 0 + Phi ln ≤ Phi ln + 3610 := by omega
  refine x_callV (as := [.int _, .int _, .int _]) (κ1 := 0) (κ2 := κ) (σ1 := 0) (σ2 := σ + 13000 + Phi ln - (0)) mX11_numbers_ok lkL_171 rfl rfl (Nat.le_of_ble_eq_true rfl) (Nat.le_of_ble_eq_true rfl) dL_law_1380 hc (by omega) (by omega) (k_numbers (d := d + 76) I) (fun v h1 hq => ?_)
  obtain ⟨r, rfl, e1, I2⟩ := hq
  have J := J.co I2.co
  obtain ⟨fm, hm⟩ := J.obj
  refine Zw.room (κ' := κ) (σ' := σ + Phi ln) ?_ (by omega) (by omega)
  refine x_al2 rfl dL_law_1383 ?_
  refine x_al0 rfl dL_law_1384 ?_
  refine x_il3 dL_law_1385 ?_
  refine x_iconst (v := nI 1) dL_law_1386 rfl ?_
  refine x_iadd (nI_add _ _) dL_law_1387 ?_
  refine x_scr (vp_in_nI (show i + 1 < g.2.2.2.2.1 by omega) hg) rfl dL_law_1388 ?_
  refine x_al0 rfl dL_law_1389 ?_
  refine x_il3 dL_law_1390 ?_
  refine x_iconst (v := nI 2) dL_law_1391 rfl ?_
  refine x_iadd (nI_add _ _) dL_law_1392 ?_
  refine x_scr (vp_in_nI (show i + 2 < g.2.2.2.2.1 by omega) hg) rfl dL_law_1393 ?_
  refine x_al0 rfl dL_law_1394 ?_
  refine x_il3 dL_law_1395 ?_
  refine x_iconst (v := nI 3) dL_law_1396 rfl ?_
  refine x_iadd (nI_add _ _) dL_law_1397 ?_
  refine x_scr (vp_in_nI (show i + 3 < g.2.2.2.2.1 by omega) hg) rfl dL_law_1398 ?_
  refine x_callV (as := [.int _, .int _, .int _]) (κ1 := 0) (κ2 := κ) (σ1 := 0) (σ2 := σ + Phi ln) mX12_numbers_ok lkL_174 rfl rfl (Nat.le_of_ble_eq_true rfl) (Nat.le_of_ble_eq_true rfl) dL_law_1399 hm (by omega) (by omega) (w_numbers (d := d + 77) J) (fun v h2 hq => ?_)
  obtain ⟨r2, rfl, e2, J2⟩ := hq
  have I2 := I2.mo J J2.mo
  have e : r = r2 := e1.trans e2.symm
  refine x_icmp_eq (tgt := 1583) dL_law_1402 rfl (fun _ => kk h2 _ ⟨_, _, _, _, _, _, _, _, _, _, _, _, J2, I2⟩) (fun q => absurd e q)
theorem lw_write (hi : i + 6 ≤ g.2.2.2.2.1) (hg : g.2.2.2.2.1 < 2 ^ 31) (B : BI h ln) (kk : ∀ (h' : zH) (l2 : zLn), BI h' l2 → Zw g (d + 80) κ (σ + Phi l2) mL_law 1583 (lawL i) [] h' Q) : Zw g (d + 80) (κ + 16) (σ + 13000 + Phi ln) mL_law 1407 (lawL i) [] h Q := by
  obtain ⟨h0, hh, dk, st, un, tp, tr, pi, fl, sb, sj, dr, J, I⟩ := B
  have I := I.mo J Mo.rf
  have J := J.co Co.rf
  obtain ⟨fs, hc⟩ := I.obj
  obtain ⟨n0, n6, -⟩ := I.dkB
  refine x_al1 rfl dL_law_1407 ?_
  refine x_al0 rfl dL_law_1408 ?_
  refine x_il3 dL_law_1409 ?_
  refine x_iconst (v := nI 1) dL_law_1410 rfl ?_
  refine x_iadd (nI_add _ _) dL_law_1411 ?_
  refine x_scr (vp_in_nI (show i + 1 < g.2.2.2.2.1 by omega) hg) rfl dL_law_1412 ?_
  refine x_al0 rfl dL_law_1413 ?_
  refine x_il3 dL_law_1414 ?_
  refine x_iconst (v := nI 2) dL_law_1415 rfl ?_
  refine x_iadd (nI_add _ _) dL_law_1416 ?_
  refine x_scr (vp_in_nI (show i + 2 < g.2.2.2.2.1 by omega) hg) rfl dL_law_1417 ?_
  refine x_al0 rfl dL_law_1418 ?_
  refine x_il3 dL_law_1419 ?_
  refine x_iconst (v := nI 3) dL_law_1420 rfl ?_
  refine x_iadd (nI_add _ _) dL_law_1421 ?_
  refine x_scr (vp_in_nI (show i + 3 < g.2.2.2.2.1 by omega) hg) rfl dL_law_1422 ?_
  refine x_i2l rfl dL_law_1423 ?_
  refine x_bipush (v := nI 32) dL_law_1424 rfl ?_
  refine x_lshl rfl dL_law_1426 ?_
  refine x_al0 rfl dL_law_1427 ?_
  refine x_il3 dL_law_1428 ?_
  refine x_iconst (v := nI 4) dL_law_1429 rfl ?_
  refine x_iadd (nI_add _ _) dL_law_1430 ?_
  refine x_scr (vp_in_nI (show i + 4 < g.2.2.2.2.1 by omega) hg) rfl dL_law_1431 ?_
  refine x_i2l rfl dL_law_1432 ?_
  refine x_ldc2 kcL_81 dL_law_1433 ?_
  refine x_land rfl dL_law_1436 ?_
  refine x_lor rfl dL_law_1437 ?_
  have ph : 0 + Phi ln ≤ Phi ln + 3610 := by omega
  refine x_callV (as := [.int _, .int _, .long _]) (κ1 := 0) (κ2 := κ) (σ1 := 0) (σ2 := σ + 13000 + Phi ln - (0)) mX11_write_ok lkL_175 rfl rfl (Nat.le_of_ble_eq_true rfl) (Nat.le_of_ble_eq_true rfl) dL_law_1438 hc (by omega) (by omega) (k_write (d := d + 76) I) (fun v h1 hq => ?_)
  obtain ⟨r, rfl, e1, I2⟩ := hq
  have J := J.co I2.co
  obtain ⟨fm, hm⟩ := J.obj
  refine Zw.room (κ' := κ) (σ' := σ + Phi ln) ?_ (by omega) (by omega)
  refine x_al2 rfl dL_law_1441 ?_
  refine x_al0 rfl dL_law_1442 ?_
  refine x_il3 dL_law_1443 ?_
  refine x_iconst (v := nI 1) dL_law_1444 rfl ?_
  refine x_iadd (nI_add _ _) dL_law_1445 ?_
  refine x_scr (vp_in_nI (show i + 1 < g.2.2.2.2.1 by omega) hg) rfl dL_law_1446 ?_
  refine x_al0 rfl dL_law_1447 ?_
  refine x_il3 dL_law_1448 ?_
  refine x_iconst (v := nI 2) dL_law_1449 rfl ?_
  refine x_iadd (nI_add _ _) dL_law_1450 ?_
  refine x_scr (vp_in_nI (show i + 2 < g.2.2.2.2.1 by omega) hg) rfl dL_law_1451 ?_
  refine x_al0 rfl dL_law_1452 ?_
  refine x_il3 dL_law_1453 ?_
  refine x_iconst (v := nI 3) dL_law_1454 rfl ?_
  refine x_iadd (nI_add _ _) dL_law_1455 ?_
  refine x_scr (vp_in_nI (show i + 3 < g.2.2.2.2.1 by omega) hg) rfl dL_law_1456 ?_
  refine x_i2l rfl dL_law_1457 ?_
  refine x_bipush (v := nI 32) dL_law_1458 rfl ?_
  refine x_lshl rfl dL_law_1460 ?_
  refine x_al0 rfl dL_law_1461 ?_
  refine x_il3 dL_law_1462 ?_
  refine x_iconst (v := nI 4) dL_law_1463 rfl ?_
  refine x_iadd (nI_add _ _) dL_law_1464 ?_
  refine x_scr (vp_in_nI (show i + 4 < g.2.2.2.2.1 by omega) hg) rfl dL_law_1465 ?_
  refine x_i2l rfl dL_law_1466 ?_
  refine x_ldc2 kcL_81 dL_law_1467 ?_
  refine x_land rfl dL_law_1470 ?_
  refine x_lor rfl dL_law_1471 ?_
  refine x_callV (as := [.int _, .int _, .long _]) (κ1 := 0) (κ2 := κ) (σ1 := 0) (σ2 := σ + Phi ln) mX12_write_ok lkL_179 rfl rfl (Nat.le_of_ble_eq_true rfl) (Nat.le_of_ble_eq_true rfl) dL_law_1472 hm (by omega) (by omega) (w_write (d := d + 77) J) (fun v h2 hq => ?_)
  obtain ⟨r2, rfl, e2, J2⟩ := hq
  have I2 := I2.mo J J2.mo
  have e : r = r2 := e1.trans e2.symm
  refine x_lcmp rfl dL_law_1475 ?_
  refine x_if_eq (tgt := 1583) dL_law_1476 rfl (fun _ => kk h2 _ ⟨_, _, _, _, _, _, _, _, _, _, _, _, J2, I2⟩) (fun q => absurd (cmp_eq.mpr e) q)
theorem lw_lists (hi : i + 6 ≤ g.2.2.2.2.1) (hg : g.2.2.2.2.1 < 2 ^ 31) (B : BI h ln) (kk : ∀ (h' : zH) (l2 : zLn), BI h' l2 → Zw g (d + 80) κ (σ + Phi l2) mL_law 1583 (lawL i) [] h' Q) : Zw g (d + 80) (κ + 16) (σ + 13000 + Phi ln) mL_law 1481 (lawL i) [] h Q := by
  obtain ⟨h0, hh, dk, st, un, tp, tr, pi, fl, sb, sj, dr, J, I⟩ := B
  have I := I.mo J Mo.rf
  have J := J.co Co.rf
  obtain ⟨fs, hc⟩ := I.obj
  obtain ⟨n0, n6, -⟩ := I.dkB
  refine x_al1 rfl dL_law_1481 ?_
  refine x_al0 rfl dL_law_1482 ?_
  refine x_il3 dL_law_1483 ?_
  refine x_iconst (v := nI 1) dL_law_1484 rfl ?_
  refine x_iadd (nI_add _ _) dL_law_1485 ?_
  refine x_scr (vp_in_nI (show i + 1 < g.2.2.2.2.1 by omega) hg) rfl dL_law_1486 ?_
  refine x_al0 rfl dL_law_1487 ?_
  refine x_il3 dL_law_1488 ?_
  refine x_iconst (v := nI 2) dL_law_1489 rfl ?_
  refine x_iadd (nI_add _ _) dL_law_1490 ?_
  refine x_scr (vp_in_nI (show i + 2 < g.2.2.2.2.1 by omega) hg) rfl dL_law_1491 ?_
  have ph : 0 + Phi ln ≤ Phi ln + 3610 := by omega
  refine x_callV (as := [.int _, .int _]) (κ1 := 0) (κ2 := κ) (σ1 := 0) (σ2 := σ + 13000 + Phi ln - (0)) mX11_lists_ok lkL_180 rfl rfl (Nat.le_of_ble_eq_true rfl) (Nat.le_of_ble_eq_true rfl) dL_law_1492 hc (by omega) (by omega) (k_lists (d := d + 76) I) (fun v h1 hq => ?_)
  obtain ⟨r, rfl, e1, I2⟩ := hq
  have J := J.co I2.co
  obtain ⟨fm, hm⟩ := J.obj
  refine Zw.room (κ' := κ) (σ' := σ + Phi ln) ?_ (by omega) (by omega)
  refine x_al2 rfl dL_law_1495 ?_
  refine x_al0 rfl dL_law_1496 ?_
  refine x_il3 dL_law_1497 ?_
  refine x_iconst (v := nI 1) dL_law_1498 rfl ?_
  refine x_iadd (nI_add _ _) dL_law_1499 ?_
  refine x_scr (vp_in_nI (show i + 1 < g.2.2.2.2.1 by omega) hg) rfl dL_law_1500 ?_
  refine x_al0 rfl dL_law_1501 ?_
  refine x_il3 dL_law_1502 ?_
  refine x_iconst (v := nI 2) dL_law_1503 rfl ?_
  refine x_iadd (nI_add _ _) dL_law_1504 ?_
  refine x_scr (vp_in_nI (show i + 2 < g.2.2.2.2.1 by omega) hg) rfl dL_law_1505 ?_
  refine x_callV (as := [.int _, .int _]) (κ1 := 0) (κ2 := κ) (σ1 := 0) (σ2 := σ + Phi ln) mX12_lists_ok lkL_183 rfl rfl (Nat.le_of_ble_eq_true rfl) (Nat.le_of_ble_eq_true rfl) dL_law_1506 hm (by omega) (by omega) (w_lists (d := d + 77) J) (fun v h2 hq => ?_)
  obtain ⟨r2, rfl, e2, J2⟩ := hq
  have I2 := I2.mo J J2.mo
  have e : r = r2 := e1.trans e2.symm
  refine x_icmp_eq (tgt := 1583) dL_law_1509 rfl (fun _ => kk h2 _ ⟨_, _, _, _, _, _, _, _, _, _, _, _, J2, I2⟩) (fun q => absurd e q)
theorem lw_image (hi : i + 6 ≤ g.2.2.2.2.1) (hg : g.2.2.2.2.1 < 2 ^ 31) (B : BI h ln) (kk : ∀ (h' : zH) (l2 : zLn), BI h' l2 → Zw g (d + 80) κ (σ + Phi l2) mL_law 1583 (lawL i) [] h' Q) : Zw g (d + 80) (κ + 16) (σ + 13000 + Phi ln) mL_law 1514 (lawL i) [] h Q := by
  obtain ⟨h0, hh, dk, st, un, tp, tr, pi, fl, sb, sj, dr, J, I⟩ := B
  have I := I.mo J Mo.rf
  have J := J.co Co.rf
  obtain ⟨fs, hc⟩ := I.obj
  obtain ⟨n0, n6, -⟩ := I.dkB
  refine x_al1 rfl dL_law_1514 ?_
  refine x_al0 rfl dL_law_1515 ?_
  refine x_il3 dL_law_1516 ?_
  refine x_iconst (v := nI 1) dL_law_1517 rfl ?_
  refine x_iadd (nI_add _ _) dL_law_1518 ?_
  refine x_scr (vp_in_nI (show i + 1 < g.2.2.2.2.1 by omega) hg) rfl dL_law_1519 ?_
  have ph : 0 + Phi ln ≤ Phi ln + 3610 := by omega
  refine x_callV (as := [.int _]) (κ1 := 0) (κ2 := κ) (σ1 := 0) (σ2 := σ + 13000 + Phi ln - (0)) mX11_image_ok lkL_184 rfl rfl (Nat.le_of_ble_eq_true rfl) (Nat.le_of_ble_eq_true rfl) dL_law_1520 hc (by omega) (by omega) (k_image (d := d + 78) I) (fun v h1 hq => ?_)
  obtain ⟨r, rfl, e1, I2⟩ := hq
  have J := J.co I2.co
  obtain ⟨fm, hm⟩ := J.obj
  refine Zw.room (κ' := κ) (σ' := σ + Phi ln) ?_ (by omega) (by omega)
  refine x_al2 rfl dL_law_1523 ?_
  refine x_al0 rfl dL_law_1524 ?_
  refine x_il3 dL_law_1525 ?_
  refine x_iconst (v := nI 1) dL_law_1526 rfl ?_
  refine x_iadd (nI_add _ _) dL_law_1527 ?_
  refine x_scr (vp_in_nI (show i + 1 < g.2.2.2.2.1 by omega) hg) rfl dL_law_1528 ?_
  refine x_callV (as := [.int _]) (κ1 := 0) (κ2 := κ) (σ1 := 0) (σ2 := σ + Phi ln) mX12_image_ok lkL_187 rfl rfl (Nat.le_of_ble_eq_true rfl) (Nat.le_of_ble_eq_true rfl) dL_law_1529 hm (by omega) (by omega) (w_image (d := d + 78) J) (fun v h2 hq => ?_)
  obtain ⟨r2, rfl, e2, J2⟩ := hq
  have I2 := I2.mo J J2.mo
  have e : r = r2 := e1.trans e2.symm
  refine x_icmp_eq (tgt := 1583) dL_law_1532 rfl (fun _ => kk h2 _ ⟨_, _, _, _, _, _, _, _, _, _, _, _, J2, I2⟩) (fun q => absurd e q)
theorem lw_restore (hi : i + 6 ≤ g.2.2.2.2.1) (hg : g.2.2.2.2.1 < 2 ^ 31) (B : BI h ln) (kk : ∀ (h' : zH) (l2 : zLn), BI h' l2 → Zw g (d + 80) κ (σ + Phi l2) mL_law 1583 (lawL i) [] h' Q) : Zw g (d + 80) (κ + 16) (σ + 13000 + Phi ln) mL_law 1537 (lawL i) [] h Q := by
  obtain ⟨h0, hh, dk, st, un, tp, tr, pi, fl, sb, sj, dr, J, I⟩ := B
  have I := I.mo J Mo.rf
  have J := J.co Co.rf
  obtain ⟨fs, hc⟩ := I.obj
  obtain ⟨n0, n6, -⟩ := I.dkB
  refine x_al1 rfl dL_law_1537 ?_
  refine x_al0 rfl dL_law_1538 ?_
  refine x_il3 dL_law_1539 ?_
  refine x_iconst (v := nI 1) dL_law_1540 rfl ?_
  refine x_iadd (nI_add _ _) dL_law_1541 ?_
  refine x_scr (vp_in_nI (show i + 1 < g.2.2.2.2.1 by omega) hg) rfl dL_law_1542 ?_
  have ph := phi_rest (x := (g.2.2.2.2.2 (nI (i + 1)).toNatClampNeg)) I
  refine x_callV (as := [.int _]) (κ1 := 3) (κ2 := κ) (σ1 := C_restore dk pi ln (g.2.2.2.2.2 (nI (i + 1)).toNatClampNeg)) (σ2 := σ + 13000 + Phi ln - (C_restore dk pi ln (g.2.2.2.2.2 (nI (i + 1)).toNatClampNeg))) mX11_restore_ok lkL_188 rfl rfl (Nat.le_of_ble_eq_true rfl) (Nat.le_of_ble_eq_true rfl) dL_law_1543 hc (by omega) (by omega) (k_restore (d := d + 74) I) (fun v h1 hq => ?_)
  obtain ⟨r, rfl, e1, I2⟩ := hq
  have J := J.co I2.co
  obtain ⟨fm, hm⟩ := J.obj
  refine Zw.room (κ' := κ) (σ' := σ + Phi (L_restore dk pi ln (g.2.2.2.2.2 (nI (i + 1)).toNatClampNeg))) ?_ (by omega) (by omega)
  refine x_al2 rfl dL_law_1546 ?_
  refine x_al0 rfl dL_law_1547 ?_
  refine x_il3 dL_law_1548 ?_
  refine x_iconst (v := nI 1) dL_law_1549 rfl ?_
  refine x_iadd (nI_add _ _) dL_law_1550 ?_
  refine x_scr (vp_in_nI (show i + 1 < g.2.2.2.2.1 by omega) hg) rfl dL_law_1551 ?_
  refine x_callV (as := [.int _]) (κ1 := 0) (κ2 := κ) (σ1 := 0) (σ2 := σ + Phi (L_restore dk pi ln (g.2.2.2.2.2 (nI (i + 1)).toNatClampNeg))) mX12_restore_ok lkL_191 rfl rfl (Nat.le_of_ble_eq_true rfl) (Nat.le_of_ble_eq_true rfl) dL_law_1552 hm (by omega) (by omega) (w_restore (d := d + 71) J) (fun v h2 hq => ?_)
  obtain ⟨r2, rfl, e2, J2⟩ := hq
  have I2 := I2.mo J J2.mo
  have e : r = r2 := e1.trans e2.symm
  refine x_icmp_eq (tgt := 1583) dL_law_1555 rfl (fun _ => kk h2 _ ⟨_, _, _, _, _, _, _, _, _, _, _, _, J2, I2⟩) (fun q => absurd e q)
theorem lw_count (hi : i + 6 ≤ g.2.2.2.2.1) (hg : g.2.2.2.2.1 < 2 ^ 31) (B : BI h ln) (kk : ∀ (h' : zH) (l2 : zLn), BI h' l2 → Zw g (d + 80) κ (σ + Phi l2) mL_law 1583 (lawL i) [] h' Q) : Zw g (d + 80) (κ + 16) (σ + 13000 + Phi ln) mL_law 1560 (lawL i) [] h Q := by
  obtain ⟨h0, hh, dk, st, un, tp, tr, pi, fl, sb, sj, dr, J, I⟩ := B
  have I := I.mo J Mo.rf
  have J := J.co Co.rf
  obtain ⟨fs, hc⟩ := I.obj
  obtain ⟨n0, n6, -⟩ := I.dkB
  refine x_al1 rfl dL_law_1560 ?_
  refine x_al0 rfl dL_law_1561 ?_
  refine x_il3 dL_law_1562 ?_
  refine x_iconst (v := nI 1) dL_law_1563 rfl ?_
  refine x_iadd (nI_add _ _) dL_law_1564 ?_
  refine x_scr (vp_in_nI (show i + 1 < g.2.2.2.2.1 by omega) hg) rfl dL_law_1565 ?_
  have ph : 0 + Phi ln ≤ Phi ln + 3610 := by omega
  refine x_callV (as := [.int _]) (κ1 := 0) (κ2 := κ) (σ1 := 0) (σ2 := σ + 13000 + Phi ln - (0)) mX11_count_ok lkL_192 rfl rfl (Nat.le_of_ble_eq_true rfl) (Nat.le_of_ble_eq_true rfl) dL_law_1566 hc (by omega) (by omega) (k_count (d := d + 72) I) (fun v h1 hq => ?_)
  obtain ⟨r, rfl, e1, I2⟩ := hq
  have J := J.co I2.co
  obtain ⟨fm, hm⟩ := J.obj
  refine Zw.room (κ' := κ) (σ' := σ + Phi ln) ?_ (by omega) (by omega)
  refine x_al2 rfl dL_law_1569 ?_
  refine x_al0 rfl dL_law_1570 ?_
  refine x_il3 dL_law_1571 ?_
  refine x_iconst (v := nI 1) dL_law_1572 rfl ?_
  refine x_iadd (nI_add _ _) dL_law_1573 ?_
  refine x_scr (vp_in_nI (show i + 1 < g.2.2.2.2.1 by omega) hg) rfl dL_law_1574 ?_
  refine x_callV (as := [.int _]) (κ1 := 0) (κ2 := κ) (σ1 := 0) (σ2 := σ + Phi ln) mX12_count_ok lkL_195 rfl rfl (Nat.le_of_ble_eq_true rfl) (Nat.le_of_ble_eq_true rfl) dL_law_1575 hm (by omega) (by omega) (w_count (d := d + 74) J) (fun v h2 hq => ?_)
  obtain ⟨r2, rfl, e2, J2⟩ := hq
  have I2 := I2.mo J J2.mo
  have e : r = r2 := e1.trans e2.symm
  refine x_icmp_eq (tgt := 1583) dL_law_1578 rfl (fun _ => kk h2 _ ⟨_, _, _, _, _, _, _, _, _, _, _, _, J2, I2⟩) (fun q => absurd e q)
end ZCs

