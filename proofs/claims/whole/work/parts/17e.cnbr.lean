/-! the class's reachNeighbours, pairFrom -/
theorem stp_n {o : Option Nat} (h : ∀ m, o = some m → m < 2 ^ 31) : stp o = -1 ↔ o = none := by
  cases o with
  | none => exact ⟨fun _ => rfl, fun _ => rfl⟩
  | some m => exact ⟨fun z => absurd z (nI_nm (h m rfl)), fun z => by cases z⟩
section ZNb
variable {g : zG} {d : Nat} {h0 h h' : zH} {dk : zDk} {st : zSt} {un : List zSt} {tp : List Nat} {tr : Nat → zTr} {pi : Nat → zPi} {fl : Nat × Nat} {ln : zLn} {sb sj : zS3} {dr : Int32} {wst wqu wwe wla : Nat} {qd : Int32} {fs fq : Nat → Int32} {fw fa : Nat → Int64} {B : Nat → Bool} {f : Nat → Option Nat} {qf : Nat → Nat} {c : Nat}
theorem GE.r (G : GE h0 h dk st un tp tr pi fl ln sb sj dr wst wqu wwe wla qd fs fq fw fa) : ∃ rn rs sw rt rmv rmk moc len fre, h[15]? = some (rowsE dk.1 sw rn rs) ∧ h[20]? = some (visE rt rmv rmk moc len fre) := by
  obtain ⟨rt, rn, rs, sw, rmv, rmk, moc, len, fre, fc, fr, vn, vs, qd, wst, wqu, wwe, wla, hx, hn, hd, hR, hv, hw, hs⟩ := G.ci.o
  exact ⟨rn, rs, sw, rt, rmv, rmk, moc, len, fre, hR, hv⟩
/-- ways with the queue as it stands -/
def WP (h0 h : zH) (dk : zDk) (st : zSt) (un : List zSt) (tp : List Nat) (tr : Nat → zTr) (pi : Nat → zPi) (fl : Nat × Nat) (ln : zLn) (sb sj : zS3) (dr : Int32) (wst wqu wwe wla : Nat) (fw fa : Nat → Int64) (B : Nat → Bool) (f : Nat → Option Nat) (qf : Nat → Nat) (c : Nat) : Prop := ∃ fs fq, GE h0 h dk st un tp tr pi fl ln sb sj dr wst wqu wwe wla (nI c) fs fq fw fa ∧ BQ dk.1 B f qf c ∧ (∀ t, t < fct dk.1 → fs t = stp (f t)) ∧ ∀ j, j < c → fq j = nI (qf j)
theorem BQ.m31 {n t m : Nat} (hn : n ≤ 6) (b : BQ n B f qf c) (ht : t < fct n) (e : f t = some m) : m < 720 ∧ c ≤ 720 := by
  obtain ⟨j, j1, j2⟩ := b.has t ht m e
  obtain ⟨-, m', e', l⟩ := b.le j j1
  rw [j2, e] at e'
  cases e'
  have : c ≤ fct n := by rw [b.cnt]; exact cnt_le _
  have := fct_le hn
  omega
theorem g_reachN {i m : Nat} (W : WP h0 h dk st un tp tr pi fl ln sb sj dr wst wqu wwe wla fw fa B f qf c) (hs : ln.2.2.1 = true) (hl : fct dk.1 ≤ ln.2.2.2.2.2.1) (hi : i < c) (hm : f (qf i) = some m) (hb : ∀ j, j < c → ∀ m', f (qf j) = some m' → m' ≤ m + 1) : Zm g (d + 1) 0 0 mX10_reachNeighbours [.ref 26, .int (nI (qf i))] h (rVp (fun h' => ∃ f' qf' c', WP h0 h' dk st un tp tr pi fl ln sb sj dr wst wqu wwe wla fw fa B f' qf' c' ∧ Ext f f' qf qf' c c' ∧ (∀ k, k < np dk.1 → ∃ m', f' (swp dk.1 (qf i) k) = some m' ∧ m' ≤ m + 1) ∧ ∀ j, j < c' → ∀ m', f' (qf' j) = some m' → m' ≤ m + 1)) := by
  obtain ⟨fs, fq, G, b, hS, hQ⟩ := W
  obtain ⟨d1, d2, d3, d4, d5, d6, d7, d8⟩ := G.ci.dkB
  have npl := np_le d2
  have ql := (b.le i hi).1
  have m31 := b.m31 d2 ql hm
  have mi : m ≤ i := by obtain ⟨-, m', e, l⟩ := b.le i hi; rw [hm] at e; cases e; exact l
  obtain ⟨rn, rs, sw, rt, rmv, rmk, moc, len, fre, hR, hv⟩ := G.r
  obtain ⟨o1, o2, o3, o4, o5, o6, o7, o8, o9, o10, p1, p2, p3, p4, p5, p6, p7, p8⟩ := G.o
  show Zw g (d + 1) 0 0 mX10_reachNeighbours 0 [some (.ref 26), some (.int (nI (qf i))), none, none, none] [] h _
  refine x_al0 rfl dX10_reachNeighbours_0 ?_
  refine x_il1 dX10_reachNeighbours_1 ?_
  refine x_cv1I mX10_stepsFrom_ok lkX10_56 rfl (Nat.le_of_ble_eq_true rfl) (Nat.le_of_ble_eq_true rfl) dX10_reachNeighbours_2 o1  (g_stepsFrom G (by omega)) ?_
  rw [hS _ ql, hm, show stp (some m) = nI m from rfl]
  refine x_iconst (v := nI 1) dX10_reachNeighbours_5 rfl ?_
  first | refine x_iadd (nI_add _ _) dX10_reachNeighbours_6 ?_ | refine x_iadd rfl dX10_reachNeighbours_6 ?_
  refine x_is2 rfl dX10_reachNeighbours_7 ?_
  refine x_iconst (v := nI 0) dX10_reachNeighbours_8 rfl ?_
  refine x_is3 rfl dX10_reachNeighbours_9 ?_
  refine x_wh (fun (a : Nat × (Nat → Option Nat) × (Nat → Nat) × Nat × Option Value) => [some (.ref 26), some (.int (nI (qf i))), some (.int (nI (m + 1))), some (.int (nI a.1)), a.2.2.2.2]) (fun a h => a.1 ≤ np dk.1 ∧ WP h0 h dk st un tp tr pi fl ln sb sj dr wst wqu wwe wla fw fa B a.2.1 a.2.2.1 a.2.2.2.1 ∧ Ext f a.2.1 qf a.2.2.1 c a.2.2.2.1 ∧ (∀ k, k < a.1 → ∃ m', a.2.1 (swp dk.1 (qf i) k) = some m' ∧ m' ≤ m + 1) ∧ ∀ j, j < a.2.2.2.1 → ∀ m', a.2.1 (a.2.2.1 j) = some m' → m' ≤ m + 1) (fun a => np dk.1 - a.1) (0, f, qf, c, none) ⟨Nat.zero_le _, ⟨fs, fq, G, b, hS, hQ⟩, Ext.rf, fun k hk => absurd hk (Nat.not_lt_zero _), hb⟩ (fun a h hI ih => ?_)
  obtain ⟨k, f2, qf2, c2, lv⟩ := a
  obtain ⟨hk, ⟨fs, fq, G, b2, hS, hQ⟩, hE, hN, hb2⟩ := hI
  simp only at hk b2 hS hQ hE hN hb2 G
  dsimp only
  obtain ⟨rn, rs, sw, rt, rmv, rmk, moc, len, fre, hR, hv⟩ := G.r
  obtain ⟨o1, o2, o3, o4, o5, o6, o7, o8, o9, o10, p1, p2, p3, p4, p5, p6, p7, p8⟩ := G.o
  refine x_il3 dX10_reachNeighbours_10 ?_
  refine x_al0 rfl dX10_reachNeighbours_11 ?_
  refine x_get fdX10_22 o1 rfl dX10_reachNeighbours_12 ?_
  refine x_get fdX10_59 hR rfl dX10_reachNeighbours_15 ?_
  rw [show dk.1 * (dk.1 - 1) / 2 = np dk.1 from rfl]
  refine x_icmp_ge (tgt := 55) dX10_reachNeighbours_18 rfl (fun q18 => ?_) (fun q18 => ?_)
  · skip
    first | (simp only [cmp_lt, cmp_gt, cmp_eq, zN_cge, zN_cle, Decidable.not_not] at q18) | (simp (disch := omega) only [zN_le, zN_lt, zN_0, zN_1, nI_toInt, zN_eq, zN_eq0, b2_z, b2_nz, Decidable.not_not, Int.not_lt, Int.not_le, zK0, zK1, zK2, zK3, zK5, zK7, zK8, zK9, zK10, zK19, zK20, zK40, zK99, zK100, zK199] at q18) | skip
    exact x_vret rfl dX10_reachNeighbours_55 ⟨rfl, f2, qf2, c2, ⟨fs, fq, G, b2, hS, hQ⟩, hE, fun k' hk' => hN k' (by omega), hb2⟩
  · skip
    first | (simp only [cmp_lt, cmp_gt, cmp_eq, zN_cge, zN_cle, Decidable.not_not] at q18) | (simp (disch := omega) only [zN_le, zN_lt, zN_0, zN_1, nI_toInt, zN_eq, zN_eq0, b2_z, b2_nz, Decidable.not_not, Int.not_lt, Int.not_le, zK0, zK1, zK2, zK3, zK5, zK7, zK8, zK9, zK10, zK19, zK20, zK40, zK99, zK100, zK199] at q18) | skip
    have kl : k < np dk.1 := by omega
    have sl := swp_lt d1 d2 ql kl
    refine x_al0 rfl dX10_reachNeighbours_21 ?_
    refine x_get fdX10_22 o1 rfl dX10_reachNeighbours_22 ?_
    refine x_il1 dX10_reachNeighbours_25 ?_
    refine x_il3 dX10_reachNeighbours_26 ?_
    refine x_cv2I mX5_bySwap_ok lkX10_62 rfl (Nat.le_of_ble_eq_true rfl) (Nat.le_of_ble_eq_true rfl) dX10_reachNeighbours_27 hR  (k_bySwap G.ci hs ql kl) ?_
    refine x_is4 rfl dX10_reachNeighbours_30 ?_
    refine x_al0 rfl dX10_reachNeighbours_32 ?_
    refine x_il4 dX10_reachNeighbours_33 ?_
    refine x_cv1I mX10_stepsFrom_ok lkX10_56 rfl (Nat.le_of_ble_eq_true rfl) (Nat.le_of_ble_eq_true rfl) dX10_reachNeighbours_35 o1  (g_stepsFrom G (by omega)) ?_
    rw [hS _ sl]
    refine x_iconst (v := (-1)) dX10_reachNeighbours_38 rfl ?_
    refine x_icmp_ne (tgt := 49) dX10_reachNeighbours_39 rfl (fun q39 => ?_) (fun q39 => ?_)
    · skip
      first | refine x_ii3 rfl (nI_1 _) dX10_reachNeighbours_49 ?_ | refine x_ii3 rfl rfl dX10_reachNeighbours_49 ?_
      refine x_goto (tgt := 10) dX10_reachNeighbours_52 rfl ?_
      have kn : ¬ f2 (swp dk.1 (qf i) k) = none := fun z => q39 ((stp_n (fun m e => by have := b2.m31 d2 sl e; omega)).mpr z)
      refine ih (k + 1, f2, qf2, c2, _) _ (by simp only; omega) ⟨kl, ⟨fs, fq, G, b2, hS, hQ⟩, hE, fun k' hk' => ?_, hb2⟩
      by_cases e : k' = k
      · cases e2 : f2 (swp dk.1 (qf i) k) with
        | none => exact absurd e2 kn
        | some m' =>
          obtain ⟨j, j1, j2⟩ := b2.has _ sl m' e2
          exact ⟨m', by rw [e]; exact e2, hb2 j j1 m' (by rw [j2]; exact e2)⟩
      · exact hN k' (by simp only at hk'; omega)
    · skip
      have kn : f2 (swp dk.1 (qf i) k) = none := (stp_n (fun m e => by have := b2.m31 d2 sl e; omega)).mp q39
      have cl : c2 < fct dk.1 := by rw [b2.cnt]; exact cf_lt sl kn
      refine x_al0 rfl dX10_reachNeighbours_42 ?_
      refine x_il4 dX10_reachNeighbours_43 ?_
      refine x_il2 dX10_reachNeighbours_45 ?_
      refine x_cv2Vp mX10_reach_ok lkX10_48 rfl (Nat.le_of_ble_eq_true rfl) (Nat.le_of_ble_eq_true rfl) dX10_reachNeighbours_46 o1  (g_reach (m := m + 1) G (by omega) (by omega)) (fun h hq => ?_)
      have G := hq
      first | refine x_ii3 rfl (nI_1 _) dX10_reachNeighbours_49 ?_ | refine x_ii3 rfl rfl dX10_reachNeighbours_49 ?_
      refine x_goto (tgt := 10) dX10_reachNeighbours_52 rfl ?_
      have c12 := hE.1
      have hr : rch dk.1 B (m + 1) (swp dk.1 (qf i) k) = true := rch_s.mpr (Or.inr ⟨k, kl, by rw [swp_swp d1 d2 ql kl]; exact b2.snd _ ql m (hE.2.1 _ _ hm)⟩)
      refine ih (k + 1, upO f2 (swp dk.1 (qf i) k) (m + 1), qU qf2 c2 (swp dk.1 (qf i) k), c2 + 1, _) _ (by simp only; omega) ⟨kl, ⟨_, _, G, b2.reach sl kn (by omega) (fun j hj m' e => hb2 j hj m' e) hr, fun t ht => ?_, fun j hj => ?_⟩, hE.step kn, fun k' hk' => ?_, fun j hj m' e => ?_⟩
      · show upd fs _ _ t = stp (upO f2 _ _ t)
        by_cases z : t = swp dk.1 (qf i) k
        · rw [z, show upO f2 (swp dk.1 (qf i) k) (m + 1) (swp dk.1 (qf i) k) = some (m + 1) from if_pos rfl]; exact if_pos rfl
        · rw [show upO f2 (swp dk.1 (qf i) k) (m + 1) t = f2 t from if_neg z, ← hS t ht]; exact if_neg z
      · show upd fq _ _ j = nI (qU qf2 _ _ j)
        simp only at hj
        by_cases z : j = c2
        · rw [z, show qU qf2 c2 (swp dk.1 (qf i) k) c2 = swp dk.1 (qf i) k from if_pos rfl]; exact if_pos rfl
        · rw [show qU qf2 c2 (swp dk.1 (qf i) k) j = qf2 j from if_neg z, ← hQ j (by omega)]; exact if_neg z
      · simp only at hk' ⊢
        by_cases e : swp dk.1 (qf i) k' = swp dk.1 (qf i) k
        · exact ⟨m + 1, if_pos e, Nat.le_refl _⟩
        · obtain ⟨m', e1, e2⟩ := hN k' (by rcases Nat.lt_or_ge k' k with y | y; exact y; exact absurd (by rw [show k' = k by omega]) e)
          exact ⟨m', (if_neg e).trans e1, e2⟩
      · simp only at hj e
        have key : ∀ t, upO f2 (swp dk.1 (qf i) k) (m + 1) t = some m' → f2 t = some m' ∨ m' = m + 1 := fun t y => by
          by_cases z : t = swp dk.1 (qf i) k
          · rw [show upO f2 (swp dk.1 (qf i) k) (m + 1) t = some (m + 1) from if_pos z] at y; cases y; exact Or.inr rfl
          · rw [show upO f2 (swp dk.1 (qf i) k) (m + 1) t = f2 t from if_neg z] at y; exact Or.inl y
        rcases key _ e with y | y
        · by_cases z : j = c2
          · rw [z, show qU qf2 c2 (swp dk.1 (qf i) k) c2 = swp dk.1 (qf i) k from if_pos rfl, kn] at y; cases y
          · rw [show qU qf2 c2 (swp dk.1 (qf i) k) j = qf2 j from if_neg z] at y; exact hb2 j (by omega) m' y
        · omega
end ZNb

