/-! the model's laysFar, fewest, way -/
def fr (o : Option Nat) : Nat := o.getD 268435456
def upO (f : Nat → Option Nat) (s m : Nat) : Nat → Option Nat := fun t => if t = s then some m else f t
/-- how many are known -/
def cf (f : Nat → Option Nat) (n : Nat) : Nat := cnt (fun t => (f t).isSome) n
theorem cnt_set {P : Nat → Bool} {s : Nat} : ∀ n, s < n → cnt (fun t => if t = s then true else P t) n = cnt P n + (if P s then 0 else 1) := by
  have o : ∀ n, n ≤ s → cnt (fun t => if t = s then true else P t) n = cnt P n := fun n hn => cnt_congr (fun j hj => if_neg (by omega))
  intro n
  induction n with
  | zero => intro h; omega
  | succ n ih =>
    intro h
    rw [cnt, cnt]
    by_cases z : n = s
    · subst z
      rw [o n (Nat.le_refl _), if_pos (if_pos rfl)]
      cases P n <;> rfl
    · rw [if_neg z, ih (by omega)]
      omega
theorem cnt_pos {P : Nat → Bool} {q : Nat} (h : P q = true) : ∀ n, q < n → 0 < cnt P n := by
  intro n
  induction n with
  | zero => intro h; omega
  | succ n ih =>
    intro hq
    rw [cnt]
    by_cases z : q = n
    · subst z; rw [if_pos h]; omega
    · have := ih (by omega); omega
theorem cf_up {f : Nat → Option Nat} {s m n : Nat} (hs : s < n) : cf (upO f s m) n = cf f n + (if (f s).isSome then 0 else 1) := by
  have := cnt_set (P := fun t => (f t).isSome) n hs
  have e : cf (upO f s m) n = cnt (fun t => if t = s then true else (f t).isSome) n := by
    unfold cf upO
    refine cnt_congr (fun t _ => ?_)
    split <;> rfl
  rw [e, this]
  rfl
theorem fr_le {f : Nat → Option Nat} {s n : Nat} (hs : s < n) (hn : n ≤ 720) (h : ∀ t, t < n → ∀ m, f t = some m → m < cf f n) : fr (f s) ≤ 268435456 ∧ (fr (f s) = 268435456 ↔ f s = none) ∧ (fr (f s) = 268435456 ∨ fr (f s) < 720) := by
  have cl : cf f n ≤ n := cnt_le n
  cases e : f s with
  | none => exact ⟨Nat.le_refl _, ⟨fun _ => rfl, fun _ => rfl⟩, Or.inl rfl⟩
  | some m =>
    have := h s hs m e
    show m ≤ _ ∧ (m = _ ↔ _) ∧ (m = _ ∨ m < _)
    exact ⟨by omega, ⟨fun z => by omega, fun z => by cases z⟩, Or.inr (by omega)⟩
def sumF (f : Nat → Option Nat) (n : Nat) : Nat := sumN (fun t => fr (f t)) n
theorem sumF_up {f : Nat → Option Nat} {s m n : Nat} (hs : s < n) (hm : m < fr (f s)) : sumF (upO f s m) n < sumF f n := by
  have := sumN_up (f := fun t => fr (f t)) (s := s) (x := m) n hs
  have e : sumF (upO f s m) n = sumN (fun t => if t = s then m else fr (f t)) n := by
    unfold sumF upO
    congr 1
    funext t
    split <;> rfl
  rw [e]
  unfold sumF
  omega
/-- pairs of s below k can't be made less -/
def fixS (n : Nat) (f : Nat → Option Nat) (s k : Nat) : Prop := ∀ j, j < k → ∀ m, f (swp n s j) = some m → ∃ m', f s = some m' ∧ m' ≤ m + 1
section ZFa
variable {g : zG} {d : Nat} {h0 h : zH} {s : Nat → Value} {M : Nat → Nat → Int32} {L : Nat → Nat → Int64} {dk : zDk} {st : zSt} {un : List zSt} {tp : List Nat} {tr : Nat → zTr} {pi : Nat → zPi} {fl : Nat × Nat}
abbrev cI (b : Bool) : Int32 := bif b then nI 1 else nI 0
/-- what stands while distances are made -/
def FaP (h0 h : zH) (s0 : Nat → Value) (M0 : Nat → Nat → Int32) (L0 : Nat → Nat → Int64) (dk : zDk) (st : zSt) (un : List zSt) (tp : List Nat) (tr : Nat → zTr) (pi : Nat → zPi) (fl : Nat × Nat) (f : Nat → Option Nat) : Prop := ∃ s M L, MW h0 h s M L ∧ MJ s M L dk st un tp tr pi fl ∧ ThP s M dk st ∧ (∀ q, q < fct dk.1 → M 74 q = nI (fr (f q))) ∧ ∀ q, q < fct dk.1 → ∀ m, f q = some m → m < cf f (fct dk.1)
theorem j_laysFar {aim : Nat} (W : MW h0 h s M L) (J : MJ s M L dk st un tp tr pi fl) (ha : aim < 2) : Zm g (d + 6) 0 0 mX12_laysFar [.ref 59, .int (nI aim)] h (rIp (fun r h' => ∃ f, FaP h0 h' s M L dk st un tp tr pi fl f ∧ Snd dk.1 (soB dk st.2.1 aim) f ∧ Fix dk.1 f ∧ r = nI (fr (f st.1)))) := by
  obtain ⟨D, hn0, hn6, ho0, ho9, hng, hli, e0, e1, e2, m1, m2, m3, m4, m5, u1, u2, t1, t2, r1, hf⟩ := MJ.o J
  have npl := np_le hn6
  show Zw g (d + 6) 0 0 mX12_laysFar 0 [some (.ref 59), some (.int (nI aim)), none, none, none, none] [] h _
  refine x_al0 rfl dX12_laysFar_0 ?_
  refine x_cv0Vp mX12_laysThen_ok lkX12_361 rfl (Nat.le_of_ble_eq_true rfl) (Nat.le_of_ble_eq_true rfl) dX12_laysFar_1 W.hM  (j_laysThen W J) (fun h hq => ?_)
  obtain ⟨s1, M1, L1, W, J, U, hT⟩ := hq
  refine x_iconst (v := nI 0) dX12_laysFar_4 rfl ?_
  refine x_is2 rfl dX12_laysFar_5 ?_
  refine x_for (e := fct dk.1) (fun i => [some (.ref 59), some (.int (nI aim)), some (.int (nI i)), none, none, none]) (fun i h => ∃ M', MW h0 h s1 M' L1 ∧ MJ s1 M' L1 dk st un tp tr pi fl ∧ ThP s1 M' dk st ∧ ∀ q, q < i → M' 74 q = nI (fr (if soB dk st.2.1 aim q then some 0 else none))) 0 (by omega) ⟨_, W, J, hT, fun q hq => absurd hq (Nat.not_lt_zero _)⟩ (fun h hI => ?_) (fun i h hi hI ih => ?_)
  · obtain ⟨M2, W, J, hT, hF⟩ := hI
    obtain ⟨D, hn0, hn6, ho0, ho9, hng, hli, e0, e1, e2, m1, m2, m3, m4, m5, u1, u2, t1, t2, r1, hf⟩ := MJ.o J
    refine x_il2 dX12_laysFar_6 ?_
    refine x_al0 rfl dX12_laysFar_7 ?_
    refine x_gm fdX12_223 W.hM (by decide) (by first | assumption | rfl) dX12_laysFar_8 ?_
    refine x_icmp_ge (tgt := 42) dX12_laysFar_11 rfl (fun q11 => ?_) (fun q11 => ?_)
    · skip
      first | (simp only [cmp_lt, cmp_gt, cmp_eq, zN_cge, zN_cle, Decidable.not_not] at q11) | (simp (disch := omega) only [zN_le, zN_lt, zN_0, zN_1, nI_toInt, zN_eq, zN_eq0, b2_z, b2_nz, Decidable.not_not, Int.not_lt, Int.not_le, zK0, zK1, zK2, zK3, zK5, zK7, zK8, zK9, zK10, zK19, zK20, zK40, zK99, zK100, zK199] at q11) | skip
      refine x_iconst (v := nI 1) dX12_laysFar_42 rfl ?_
      refine x_is2 rfl dX12_laysFar_43 ?_
      refine x_wh (fun (a : (Nat → Option Nat) × Bool × Option Value × Option Value × Option Value) => [some (.ref 59), some (.int (nI aim)), some (.int (cI a.2.1)), a.2.2.1, a.2.2.2.1, a.2.2.2.2]) (fun a h => FaP h0 h s M L dk st un tp tr pi fl a.1 ∧ Snd dk.1 (soB dk st.2.1 aim) a.1 ∧ (a.2.1 = false → Fix dk.1 a.1)) (fun a => 2 * sumF a.1 (fct dk.1) + (if a.2.1 then 1 else 0)) (fun q => if soB dk st.2.1 aim q then some 0 else none, true, none, none, none) ⟨⟨_, _, _, W, J, hT, hF, fun q hq m e => ?_⟩, fun q hq => ⟨fun m e => ?_, fun e => if_pos e⟩, fun z => (by cases z)⟩ (fun a h hI ih => ?_)
      · dsimp only at e ⊢
        split at e
        · next z => cases e; exact cnt_pos (P := fun t => (if soB dk st.2.1 aim t then some 0 else none : Option Nat).isSome) (by rw [if_pos z]; rfl) _ hq
        · cases e
      · dsimp only at e
        split at e
        · next z => cases e; exact z
        · cases e
      · obtain ⟨f, mo, v1, v2, v3⟩ := a
        obtain ⟨⟨s2, M2, L2, W, J, hT, hF, hb⟩, hS, hX⟩ := hI
        simp only at hF hb hS hX
        dsimp only
        obtain ⟨D, hn0, hn6, ho0, ho9, hng, hli, e0, e1, e2, m1, m2, m3, m4, m5, u1, u2, t1, t2, r1, hf⟩ := MJ.o J
        refine x_il2 dX12_laysFar_44 ?_
        refine x_if_eq (tgt := 142) dX12_laysFar_45 rfl (fun q45 => ?_) (fun q45 => ?_)
        · skip
          have mf : mo = false := by cases mo; rfl; exact absurd q45 (by decide)
          refine x_al0 rfl dX12_laysFar_142 ?_
          refine x_gm fdX12_61 W.hM (by decide) W.hF.f30 dX12_laysFar_143 ?_
          refine x_al0 rfl dX12_laysFar_146 ?_
          refine x_gm fdX12_13 W.hM (by decide) W.hF.f1 dX12_laysFar_147 ?_
          refine x_bipush (v := nI 21) dX12_laysFar_150 rfl ?_
          refine x_mld (len := 2868) W rfl rfl (by decide) (by omega) (by first | assumption | rfl) dX12_laysFar_152 ?_
          refine x_mld (len := 720) W rfl rfl (by decide) (by omega) (hF _ m4) dX12_laysFar_153 ?_
          exact x_iret rfl rfl dX12_laysFar_154 ⟨_, rfl, f, ⟨_, _, _, W, J, hT, hF, hb⟩, hS, hX mf, rfl⟩
        · skip
          refine x_iconst (v := nI 0) dX12_laysFar_48 rfl ?_
          refine x_is2 rfl dX12_laysFar_49 ?_
          refine x_iconst (v := nI 0) dX12_laysFar_50 rfl ?_
          refine x_is3 rfl dX12_laysFar_51 ?_
          have mt : mo = true := by cases mo; exact absurd rfl q45; rfl
          subst mt
          refine x_wh (fun (a : Nat × (Nat → Option Nat) × Bool × Option Value × Option Value) => [some (.ref 59), some (.int (nI aim)), some (.int (cI a.2.2.1)), some (.int (nI a.1)), a.2.2.2.1, a.2.2.2.2]) (fun a h => a.1 ≤ fct dk.1 ∧ FaP h0 h s M L dk st un tp tr pi fl a.2.1 ∧ Snd dk.1 (soB dk st.2.1 aim) a.2.1 ∧ (a.2.2.1 = false → a.2.1 = f ∧ ∀ q, q < a.1 → fixS dk.1 f q (np dk.1)) ∧ (a.2.2.1 = true → sumF a.2.1 (fct dk.1) < sumF f (fct dk.1))) (fun a => fct dk.1 - a.1) (0, f, false, v2, v3) ⟨Nat.zero_le _, ⟨_, _, _, W, J, hT, hF, hb⟩, hS, fun _ => ⟨rfl, fun q hq => absurd hq (Nat.not_lt_zero _)⟩, fun z => (by cases z)⟩ (fun a h hI ih2 => ?_)
          obtain ⟨q0, f2, mo2, w1, w2⟩ := a
          obtain ⟨hq0, ⟨s3, M3', L3, W, J, hT, hF, hb⟩, hS, hX1, hX2⟩ := hI
          simp only at hq0 hF hb hS hX1 hX2
          dsimp only
          obtain ⟨D, hn0, hn6, ho0, ho9, hng, hli, e0, e1, e2, m1, m2, m3, m4, m5, u1, u2, t1, t2, r1, hf⟩ := MJ.o J
          refine x_il3 dX12_laysFar_52 ?_
          refine x_al0 rfl dX12_laysFar_53 ?_
          refine x_gm fdX12_223 W.hM (by decide) (by first | assumption | rfl) dX12_laysFar_54 ?_
          refine x_icmp_ge (tgt := 139) dX12_laysFar_57 rfl (fun q57 => ?_) (fun q57 => ?_)
          · skip
            first | (simp only [cmp_lt, cmp_gt, cmp_eq, zN_cge, zN_cle, Decidable.not_not] at q57) | (simp (disch := omega) only [zN_le, zN_lt, zN_0, zN_1, nI_toInt, zN_eq, zN_eq0, b2_z, b2_nz, Decidable.not_not, Int.not_lt, Int.not_le, zK0, zK1, zK2, zK3, zK5, zK7, zK8, zK9, zK10, zK19, zK20, zK40, zK99, zK100, zK199] at q57) | skip
            have q9 : q0 = fct dk.1 := by omega
            subst q9
            refine x_goto (tgt := 44) dX12_laysFar_139 rfl ?_
            refine ih (f2, mo2, _, _, _) _ ?_ ⟨⟨_, _, _, W, J, hT, hF, hb⟩, hS, fun z => ?_⟩
            · simp only
              cases mo2 with
              | false => rw [(hX1 rfl).1]; simp
              | true => have := hX2 rfl; simp; omega
            · simp only at z ⊢
              rw [(hX1 z).1]
              exact fun s hs k hk m e => (hX1 z).2 s hs k hk m e
          · skip
            first | (simp only [cmp_lt, cmp_gt, cmp_eq, zN_cge, zN_cle, Decidable.not_not] at q57) | (simp (disch := omega) only [zN_le, zN_lt, zN_0, zN_1, nI_toInt, zN_eq, zN_eq0, b2_z, b2_nz, Decidable.not_not, Int.not_lt, Int.not_le, zK0, zK1, zK2, zK3, zK5, zK7, zK8, zK9, zK10, zK19, zK20, zK40, zK99, zK100, zK199] at q57) | skip
            refine x_iconst (v := nI 0) dX12_laysFar_60 rfl ?_
            refine x_is4 rfl dX12_laysFar_61 ?_
            have ql : q0 < fct dk.1 := by omega
            refine x_wh (fun (a : Nat × (Nat → Option Nat) × Bool × Option Value) => [some (.ref 59), some (.int (nI aim)), some (.int (cI a.2.2.1)), some (.int (nI q0)), some (.int (nI a.1)), a.2.2.2]) (fun a h => a.1 ≤ np dk.1 ∧ FaP h0 h s M L dk st un tp tr pi fl a.2.1 ∧ Snd dk.1 (soB dk st.2.1 aim) a.2.1 ∧ (a.2.2.1 = false → a.2.1 = f ∧ (∀ q, q < q0 → fixS dk.1 f q (np dk.1)) ∧ fixS dk.1 f q0 a.1) ∧ (a.2.2.1 = true → sumF a.2.1 (fct dk.1) < sumF f (fct dk.1))) (fun a => np dk.1 - a.1) (0, f2, mo2, w2) ⟨Nat.zero_le _, ⟨_, _, _, W, J, hT, hF, hb⟩, hS, fun z => ⟨(hX1 z).1, (hX1 z).2, fun j hj => absurd hj (Nat.not_lt_zero _)⟩, hX2⟩ (fun a h hI ih3 => ?_)
            obtain ⟨k, f3, mo3, w3⟩ := a
            obtain ⟨hk, ⟨s3, M3', L3, W, J, hT, hF, hb⟩, hS, hX1, hX2⟩ := hI
            simp only at hk hF hb hS hX1 hX2
            dsimp only
            obtain ⟨D, hn0, hn6, ho0, ho9, hng, hli, e0, e1, e2, m1, m2, m3, m4, m5, u1, u2, t1, t2, r1, hf⟩ := MJ.o J
            obtain ⟨hlet, hsm, hso, hth⟩ := id hT
            refine x_il4 dX12_laysFar_63 ?_
            refine x_al0 rfl dX12_laysFar_65 ?_
            refine x_gm fdX12_358 W.hM (by decide) (hsm) dX12_laysFar_66 ?_
            refine x_icmp_ge (tgt := 133) dX12_laysFar_69 rfl (fun q69 => ?_) (fun q69 => ?_)
            · skip
              first | (simp only [cmp_lt, cmp_gt, cmp_eq, zN_cge, zN_cle, Decidable.not_not] at q69) | (simp (disch := omega) only [zN_le, zN_lt, zN_0, zN_1, nI_toInt, zN_eq, zN_eq0, b2_z, b2_nz, Decidable.not_not, Int.not_lt, Int.not_le, zK0, zK1, zK2, zK3, zK5, zK7, zK8, zK9, zK10, zK19, zK20, zK40, zK99, zK100, zK199] at q69) | skip
              have k9 : k = np dk.1 := by omega
              subst k9
              first | refine x_ii3 rfl (nI_1 _) dX12_laysFar_133 ?_ | refine x_ii3 rfl rfl dX12_laysFar_133 ?_
              refine x_goto (tgt := 52) dX12_laysFar_136 rfl ?_
              exact ih2 (q0 + 1, f3, mo3, _, _) _ (by simp only; omega) ⟨ql, ⟨_, _, _, W, J, hT, hF, hb⟩, hS, fun z => ⟨(hX1 z).1, fun q hq => by by_cases c : q = q0; rw [c]; exact (hX1 z).2.2; exact (hX1 z).2.1 q (by simp only at hq; omega)⟩, hX2⟩
            · skip
              first | (simp only [cmp_lt, cmp_gt, cmp_eq, zN_cge, zN_cle, Decidable.not_not] at q69) | (simp (disch := omega) only [zN_le, zN_lt, zN_0, zN_1, nI_toInt, zN_eq, zN_eq0, b2_z, b2_nz, Decidable.not_not, Int.not_lt, Int.not_le, zK0, zK1, zK2, zK3, zK5, zK7, zK8, zK9, zK10, zK19, zK20, zK40, zK99, zK100, zK199] at q69) | skip
              have kl : k < np dk.1 := by omega
              have sl := swp_lt hn0 hn6 ql kl
              obtain ⟨fl1, fn1, fo1⟩ := fr_le sl hf hb
              obtain ⟨fl2, fn2, fo2⟩ := fr_le ql hf hb
              refine x_al0 rfl dX12_laysFar_72 ?_
              refine x_gm fdX12_61 W.hM (by decide) W.hF.f30 dX12_laysFar_73 ?_
              refine x_al0 rfl dX12_laysFar_76 ?_
              refine x_gm fdX12_58 W.hM (by decide) W.hF.f29 dX12_laysFar_77 ?_
              refine x_bipush (v := nI 15) dX12_laysFar_80 rfl ?_
              refine x_il3 dX12_laysFar_82 ?_
              first | refine x_imul (pk_mul _ _) dX12_laysFar_83 ?_ | refine x_imul rfl dX12_laysFar_83 ?_
              refine x_il4 dX12_laysFar_84 ?_
              first | refine x_iadd (nI_add _ _) dX12_laysFar_86 ?_ | refine x_iadd rfl dX12_laysFar_86 ?_
              refine x_mld (len := 10800) W rfl rfl (by decide) (by omega) (hth q0 ql k kl) dX12_laysFar_87 ?_
              refine x_mld (len := 720) W rfl rfl (by decide) (by omega) (hF _ sl) dX12_laysFar_88 ?_
              refine x_is5 rfl dX12_laysFar_89 ?_
              refine x_il5 dX12_laysFar_91 ?_
              refine x_ldcw kcX12_368 dX12_laysFar_93 ?_
              rw [show (268435456 : Int32) = nI 268435456 from rfl]
              refine x_icmp_eq (tgt := 127) dX12_laysFar_96 rfl (fun q96 => ?_) (fun q96 => ?_)
              · skip
                first | (simp only [cmp_lt, cmp_gt, cmp_eq, zN_cge, zN_cle, Decidable.not_not] at q96) | (simp (disch := omega) only [zN_le, zN_lt, zN_0, zN_1, nI_toInt, zN_eq, zN_eq0, b2_z, b2_nz, Decidable.not_not, Int.not_lt, Int.not_le, zK0, zK1, zK2, zK3, zK5, zK7, zK8, zK9, zK10, zK19, zK20, zK40, zK99, zK100, zK199] at q96) | skip
                refine x_ii4 rfl (nI_1 _) dX12_laysFar_127 ?_
                refine x_goto (tgt := 63) dX12_laysFar_130 rfl ?_
                refine ih3 (k + 1, f3, mo3, _) _ (by simp only; omega) ⟨kl, ⟨_, _, _, W, J, hT, hF, hb⟩, hS, fun z => ⟨(hX1 z).1, (hX1 z).2.1, fun j hj m e => ?_⟩, hX2⟩
                by_cases c : j = k
                · rw [c, ← (hX1 z).1, fn1.mp q96] at e; cases e
                · exact (hX1 z).2.2 j (by simp only at hj; omega) m e
              · skip
                first | (simp only [cmp_lt, cmp_gt, cmp_eq, zN_cge, zN_cle, Decidable.not_not] at q96) | (simp (disch := omega) only [zN_le, zN_lt, zN_0, zN_1, nI_toInt, zN_eq, zN_eq0, b2_z, b2_nz, Decidable.not_not, Int.not_lt, Int.not_le, zK0, zK1, zK2, zK3, zK5, zK7, zK8, zK9, zK10, zK19, zK20, zK40, zK99, zK100, zK199] at q96) | skip
                refine x_il5 dX12_laysFar_99 ?_
                refine x_iconst (v := nI 1) dX12_laysFar_101 rfl ?_
                first | refine x_iadd (nI_add _ _) dX12_laysFar_102 ?_ | refine x_iadd rfl dX12_laysFar_102 ?_
                refine x_al0 rfl dX12_laysFar_103 ?_
                refine x_gm fdX12_61 W.hM (by decide) W.hF.f30 dX12_laysFar_104 ?_
                refine x_il3 dX12_laysFar_107 ?_
                refine x_mld (len := 720) W rfl rfl (by decide) (by omega) (hF _ ql) dX12_laysFar_108 ?_
                refine x_icmp_lt (tgt := 115) dX12_laysFar_109 rfl (fun q109 => ?_) (fun q109 => ?_)
                · skip
                  first | (simp only [cmp_lt, cmp_gt, cmp_eq, zN_cge, zN_cle, Decidable.not_not] at q109) | (simp (disch := omega) only [zN_le, zN_lt, zN_0, zN_1, nI_toInt, zN_eq, zN_eq0, b2_z, b2_nz, Decidable.not_not, Int.not_lt, Int.not_le, zK0, zK1, zK2, zK3, zK5, zK7, zK8, zK9, zK10, zK19, zK20, zK40, zK99, zK100, zK199] at q109) | skip
                  obtain ⟨m0, em0⟩ : ∃ m0, f3 (swp dk.1 q0 k) = some m0 := by cases e3 : f3 (swp dk.1 q0 k); exact absurd (fn1.mpr e3) q96; exact ⟨_, rfl⟩
                  have fm0 : fr (f3 (swp dk.1 q0 k)) = m0 := by rw [em0]; rfl
                  refine x_al0 rfl dX12_laysFar_115 ?_
                  refine x_gm fdX12_61 W.hM (by decide) W.hF.f30 dX12_laysFar_116 ?_
                  refine x_il3 dX12_laysFar_119 ?_
                  refine x_il5 dX12_laysFar_120 ?_
                  refine x_iconst (v := nI 1) dX12_laysFar_122 rfl ?_
                  first | refine x_iadd (nI_add _ _) dX12_laysFar_123 ?_ | refine x_iadd rfl dX12_laysFar_123 ?_
                  refine x_mstJ (len := 720) W J rfl rfl (by decide) rfl (by omega) dX12_laysFar_124 (fun h W J => ?_)
                  refine x_iconst (v := nI 1) dX12_laysFar_125 rfl ?_
                  refine x_is2 rfl dX12_laysFar_126 ?_
                  refine x_ii4 rfl (nI_1 _) dX12_laysFar_127 ?_
                  refine x_goto (tgt := 63) dX12_laysFar_130 rfl ?_
                  have s0 := sumF_up (f := f3) (s := q0) (m := m0 + 1) (n := fct dk.1) ql (by omega)
                  rw [fm0] at W J
                  refine ih3 (k + 1, upO f3 q0 (m0 + 1), true, _) _ (by simp only; omega) ⟨kl, ⟨_, _, _, W, J, hT, fun q hq => ?_, fun q hq m e => ?_⟩, fun q hq => ⟨fun m e => ?_, fun e => ?_⟩, fun z => (by cases z), fun _ => ?_⟩
                  · dsimp only
                    rw [upM_eq]
                    by_cases c : q = q0
                    · rw [c, pk_us, show upO f3 q0 (m0 + 1) q0 = some (m0 + 1) from if_pos rfl]; rfl
                    · rw [pk_un c, show upO f3 q0 (m0 + 1) q = f3 q from if_neg c]; exact hF q hq
                  · dsimp only at e ⊢
                    have cu := cf_up (f := f3) (m := m0 + 1) ql
                    have b0 := hb _ sl m0 em0
                    by_cases c : q = q0
                    · rw [c, show upO f3 q0 (m0 + 1) q0 = some (m0 + 1) from if_pos rfl] at e
                      cases e
                      rw [cu]
                      cases e3 : f3 q0 with
                      | none => simp; exact b0
                      | some m' =>
                        have b1 := hb _ ql m' e3
                        have : fr (f3 q0) = m' := by rw [e3]; rfl
                        simp
                        omega
                    · rw [show upO f3 q0 (m0 + 1) q = f3 q from if_neg c] at e
                      have := hb q hq m e
                      omega
                  · dsimp only at e
                    by_cases c : q = q0
                    · rw [c, show upO f3 q0 (m0 + 1) q0 = some (m0 + 1) from if_pos rfl] at e
                      cases e
                      rw [c]
                      exact rch_s.mpr (Or.inr ⟨k, kl, (hS _ sl).1 m0 em0⟩)
                    · rw [show upO f3 q0 (m0 + 1) q = f3 q from if_neg c] at e; exact (hS q hq).1 m e
                  · dsimp only
                    have c : q ≠ q0 := fun c => by
                      rw [c] at e
                      have z := (hS q0 ql).2 e
                      have : fr (f3 q0) = 0 := by rw [z]; rfl
                      omega
                    rw [show upO f3 q0 (m0 + 1) q = f3 q from if_neg c]
                    exact (hS q hq).2 e
                  · simp only
                    cases mo3 with
                    | false => rw [← (hX1 rfl).1]; exact s0
                    | true => have := hX2 rfl; omega
                · skip
                  first | (simp only [cmp_lt, cmp_gt, cmp_eq, zN_cge, zN_cle, Decidable.not_not] at q109) | (simp (disch := omega) only [zN_le, zN_lt, zN_0, zN_1, nI_toInt, zN_eq, zN_eq0, b2_z, b2_nz, Decidable.not_not, Int.not_lt, Int.not_le, zK0, zK1, zK2, zK3, zK5, zK7, zK8, zK9, zK10, zK19, zK20, zK40, zK99, zK100, zK199] at q109) | skip
                  refine x_goto (tgt := 127) dX12_laysFar_112 rfl ?_
                  refine x_ii4 rfl (nI_1 _) dX12_laysFar_127 ?_
                  refine x_goto (tgt := 63) dX12_laysFar_130 rfl ?_
                  refine ih3 (k + 1, f3, mo3, _) _ (by simp only; omega) ⟨kl, ⟨_, _, _, W, J, hT, hF, hb⟩, hS, fun z => ⟨(hX1 z).1, (hX1 z).2.1, fun j hj m e => ?_⟩, hX2⟩
                  by_cases c : j = k
                  · rw [c] at e
                    have e2 : fr (f3 (swp dk.1 q0 k)) = m := by rw [(hX1 z).1, e]; rfl
                    have : ¬ f3 q0 = none := fun c2 => by rw [← fn2] at c2; omega
                    cases e3 : f3 q0 with
                    | none => exact absurd e3 this
                    | some m' => exact ⟨m', by rw [← (hX1 z).1]; exact e3, by have : fr (f3 q0) = m' := (by rw [e3]; rfl); omega⟩
                  · exact (hX1 z).2.2 j (by simp only at hj; omega) m e
    · skip
      first | (simp only [cmp_lt, cmp_gt, cmp_eq, zN_cge, zN_cle, Decidable.not_not] at q11) | (simp (disch := omega) only [zN_le, zN_lt, zN_0, zN_1, nI_toInt, zN_eq, zN_eq0, b2_z, b2_nz, Decidable.not_not, Int.not_lt, Int.not_le, zK0, zK1, zK2, zK3, zK5, zK7, zK8, zK9, zK10, zK19, zK20, zK40, zK99, zK100, zK199] at q11) | skip
      omega
  · obtain ⟨M2, W, J, hT, hF⟩ := hI
    obtain ⟨D, hn0, hn6, ho0, ho9, hng, hli, e0, e1, e2, m1, m2, m3, m4, m5, u1, u2, t1, t2, r1, hf⟩ := MJ.o J
    obtain ⟨hlet, hsm, hso, hth⟩ := id hT
    have ml := mskK_lt (row := i) (c := st.2.1) hn6
    refine x_il2 dX12_laysFar_6 ?_
    refine x_al0 rfl dX12_laysFar_7 ?_
    refine x_gm fdX12_223 W.hM (by decide) (by first | assumption | rfl) dX12_laysFar_8 ?_
    refine x_icmp_ge (tgt := 42) dX12_laysFar_11 rfl (fun q11 => ?_) (fun q11 => ?_)
    · skip
      first | (simp only [cmp_lt, cmp_gt, cmp_eq, zN_cge, zN_cle, Decidable.not_not] at q11) | (simp (disch := omega) only [zN_le, zN_lt, zN_0, zN_1, nI_toInt, zN_eq, zN_eq0, b2_z, b2_nz, Decidable.not_not, Int.not_lt, Int.not_le, zK0, zK1, zK2, zK3, zK5, zK7, zK8, zK9, zK10, zK19, zK20, zK40, zK99, zK100, zK199] at q11) | skip
      omega
    · skip
      first | (simp only [cmp_lt, cmp_gt, cmp_eq, zN_cge, zN_cle, Decidable.not_not] at q11) | (simp (disch := omega) only [zN_le, zN_lt, zN_0, zN_1, nI_toInt, zN_eq, zN_eq0, b2_z, b2_nz, Decidable.not_not, Int.not_lt, Int.not_le, zK0, zK1, zK2, zK3, zK5, zK7, zK8, zK9, zK10, zK19, zK20, zK40, zK99, zK100, zK199] at q11) | skip
      refine x_al0 rfl dX12_laysFar_14 ?_
      refine x_gm fdX12_61 W.hM (by decide) W.hF.f30 dX12_laysFar_15 ?_
      refine x_il2 dX12_laysFar_18 ?_
      refine x_al0 rfl dX12_laysFar_19 ?_
      refine x_il2 dX12_laysFar_20 ?_
      refine x_il1 dX12_laysFar_21 ?_
      refine x_cv2I mX12_isSo_ok lkX12_364 rfl (Nat.le_of_ble_eq_true rfl) (Nat.le_of_ble_eq_true rfl) dX12_laysFar_22 W.hM  (j_isSo W J hi ha (hlet i hi) (by omega)) ?_
      refine x_if_eq (tgt := 32) dX12_laysFar_25 rfl (fun q25 => ?_) (fun q25 => ?_)
      · skip
        first | (simp only [cmp_lt, cmp_gt, cmp_eq, zN_cge, zN_cle, Decidable.not_not] at q25) | (simp (disch := omega) only [zN_le, zN_lt, zN_0, zN_1, nI_toInt, zN_eq, zN_eq0, b2_z, b2_nz, Decidable.not_not, Int.not_lt, Int.not_le, zK0, zK1, zK2, zK3, zK5, zK7, zK8, zK9, zK10, zK19, zK20, zK40, zK99, zK100, zK199] at q25) | skip
        refine x_ldcw kcX12_368 dX12_laysFar_32 ?_
        refine x_mstJ (len := 720) W J rfl rfl (by decide) rfl (by omega) dX12_laysFar_35 (fun h W J => ?_)
        first | refine x_ii2 rfl (nI_1 _) dX12_laysFar_36 ?_ | refine x_ii2 rfl rfl dX12_laysFar_36 ?_
        refine x_goto (tgt := 6) dX12_laysFar_39 rfl ?_
        refine ih _ ⟨_, W, J, hT, fun q hq => ?_⟩
        rw [upM_eq]
        by_cases z : q = i
        · rw [z, pk_us, if_neg (by simpa using q25)]; rfl
        · rw [pk_un z]; exact hF q (by omega)
      · skip
        first | (simp only [cmp_lt, cmp_gt, cmp_eq, zN_cge, zN_cle, Decidable.not_not] at q25) | (simp (disch := omega) only [zN_le, zN_lt, zN_0, zN_1, nI_toInt, zN_eq, zN_eq0, b2_z, b2_nz, Decidable.not_not, Int.not_lt, Int.not_le, zK0, zK1, zK2, zK3, zK5, zK7, zK8, zK9, zK10, zK19, zK20, zK40, zK99, zK100, zK199] at q25) | skip
        refine x_iconst (v := nI 0) dX12_laysFar_28 rfl ?_
        refine x_goto (tgt := 35) dX12_laysFar_29 rfl ?_
        refine x_mstJ (len := 720) W J rfl rfl (by decide) rfl (by omega) dX12_laysFar_35 (fun h W J => ?_)
        first | refine x_ii2 rfl (nI_1 _) dX12_laysFar_36 ?_ | refine x_ii2 rfl rfl dX12_laysFar_36 ?_
        refine x_goto (tgt := 6) dX12_laysFar_39 rfl ?_
        refine ih _ ⟨_, W, J, hT, fun q hq => ?_⟩
        rw [upM_eq]
        by_cases z : q = i
        · rw [z, pk_us, if_pos (by simpa using q25)]; rfl
        · rw [pk_un z]; exact hF q (by omega)
end ZFa

