/-! the model's laysForce, forces, best -/
/-- some swap makes it so -/
def hasN (n : Nat) (B : Nat → Bool) (s : Nat) : Prop := ∃ k, k < np n ∧ B (swp n s k) = true
def isF (n : Nat) (B : Nat → Bool) (s : Nat) (r : Int32) : Prop := (B s = true ∧ r = 0) ∨ (B s = false ∧ hasN n B s ∧ r = 1) ∨ (B s = false ∧ ¬ hasN n B s ∧ r = -1)
theorem isF_u {n : Nat} {B : Nat → Bool} {s : Nat} {r r' : Int32} (a : isF n B s r) (b : isF n B s r') : r = r' := by
  rcases a with ⟨a1, a2⟩ | ⟨a1, a3, a2⟩ | ⟨a1, a3, a2⟩ <;> rcases b with ⟨b1, b2⟩ | ⟨b1, b3, b2⟩ | ⟨b1, b3, b2⟩
  · rw [a2, b2]
  · rw [a1] at b1; cases b1
  · rw [a1] at b1; cases b1
  · rw [a1] at b1; cases b1
  · rw [a2, b2]
  · exact absurd a3 b3
  · rw [a1] at b1; cases b1
  · exact absurd b3 a3
  · rw [a2, b2]
def A_forces (dk : zDk) (st : zSt) (x r : Int32) : Prop := (oneOf x 2 ∧ isF dk.1 (soB dk st.2.1 (tn x)) st.1 r) ∨ (¬ oneOf x 2 ∧ r = -2)
theorem A_forces_u {dk : zDk} {st : zSt} {x r r' : Int32} (a : A_forces dk st x r) (b : A_forces dk st x r') : r = r' := by
  rcases a with ⟨a1, a2⟩ | ⟨a1, a2⟩
  · rcases b with ⟨b1, b2⟩ | ⟨b1, b2⟩
    · exact isF_u a2 b2
    · exact absurd a1 b1
  · rcases b with ⟨b1, b2⟩ | ⟨b1, b2⟩
    · exact absurd b1 a1
    · rw [a2, b2]
def isBst (n : Nat) (B : Nat → Bool) (s : Nat) (r : Int32) : Prop := (∃ k, B s = false ∧ k < np n ∧ B (swp n s k) = true ∧ (∀ j, j < k → B (swp n s j) = false) ∧ r = nI (10 * pr1 n k + pr2 n k)) ∨ ((B s = true ∨ ¬ hasN n B s) ∧ r = -1)
theorem isBst_u {n : Nat} {B : Nat → Bool} {s : Nat} {r r' : Int32} (a : isBst n B s r) (b : isBst n B s r') : r = r' := by
  rcases a with ⟨k, a0, a1, a2, a3, a4⟩ | ⟨a1, a2⟩ <;> rcases b with ⟨k', b0, b1, b2, b3, b4⟩ | ⟨b1, b2⟩
  · rcases Nat.lt_trichotomy k k' with h | h | h
    · rw [b3 k h] at a2; cases a2
    · rw [a4, b4, h]
    · rw [a3 k' h] at b2; cases b2
  · rcases b1 with c | c
    · rw [a0] at c; cases c
    · exact absurd ⟨k, a1, a2⟩ c
  · rcases a1 with c | c
    · rw [b0] at c; cases c
    · exact absurd ⟨k', b1, b2⟩ c
  · rw [a2, b2]
def A_best (dk : zDk) (st : zSt) (x r : Int32) : Prop := (oneOf x 2 ∧ isBst dk.1 (soB dk st.2.1 (tn x)) st.1 r) ∨ (¬ oneOf x 2 ∧ r = -2)
theorem A_best_u {dk : zDk} {st : zSt} {x r r' : Int32} (a : A_best dk st x r) (b : A_best dk st x r') : r = r' := by
  rcases a with ⟨a1, a2⟩ | ⟨a1, a2⟩
  · rcases b with ⟨b1, b2⟩ | ⟨b1, b2⟩
    · exact isBst_u a2 b2
    · exact absurd a1 b1
  · rcases b with ⟨b1, b2⟩ | ⟨b1, b2⟩
    · exact absurd b1 a1
    · rw [a2, b2]
/-- to where one is forced: the last is to stay -/
def fto (n q k : Nat) : Nat := if k = np n then q else swp n q k
theorem fto_lt {n q k : Nat} (h0 : 0 < n) (hn : n ≤ 6) (hq : q < fct n) (hk : k ≤ np n) : fto n q k < fct n := by
  unfold fto
  split
  · exact hq
  · exact swp_lt h0 hn hq (by omega)
theorem fto_fto {n q k : Nat} (h0 : 0 < n) (hn : n ≤ 6) (hq : q < fct n) (hk : k ≤ np n) : fto n (fto n q k) k = q := by
  unfold fto
  by_cases c : k = np n
  · rw [if_pos c, if_pos c]
  · rw [if_neg c, if_neg c]; exact swp_swp h0 hn hq (by omega)
def fv (b F : Bool) : Nat := bif b then 0 else bif F then 1 else 268435456
def ov (b O : Bool) : Nat := bif b then 0 else bif O then 2 else 268435456
theorem ov_le (b o : Bool) : ov b o ≤ 268435456 := by cases b <;> cases o <;> decide
theorem fv_le (b o : Bool) : fv b o ≤ 268435456 := by cases b <;> cases o <;> decide
def by1 (b o : Bool) : Nat := bif b then 1 else bif o then 3 else 268435456
theorem by1_le (b o : Bool) : by1 b o ≤ 268435456 := by cases b <;> cases o <;> decide
theorem ov_1 (b o : Bool) (h : ¬ ov b o = 268435456) : ov b o + 1 = by1 b o := by
  cases b <;> cases o
  · exact absurd rfl h
  · rfl
  · rfl
  · rfl
theorem ov_2 (b o : Bool) (h : ov b o = 268435456) : 268435456 = by1 b o := by
  cases b <;> cases o
  · rfl
  · exact absurd h (by decide)
  · exact absurd h (by decide)
  · exact absurd h (by decide)
theorem fv_1 (b o : Bool) (h : ¬ fv b o = 268435456) : fv b o < 2 ∧ (b = true ∨ o = true) ∧ (b = false → fv b o = 1) := by
  cases b <;> cases o
  · exact absurd rfl h
  · exact ⟨by decide, Or.inr rfl, fun _ => rfl⟩
  · exact ⟨by decide, Or.inl rfl, fun z => by cases z⟩
  · exact ⟨by decide, Or.inl rfl, fun z => by cases z⟩
def orB (F : Nat → Bool) (s : Nat) (b : Bool) : Nat → Bool := fun t => F t || (decide (t = s) && b)
theorem orB_s {F : Nat → Bool} {s : Nat} {b : Bool} : orB F s b s = (F s || b) := by unfold orB; simp
theorem orB_n {F : Nat → Bool} {s t : Nat} {b : Bool} (h : t ≠ s) : orB F s b t = F t := by unfold orB; simp [h]
theorem orB_m {F : Nat → Bool} {s t : Nat} {b : Bool} (h : F t = true) : orB F s b t = true := by unfold orB; rw [h]; rfl
theorem orB_c {F : Nat → Bool} {s n : Nat} {b : Bool} (hs : s < n) : cnt (orB F s b) n = cnt F n + (bif b && !F s then 1 else 0) := by
  cases b with
  | false => exact cnt_congr (fun j _ => by unfold orB; simp)
  | true =>
    have := cnt_set (P := F) n hs
    rw [show cnt (orB F s true) n = cnt (fun t => if t = s then true else F t) n from cnt_congr (fun j _ => by unfold orB; by_cases z : j = s <;> simp [z]), this]
    cases F s <;> rfl
/-- what is known is right -/
def FoI (n : Nat) (B F O : Nat → Bool) : Prop := (∀ q, q < fct n → B q = false → F q = true → hasN n B q) ∧ ∀ q, q < fct n → B q = false → O q = true → ∀ k, k ≤ np n → B (fto n q k) = true ∨ F (fto n q k) = true
theorem cI_o1 (b : Bool) : cI b ||| nI 1 = cI true := by cases b <;> rfl
theorem cI_o0 (b : Bool) : cI b ||| nI 0 = cI b := by cases b <;> rfl
theorem fv_or {F b : Bool} (h : F = true → b = true) : fv false (F || b) = fv false b := by
  cases F
  · rfl
  · rw [h rfl]; rfl
theorem ov_m1 (o O : Bool) (h : ov false o < ov false O) : ov false o = ov false (O || o) := by
  cases o <;> cases O
  · rfl
  · exact absurd h (by decide)
  · rfl
  · rfl
theorem ov_m2 (o O : Bool) (h : ov false O ≤ ov false o) : ov false O = ov false (O || o) := by
  cases o <;> cases O
  · rfl
  · rfl
  · exact absurd h (by decide)
  · rfl
theorem fv_c (b F : Bool) (h : fv false b < fv false F) : (bif b && !F then 1 else 0) = 1 := by
  cases b <;> cases F
  · exact absurd h (by decide)
  · exact absurd h (by decide)
  · rfl
  · exact absurd h (by decide)
theorem ov_c (b F : Bool) (h : ov false b < ov false F) : (bif b && !F then 1 else 0) = 1 := by
  cases b <;> cases F
  · exact absurd h (by decide)
  · exact absurd h (by decide)
  · rfl
  · exact absurd h (by decide)
section ZFo
variable {g : zG} {d : Nat} {h0 h : zH} {s : Nat → Value} {M : Nat → Nat → Int32} {L : Nat → Nat → Int64} {dk : zDk} {st : zSt} {un : List zSt} {tp : List Nat} {tr : Nat → zTr} {pi : Nat → zPi} {fl : Nat × Nat}
/-- what stands while forces are told -/
def FoP (h0 h : zH) (dk : zDk) (st : zSt) (un : List zSt) (tp : List Nat) (tr : Nat → zTr) (pi : Nat → zPi) (fl : Nat × Nat) (B F O : Nat → Bool) : Prop := ∃ s M L, MW h0 h s M L ∧ MJ s M L dk st un tp tr pi fl ∧ ThP s M dk st ∧ (∀ q, q < fct dk.1 → M 74 q = nI (fv (B q) (F q))) ∧ (∀ q, q < fct dk.1 → M 75 q = nI (ov (B q) (O q)))
theorem j_forcedTo {q k : Nat} (W : MW h0 h s M L) (J : MJ s M L dk st un tp tr pi fl) (hT : ThP s M dk st) (hq : q < fct dk.1) (hk : k ≤ np dk.1) : Zm g d 0 0 mX12_forcedTo [.ref 59, .int (nI q), .int (nI k)] h (rI (nI (fto dk.1 q k)) h) := by
  obtain ⟨D, hn0, hn6, ho0, ho9, hng, hli, e0, e1, e2, m1, m2, m3, m4, m5, u1, u2, t1, t2, r1, hf⟩ := MJ.o J
  have npl := np_le hn6
  obtain ⟨hlet, hsm, hso, hth⟩ := hT
  show Zw g d 0 0 mX12_forcedTo 0 [some (.ref 59), some (.int (nI q)), some (.int (nI k))] [] h _
  refine x_il2 dX12_forcedTo_0 ?_
  refine x_al0 rfl dX12_forcedTo_1 ?_
  refine x_gm fdX12_358 W.hM (by decide) (hsm) dX12_forcedTo_2 ?_
  refine x_icmp_ne (tgt := 12) dX12_forcedTo_5 rfl (fun q5 => ?_) (fun q5 => ?_)
  · skip
    first | (simp only [cmp_lt, cmp_gt, cmp_eq, zN_cge, zN_cle, Decidable.not_not] at q5) | (simp (disch := omega) only [zN_le, zN_lt, zN_0, zN_1, nI_toInt, zN_eq, zN_eq0, b2_z, b2_nz, Decidable.not_not, Int.not_lt, Int.not_le, zK0, zK1, zK2, zK3, zK5, zK7, zK8, zK9, zK10, zK19, zK20, zK40, zK99, zK100, zK199] at q5) | skip
    refine x_al0 rfl dX12_forcedTo_12 ?_
    refine x_gm fdX12_58 W.hM (by decide) W.hF.f29 dX12_forcedTo_13 ?_
    refine x_bipush (v := nI 15) dX12_forcedTo_16 rfl ?_
    refine x_il1 dX12_forcedTo_18 ?_
    first | refine x_imul (pk_mul _ _) dX12_forcedTo_19 ?_ | refine x_imul rfl dX12_forcedTo_19 ?_
    refine x_il2 dX12_forcedTo_20 ?_
    first | refine x_iadd (nI_add _ _) dX12_forcedTo_21 ?_ | refine x_iadd rfl dX12_forcedTo_21 ?_
    refine x_mld (len := 10800) W rfl rfl (by decide) (by omega) (hth q hq k (by omega)) dX12_forcedTo_22 ?_
    exact x_iret rfl rfl dX12_forcedTo_23 ⟨by unfold fto; rw [if_neg q5], rfl⟩
  · skip
    first | (simp only [cmp_lt, cmp_gt, cmp_eq, zN_cge, zN_cle, Decidable.not_not] at q5) | (simp (disch := omega) only [zN_le, zN_lt, zN_0, zN_1, nI_toInt, zN_eq, zN_eq0, b2_z, b2_nz, Decidable.not_not, Int.not_lt, Int.not_le, zK0, zK1, zK2, zK3, zK5, zK7, zK8, zK9, zK10, zK19, zK20, zK40, zK99, zK100, zK199] at q5) | skip
    refine x_il1 dX12_forcedTo_8 ?_
    refine x_goto (tgt := 23) dX12_forcedTo_9 rfl ?_
    exact x_iret rfl rfl dX12_forcedTo_23 ⟨by unfold fto; rw [if_pos q5], rfl⟩
theorem j_firstBy {q k : Nat} {B O : Nat → Bool} (W : MW h0 h s M L) (J : MJ s M L dk st un tp tr pi fl) (hT : ThP s M dk st) (hO : ∀ q, q < fct dk.1 → M 75 q = nI (ov (B q) (O q))) (hq : q < fct dk.1) (hk : k ≤ np dk.1) : Zm g (d + 1) 0 0 mX12_firstBy [.ref 59, .int (nI q), .int (nI k)] h (rI (nI (by1 (B (fto dk.1 q k)) (O (fto dk.1 q k)))) h) := by
  obtain ⟨D, hn0, hn6, ho0, ho9, hng, hli, e0, e1, e2, m1, m2, m3, m4, m5, u1, u2, t1, t2, r1, hf⟩ := MJ.o J
  have npl := np_le hn6
  have fl := fto_lt hn0 hn6 hq hk
  show Zw g (d + 1) 0 0 mX12_firstBy 0 [some (.ref 59), some (.int (nI q)), some (.int (nI k)), none] [] h _
  refine x_al0 rfl dX12_firstBy_0 ?_
  refine x_gm fdX12_64 W.hM (by decide) W.hF.f31 dX12_firstBy_1 ?_
  refine x_al0 rfl dX12_firstBy_4 ?_
  refine x_il1 dX12_firstBy_5 ?_
  refine x_il2 dX12_firstBy_6 ?_
  refine x_cv2I mX12_forcedTo_ok lkX12_411 rfl (Nat.le_of_ble_eq_true rfl) (Nat.le_of_ble_eq_true rfl) dX12_firstBy_7 W.hM  (j_forcedTo W J hT hq hk) ?_
  refine x_mld (len := 720) W rfl rfl (by decide) (by omega) (hO _ fl) dX12_firstBy_10 ?_
  have ol := ov_le (B (fto dk.1 q k)) (O (fto dk.1 q k))
  refine x_is3 rfl dX12_firstBy_11 ?_
  refine x_il3 dX12_firstBy_12 ?_
  refine x_ldcw kcX12_368 dX12_firstBy_13 ?_
  rw [show (268435456 : Int32) = nI 268435456 from rfl]
  refine x_icmp_ne (tgt := 25) dX12_firstBy_16 rfl (fun q16 => ?_) (fun q16 => ?_)
  · skip
    first | (simp only [cmp_lt, cmp_gt, cmp_eq, zN_cge, zN_cle, Decidable.not_not] at q16) | (simp (disch := omega) only [zN_le, zN_lt, zN_0, zN_1, nI_toInt, zN_eq, zN_eq0, b2_z, b2_nz, Decidable.not_not, Int.not_lt, Int.not_le, zK0, zK1, zK2, zK3, zK5, zK7, zK8, zK9, zK10, zK19, zK20, zK40, zK99, zK100, zK199] at q16) | skip
    refine x_il3 dX12_firstBy_25 ?_
    refine x_iconst (v := nI 1) dX12_firstBy_26 rfl ?_
    first | refine x_iadd (nI_add _ _) dX12_firstBy_27 ?_ | refine x_iadd rfl dX12_firstBy_27 ?_
    exact x_iret rfl rfl dX12_firstBy_28 ⟨by rw [ov_1 _ _ q16], rfl⟩
  · skip
    first | (simp only [cmp_lt, cmp_gt, cmp_eq, zN_cge, zN_cle, Decidable.not_not] at q16) | (simp (disch := omega) only [zN_le, zN_lt, zN_0, zN_1, nI_toInt, zN_eq, zN_eq0, b2_z, b2_nz, Decidable.not_not, Int.not_lt, Int.not_le, zK0, zK1, zK2, zK3, zK5, zK7, zK8, zK9, zK10, zK19, zK20, zK40, zK99, zK100, zK199] at q16) | skip
    refine x_ldcw kcX12_368 dX12_firstBy_19 ?_
    refine x_goto (tgt := 28) dX12_firstBy_22 rfl ?_
    exact x_iret rfl rfl dX12_firstBy_28 ⟨by rw [← ov_2 _ _ q16]; rfl, rfl⟩
theorem j_otherAt {q : Nat} {B F : Nat → Bool} (W : MW h0 h s M L) (J : MJ s M L dk st un tp tr pi fl) (hT : ThP s M dk st) (hF : ∀ q, q < fct dk.1 → M 74 q = nI (fv (B q) (F q))) (hq : q < fct dk.1) (hb : B q = false) : Zm g (d + 1) 0 0 mX12_otherAt [.ref 59, .int (nI q)] h (rIp (fun r h' => h' = h ∧ ∃ o, r = nI (ov false o) ∧ (o = true → ∀ k, k ≤ np dk.1 → B (fto dk.1 q k) = true ∨ F (fto dk.1 q k) = true))) := by
  obtain ⟨D, hn0, hn6, ho0, ho9, hng, hli, e0, e1, e2, m1, m2, m3, m4, m5, u1, u2, t1, t2, r1, hf⟩ := MJ.o J
  have npl := np_le hn6
  obtain ⟨hlet, hsm, hso, hth⟩ := id hT
  show Zw g (d + 1) 0 0 mX12_otherAt 0 [some (.ref 59), some (.int (nI q)), none, none, none] [] h _
  refine x_iconst (v := nI 0) dX12_otherAt_0 rfl ?_
  refine x_is2 rfl dX12_otherAt_1 ?_
  refine x_iconst (v := nI 0) dX12_otherAt_2 rfl ?_
  refine x_is3 rfl dX12_otherAt_3 ?_
  refine x_wh (fun (a : Nat × Nat × Option Value) => [some (.ref 59), some (.int (nI q)), some (.int (nI a.1)), some (.int (nI a.2.1)), a.2.2]) (fun a h' => h' = h ∧ a.1 ≤ 2 ∧ a.2.1 ≤ np dk.1 + 1 ∧ (a.2.1 = np dk.1 + 1 → a.1 = 2) ∧ ∀ k, k < a.2.1 → B (fto dk.1 q k) = true ∨ F (fto dk.1 q k) = true) (fun a => np dk.1 + 1 - a.2.1) (0, 0, none) ⟨rfl, by simp only; omega, by simp only; omega, fun z => by simp only at z; omega, fun k hk => absurd hk (Nat.not_lt_zero _)⟩ (fun a h' hI ih => ?_)
  obtain ⟨m, k, lv⟩ := a
  obtain ⟨rfl, hm, hk, hl, ha⟩ := hI
  simp only at hm hk hl ha
  dsimp only
  refine x_il3 dX12_otherAt_4 ?_
  refine x_al0 rfl dX12_otherAt_5 ?_
  refine x_gm fdX12_358 W.hM (by decide) (hsm) dX12_otherAt_6 ?_
  refine x_icmp_gt (tgt := 60) dX12_otherAt_9 rfl (fun q9 => ?_) (fun q9 => ?_)
  · skip
    first | (simp only [cmp_lt, cmp_gt, cmp_eq, zN_cge, zN_cle, Decidable.not_not] at q9) | (simp (disch := omega) only [zN_le, zN_lt, zN_0, zN_1, nI_toInt, zN_eq, zN_eq0, b2_z, b2_nz, Decidable.not_not, Int.not_lt, Int.not_le, zK0, zK1, zK2, zK3, zK5, zK7, zK8, zK9, zK10, zK19, zK20, zK40, zK99, zK100, zK199] at q9) | skip
    refine x_il2 dX12_otherAt_60 ?_
    exact x_iret rfl rfl dX12_otherAt_61 ⟨_, rfl, rfl, true, by rw [hl (by omega)]; rfl, fun _ k' hk' => ha k' (by omega)⟩
  · skip
    first | (simp only [cmp_lt, cmp_gt, cmp_eq, zN_cge, zN_cle, Decidable.not_not] at q9) | (simp (disch := omega) only [zN_le, zN_lt, zN_0, zN_1, nI_toInt, zN_eq, zN_eq0, b2_z, b2_nz, Decidable.not_not, Int.not_lt, Int.not_le, zK0, zK1, zK2, zK3, zK5, zK7, zK8, zK9, zK10, zK19, zK20, zK40, zK99, zK100, zK199] at q9) | skip
    have kl : k ≤ np dk.1 := by omega
    have fl := fto_lt hn0 hn6 hq kl
    refine x_al0 rfl dX12_otherAt_12 ?_
    refine x_gm fdX12_61 W.hM (by decide) W.hF.f30 dX12_otherAt_13 ?_
    refine x_al0 rfl dX12_otherAt_16 ?_
    refine x_il1 dX12_otherAt_17 ?_
    refine x_il3 dX12_otherAt_18 ?_
    refine x_cv2I mX12_forcedTo_ok lkX12_411 rfl (Nat.le_of_ble_eq_true rfl) (Nat.le_of_ble_eq_true rfl) dX12_otherAt_19 W.hM  (j_forcedTo W J hT hq kl) ?_
    refine x_mld (len := 720) W rfl rfl (by decide) (by omega) (hF _ fl) dX12_otherAt_22 ?_
    have vl := fv_le (B (fto dk.1 q k)) (F (fto dk.1 q k))
    refine x_is4 rfl dX12_otherAt_23 ?_
    refine x_il4 dX12_otherAt_25 ?_
    refine x_ldcw kcX12_368 dX12_otherAt_27 ?_
    rw [show (268435456 : Int32) = nI 268435456 from rfl]
    refine x_icmp_ne (tgt := 37) dX12_otherAt_30 rfl (fun q30 => ?_) (fun q30 => ?_)
    · skip
      first | (simp only [cmp_lt, cmp_gt, cmp_eq, zN_cge, zN_cle, Decidable.not_not] at q30) | (simp (disch := omega) only [zN_le, zN_lt, zN_0, zN_1, nI_toInt, zN_eq, zN_eq0, b2_z, b2_nz, Decidable.not_not, Int.not_lt, Int.not_le, zK0, zK1, zK2, zK3, zK5, zK7, zK8, zK9, zK10, zK19, zK20, zK40, zK99, zK100, zK199] at q30) | skip
      have v1 := fv_1 _ _ q30
      have v2 : k = np dk.1 → fv (B (fto dk.1 q k)) (F (fto dk.1 q k)) = 1 := fun z => v1.2.2 (by unfold fto; rw [if_pos z]; exact hb)
      refine x_il4 dX12_otherAt_37 ?_
      refine x_iconst (v := nI 1) dX12_otherAt_39 rfl ?_
      first | refine x_iadd (nI_add _ _) dX12_otherAt_40 ?_ | refine x_iadd rfl dX12_otherAt_40 ?_
      refine x_il2 dX12_otherAt_41 ?_
      refine x_icmp_le (tgt := 52) dX12_otherAt_42 rfl (fun q42 => ?_) (fun q42 => ?_)
      · skip
        first | (simp only [cmp_lt, cmp_gt, cmp_eq, zN_cge, zN_cle, Decidable.not_not] at q42) | (simp (disch := omega) only [zN_le, zN_lt, zN_0, zN_1, nI_toInt, zN_eq, zN_eq0, b2_z, b2_nz, Decidable.not_not, Int.not_lt, Int.not_le, zK0, zK1, zK2, zK3, zK5, zK7, zK8, zK9, zK10, zK19, zK20, zK40, zK99, zK100, zK199] at q42) | skip
        refine x_il2 dX12_otherAt_52 ?_
        refine x_is2 rfl dX12_otherAt_53 ?_
        first | refine x_ii3 rfl (nI_1 _) dX12_otherAt_54 ?_ | refine x_ii3 rfl rfl dX12_otherAt_54 ?_
        refine x_goto (tgt := 4) dX12_otherAt_57 rfl ?_
        refine ih (m, k + 1, _) _ (by simp only; omega) ⟨rfl, hm, by simp only; omega, fun z => ?_, fun k' hk' => ?_⟩
        · simp only at z ⊢; have := v2 (by omega); omega
        · by_cases c : k' = k
          · rw [c]; exact v1.2.1
          · exact ha k' (by simp only at hk'; omega)
      · skip
        first | (simp only [cmp_lt, cmp_gt, cmp_eq, zN_cge, zN_cle, Decidable.not_not] at q42) | (simp (disch := omega) only [zN_le, zN_lt, zN_0, zN_1, nI_toInt, zN_eq, zN_eq0, b2_z, b2_nz, Decidable.not_not, Int.not_lt, Int.not_le, zK0, zK1, zK2, zK3, zK5, zK7, zK8, zK9, zK10, zK19, zK20, zK40, zK99, zK100, zK199] at q42) | skip
        refine x_il4 dX12_otherAt_45 ?_
        refine x_iconst (v := nI 1) dX12_otherAt_47 rfl ?_
        first | refine x_iadd (nI_add _ _) dX12_otherAt_48 ?_ | refine x_iadd rfl dX12_otherAt_48 ?_
        refine x_goto (tgt := 53) dX12_otherAt_49 rfl ?_
        refine x_is2 rfl dX12_otherAt_53 ?_
        first | refine x_ii3 rfl (nI_1 _) dX12_otherAt_54 ?_ | refine x_ii3 rfl rfl dX12_otherAt_54 ?_
        refine x_goto (tgt := 4) dX12_otherAt_57 rfl ?_
        refine ih (fv (B (fto dk.1 q k)) (F (fto dk.1 q k)) + 1, k + 1, _) _ (by simp only; omega) ⟨rfl, by simp only; omega, by simp only; omega, fun z => ?_, fun k' hk' => ?_⟩
        · simp only at z ⊢; have := v2 (by omega); omega
        · by_cases c : k' = k
          · rw [c]; exact v1.2.1
          · exact ha k' (by simp only at hk'; omega)
    · skip
      first | (simp only [cmp_lt, cmp_gt, cmp_eq, zN_cge, zN_cle, Decidable.not_not] at q30) | (simp (disch := omega) only [zN_le, zN_lt, zN_0, zN_1, nI_toInt, zN_eq, zN_eq0, b2_z, b2_nz, Decidable.not_not, Int.not_lt, Int.not_le, zK0, zK1, zK2, zK3, zK5, zK7, zK8, zK9, zK10, zK19, zK20, zK40, zK99, zK100, zK199] at q30) | skip
      refine x_ldcw kcX12_368 dX12_otherAt_33 ?_
      exact x_iret rfl rfl dX12_otherAt_36 ⟨_, rfl, rfl, false, rfl, fun z => (by cases z)⟩
theorem j_laysForce {aim : Nat} (W : MW h0 h s M L) (J : MJ s M L dk st un tp tr pi fl) (ha : aim < 2) : Zm g (d + 6) 0 0 mX12_laysForce [.ref 59, .int (nI aim)] h (rIp (fun r h' => ∃ F O, FoP h0 h' dk st un tp tr pi fl (soB dk st.2.1 aim) F O ∧ FoI dk.1 (soB dk st.2.1 aim) F O ∧ (∀ q, q < fct dk.1 → soB dk st.2.1 aim q = false → hasN dk.1 (soB dk st.2.1 aim) q → F q = true) ∧ r = nI (fv (soB dk st.2.1 aim st.1) (F st.1)))) := by
  obtain ⟨D, hn0, hn6, ho0, ho9, hng, hli, e0, e1, e2, m1, m2, m3, m4, m5, u1, u2, t1, t2, r1, hf⟩ := MJ.o J
  have npl := np_le hn6
  show Zw g (d + 6) 0 0 mX12_laysForce 0 [some (.ref 59), some (.int (nI aim)), none, none, none, none] [] h _
  refine x_al0 rfl dX12_laysForce_0 ?_
  refine x_cv0Vp mX12_laysThen_ok lkX12_361 rfl (Nat.le_of_ble_eq_true rfl) (Nat.le_of_ble_eq_true rfl) dX12_laysForce_1 W.hM  (j_laysThen W J) (fun h hq => ?_)
  obtain ⟨s1, M1, L1, W, J, U, hT⟩ := hq
  refine x_iconst (v := nI 0) dX12_laysForce_4 rfl ?_
  refine x_is2 rfl dX12_laysForce_5 ?_
  refine x_for (e := fct dk.1) (fun i => [some (.ref 59), some (.int (nI aim)), some (.int (nI i)), none, none, none]) (fun i h => ∃ M', MW h0 h s1 M' L1 ∧ MJ s1 M' L1 dk st un tp tr pi fl ∧ ThP s1 M' dk st ∧ (∀ q, q < i → M' 74 q = nI (fv (soB dk st.2.1 aim q) false)) ∧ ∀ q, q < i → M' 75 q = nI (ov (soB dk st.2.1 aim q) false)) 0 (by omega) ⟨_, W, J, hT, fun q hq => absurd hq (Nat.not_lt_zero _), fun q hq => absurd hq (Nat.not_lt_zero _)⟩ (fun h hI => ?_) (fun i h hi hI ih => ?_)
  · obtain ⟨M2, W, J, hT, hF, hO⟩ := hI
    obtain ⟨D, hn0, hn6, ho0, ho9, hng, hli, e0, e1, e2, m1, m2, m3, m4, m5, u1, u2, t1, t2, r1, hf⟩ := MJ.o J
    refine x_il2 dX12_laysForce_6 ?_
    refine x_al0 rfl dX12_laysForce_7 ?_
    refine x_gm fdX12_223 W.hM (by decide) (by first | assumption | rfl) dX12_laysForce_8 ?_
    refine x_icmp_ge (tgt := 54) dX12_laysForce_11 rfl (fun q11 => ?_) (fun q11 => ?_)
    · skip
      first | (simp only [cmp_lt, cmp_gt, cmp_eq, zN_cge, zN_cle, Decidable.not_not] at q11) | (simp (disch := omega) only [zN_le, zN_lt, zN_0, zN_1, nI_toInt, zN_eq, zN_eq0, b2_z, b2_nz, Decidable.not_not, Int.not_lt, Int.not_le, zK0, zK1, zK2, zK3, zK5, zK7, zK8, zK9, zK10, zK19, zK20, zK40, zK99, zK100, zK199] at q11) | skip
      refine x_iconst (v := nI 1) dX12_laysForce_54 rfl ?_
      refine x_is2 rfl dX12_laysForce_55 ?_
      refine x_wh (fun (a : ((Nat → Bool) × (Nat → Bool)) × Bool × Option Value × Option Value × Option Value) => [some (.ref 59), some (.int (nI aim)), some (.int (cI a.2.1)), a.2.2.1, a.2.2.2.1, a.2.2.2.2]) (fun a h => FoP h0 h dk st un tp tr pi fl (soB dk st.2.1 aim) a.1.1 a.1.2 ∧ FoI dk.1 (soB dk st.2.1 aim) a.1.1 a.1.2 ∧ (a.2.1 = false → ∀ q, q < fct dk.1 → soB dk st.2.1 aim q = false → hasN dk.1 (soB dk st.2.1 aim) q → a.1.1 q = true)) (fun a => 2 * (2 * fct dk.1 - cnt a.1.1 (fct dk.1) - cnt a.1.2 (fct dk.1)) + (if a.2.1 then 1 else 0)) ((fun _ => false, fun _ => false), true, none, none, none) ⟨⟨_, _, _, W, J, hT, hF, hO⟩, ⟨fun q _ _ z => (by cases z), fun q _ _ z => (by cases z)⟩, fun z => (by cases z)⟩ (fun a h hI ih => ?_)
      obtain ⟨⟨F, O⟩, mo, v1, v2, v3⟩ := a
      obtain ⟨⟨s2, M2, L2, W, J, hT, hF, hO⟩, hI, hX⟩ := hI
      simp only at hF hO hI hX
      dsimp only
      obtain ⟨D, hn0, hn6, ho0, ho9, hng, hli, e0, e1, e2, m1, m2, m3, m4, m5, u1, u2, t1, t2, r1, hf⟩ := MJ.o J
      refine x_il2 dX12_laysForce_56 ?_
      refine x_if_eq (tgt := 218) dX12_laysForce_57 rfl (fun q57 => ?_) (fun q57 => ?_)
      · skip
        have mf : mo = false := by cases mo; rfl; exact absurd q57 (by decide)
        refine x_al0 rfl dX12_laysForce_218 ?_
        refine x_gm fdX12_61 W.hM (by decide) W.hF.f30 dX12_laysForce_219 ?_
        refine x_al0 rfl dX12_laysForce_222 ?_
        refine x_gm fdX12_13 W.hM (by decide) W.hF.f1 dX12_laysForce_223 ?_
        refine x_bipush (v := nI 21) dX12_laysForce_226 rfl ?_
        refine x_mld (len := 2868) W rfl rfl (by decide) (by omega) (by first | assumption | rfl) dX12_laysForce_228 ?_
        refine x_mld (len := 720) W rfl rfl (by decide) (by omega) (hF _ m4) dX12_laysForce_229 ?_
        exact x_iret rfl rfl dX12_laysForce_230 ⟨_, rfl, F, O, ⟨_, _, _, W, J, hT, hF, hO⟩, hI, hX mf, rfl⟩
      · skip
        refine x_iconst (v := nI 0) dX12_laysForce_60 rfl ?_
        refine x_is2 rfl dX12_laysForce_61 ?_
        refine x_iconst (v := nI 0) dX12_laysForce_62 rfl ?_
        refine x_is3 rfl dX12_laysForce_63 ?_
        have mt : mo = true := by cases mo; exact absurd rfl q57; rfl
        subst mt
        refine x_wh (fun (a : Nat × ((Nat → Bool) × (Nat → Bool)) × Bool × Option Value × Option Value) => [some (.ref 59), some (.int (nI aim)), some (.int (cI a.2.2.1)), some (.int (nI a.1)), a.2.2.2.1, a.2.2.2.2]) (fun a h => a.1 ≤ fct dk.1 ∧ FoP h0 h dk st un tp tr pi fl (soB dk st.2.1 aim) a.2.1.1 a.2.1.2 ∧ FoI dk.1 (soB dk st.2.1 aim) a.2.1.1 a.2.1.2 ∧ (∀ q, q < a.1 → soB dk st.2.1 aim q = false → hasN dk.1 (soB dk st.2.1 aim) q → a.2.1.1 q = true) ∧ cnt F (fct dk.1) + cnt O (fct dk.1) + (if a.2.2.1 then 1 else 0) ≤ cnt a.2.1.1 (fct dk.1) + cnt a.2.1.2 (fct dk.1)) (fun a => fct dk.1 - a.1) (0, (F, O), false, v2, v3) ⟨Nat.zero_le _, ⟨_, _, _, W, J, hT, hF, hO⟩, hI, fun q hq => absurd hq (Nat.not_lt_zero _), by simp⟩ (fun a h hI ih2 => ?_)
        obtain ⟨q0, ⟨F2, O2⟩, mo2, w1, w2⟩ := a
        obtain ⟨hq0, ⟨s3, M3', L3, W, J, hT, hF, hO⟩, hI, hX, hc⟩ := hI
        simp only at hq0 hF hO hI hX hc
        dsimp only
        obtain ⟨D, hn0, hn6, ho0, ho9, hng, hli, e0, e1, e2, m1, m2, m3, m4, m5, u1, u2, t1, t2, r1, hf⟩ := MJ.o J
        obtain ⟨hlet, hsm, hso, hth⟩ := id hT
        refine x_il3 dX12_laysForce_64 ?_
        refine x_al0 rfl dX12_laysForce_65 ?_
        refine x_gm fdX12_223 W.hM (by decide) (by first | assumption | rfl) dX12_laysForce_66 ?_
        refine x_icmp_ge (tgt := 215) dX12_laysForce_69 rfl (fun q69 => ?_) (fun q69 => ?_)
        · skip
          first | (simp only [cmp_lt, cmp_gt, cmp_eq, zN_cge, zN_cle, Decidable.not_not] at q69) | (simp (disch := omega) only [zN_le, zN_lt, zN_0, zN_1, nI_toInt, zN_eq, zN_eq0, b2_z, b2_nz, Decidable.not_not, Int.not_lt, Int.not_le, zK0, zK1, zK2, zK3, zK5, zK7, zK8, zK9, zK10, zK19, zK20, zK40, zK99, zK100, zK199] at q69) | skip
          have q9 : q0 = fct dk.1 := by omega
          subst q9
          refine x_goto (tgt := 56) dX12_laysForce_215 rfl ?_
          refine ih ((F2, O2), mo2, _, _, _) _ ?_ ⟨⟨_, _, _, W, J, hT, hF, hO⟩, hI, fun _ => hX⟩
          simp only
          have c1 : cnt F2 (fct dk.1) ≤ fct dk.1 := cnt_le _
          have c2 : cnt O2 (fct dk.1) ≤ fct dk.1 := cnt_le _
          cases mo2 with
          | false => simp at hc ⊢; omega
          | true => simp at hc ⊢; omega
        · skip
          first | (simp only [cmp_lt, cmp_gt, cmp_eq, zN_cge, zN_cle, Decidable.not_not] at q69) | (simp (disch := omega) only [zN_le, zN_lt, zN_0, zN_1, nI_toInt, zN_eq, zN_eq0, b2_z, b2_nz, Decidable.not_not, Int.not_lt, Int.not_le, zK0, zK1, zK2, zK3, zK5, zK7, zK8, zK9, zK10, zK19, zK20, zK40, zK99, zK100, zK199] at q69) | skip
          have ql : q0 < fct dk.1 := by omega
          refine x_al0 rfl dX12_laysForce_72 ?_
          refine x_il3 dX12_laysForce_73 ?_
          refine x_il1 dX12_laysForce_74 ?_
          refine x_cv2I mX12_isSo_ok lkX12_364 rfl (Nat.le_of_ble_eq_true rfl) (Nat.le_of_ble_eq_true rfl) dX12_laysForce_75 W.hM  (j_isSo W J ql ha (hlet q0 ql) (by have := mskK_lt (row := q0) (c := st.2.1) hn6; omega)) ?_
          refine x_if_eq (tgt := 84) dX12_laysForce_78 rfl (fun q78 => ?_) (fun q78 => ?_)
          · skip
            first | (simp only [cmp_lt, cmp_gt, cmp_eq, zN_cge, zN_cle, Decidable.not_not] at q78) | (simp (disch := omega) only [zN_le, zN_lt, zN_0, zN_1, nI_toInt, zN_eq, zN_eq0, b2_z, b2_nz, Decidable.not_not, Int.not_lt, Int.not_le, zK0, zK1, zK2, zK3, zK5, zK7, zK8, zK9, zK10, zK19, zK20, zK40, zK99, zK100, zK199] at q78) | skip
            have sb : soB dk st.2.1 aim q0 = false := by simpa [soB] using q78
            have hFq : M3' 74 q0 = nI (fv false (F2 q0)) := by rw [hF q0 ql, sb]
            have hOq : M3' 75 q0 = nI (ov false (O2 q0)) := by rw [hO q0 ql, sb]
            refine x_al0 rfl dX12_laysForce_84 ?_
            refine x_gm fdX12_61 W.hM (by decide) W.hF.f30 dX12_laysForce_85 ?_
            refine x_il3 dX12_laysForce_88 ?_
            refine x_mld (len := 720) W rfl rfl (by decide) (by omega) hFq dX12_laysForce_89 ?_
            refine x_is4 rfl dX12_laysForce_90 ?_
            refine x_iconst (v := nI 0) dX12_laysForce_92 rfl ?_
            refine x_is5 rfl dX12_laysForce_93 ?_
            refine x_wh (fun (a : Nat × Bool) => [some (.ref 59), some (.int (nI aim)), some (.int (cI mo2)), some (.int (nI q0)), some (.int (nI (fv false a.2))), some (.int (nI a.1))]) (fun a h' => h' = h ∧ a.1 ≤ np dk.1 + 1 ∧ (F2 q0 = true → a.2 = true) ∧ (a.2 = true → hasN dk.1 (soB dk st.2.1 aim) q0) ∧ ∀ j, j < a.1 → j < np dk.1 → soB dk st.2.1 aim (swp dk.1 q0 j) = true → a.2 = true) (fun a => np dk.1 + 1 - a.1) (0, F2 q0) ⟨rfl, by simp only; omega, fun z => z, fun z => hI.1 q0 ql sb z, fun j hj => absurd hj (Nat.not_lt_zero _)⟩ (fun a h' hA ih3 => ?_)
            obtain ⟨k, bl⟩ := a
            obtain ⟨rfl, hk, hb1, hb2, hb3⟩ := hA
            simp only at hk hb1 hb2 hb3
            dsimp only
            have vl := fv_le false bl
            refine x_il5 dX12_laysForce_95 ?_
            refine x_al0 rfl dX12_laysForce_97 ?_
            refine x_gm fdX12_358 W.hM (by decide) (hsm) dX12_laysForce_98 ?_
            refine x_icmp_gt (tgt := 136) dX12_laysForce_101 rfl (fun q101 => ?_) (fun q101 => ?_)
            · skip
              first | (simp only [cmp_lt, cmp_gt, cmp_eq, zN_cge, zN_cle, Decidable.not_not] at q101) | (simp (disch := omega) only [zN_le, zN_lt, zN_0, zN_1, nI_toInt, zN_eq, zN_eq0, b2_z, b2_nz, Decidable.not_not, Int.not_lt, Int.not_le, zK0, zK1, zK2, zK3, zK5, zK7, zK8, zK9, zK10, zK19, zK20, zK40, zK99, zK100, zK199] at q101) | skip
              have k9 : k = np dk.1 + 1 := by omega
              refine x_al0 rfl dX12_laysForce_136 ?_
              refine x_il3 dX12_laysForce_137 ?_
              refine x_cv1Ip mX12_otherAt_ok lkX12_417 rfl (Nat.le_of_ble_eq_true rfl) (Nat.le_of_ble_eq_true rfl) dX12_laysForce_138 W.hM  (j_otherAt W J hT hF ql sb) (fun r h hq => ?_)
              obtain ⟨rfl, o, rfl, ho⟩ := hq
              have wl := ov_le false o
              have wl2 := ov_le false (O2 q0)
              have vl2 := fv_le false (F2 q0)
              refine x_is5 rfl dX12_laysForce_141 ?_
              refine x_il2 dX12_laysForce_143 ?_
              refine x_il4 dX12_laysForce_144 ?_
              refine x_al0 rfl dX12_laysForce_146 ?_
              refine x_gm fdX12_61 W.hM (by decide) W.hF.f30 dX12_laysForce_147 ?_
              refine x_il3 dX12_laysForce_150 ?_
              refine x_mld (len := 720) W rfl rfl (by decide) (by omega) hFq dX12_laysForce_151 ?_
              refine x_icmp_lt (tgt := 166) dX12_laysForce_152 rfl (fun q152 => ?_) (fun q152 => ?_)
              · skip
                first | (simp only [cmp_lt, cmp_gt, cmp_eq, zN_cge, zN_cle, Decidable.not_not] at q152) | (simp (disch := omega) only [zN_le, zN_lt, zN_0, zN_1, nI_toInt, zN_eq, zN_eq0, b2_z, b2_nz, Decidable.not_not, Int.not_lt, Int.not_le, zK0, zK1, zK2, zK3, zK5, zK7, zK8, zK9, zK10, zK19, zK20, zK40, zK99, zK100, zK199] at q152) | skip
                refine x_iconst (v := nI 1) dX12_laysForce_166 rfl ?_
                refine x_goto (tgt := 171) dX12_laysForce_167 rfl ?_
                refine x_ior (cI_o1 _) dX12_laysForce_171 ?_
                refine x_is2 rfl dX12_laysForce_172 ?_
                refine x_al0 rfl dX12_laysForce_173 ?_
                refine x_gm fdX12_61 W.hM (by decide) W.hF.f30 dX12_laysForce_174 ?_
                refine x_il3 dX12_laysForce_177 ?_
                refine x_il4 dX12_laysForce_178 ?_
                refine x_mstJ (len := 720) W J rfl rfl (by decide) rfl (by omega) dX12_laysForce_180 (fun h W J => ?_)
                refine x_al0 rfl dX12_laysForce_181 ?_
                refine x_gm fdX12_64 W.hM (by decide) W.hF.f31 dX12_laysForce_182 ?_
                refine x_il3 dX12_laysForce_185 ?_
                refine x_il5 dX12_laysForce_186 ?_
                refine x_al0 rfl dX12_laysForce_188 ?_
                refine x_gm fdX12_64 W.hM (by decide) W.hF.f31 dX12_laysForce_189 ?_
                refine x_il3 dX12_laysForce_192 ?_
                refine x_mld (len := 720) W rfl rfl (by decide) (by omega) hOq dX12_laysForce_193 ?_
                refine x_icmp_ge (tgt := 202) dX12_laysForce_194 rfl (fun q194 => ?_) (fun q194 => ?_)
                · skip
                  first | (simp only [cmp_lt, cmp_gt, cmp_eq, zN_cge, zN_cle, Decidable.not_not] at q194) | (simp (disch := omega) only [zN_le, zN_lt, zN_0, zN_1, nI_toInt, zN_eq, zN_eq0, b2_z, b2_nz, Decidable.not_not, Int.not_lt, Int.not_le, zK0, zK1, zK2, zK3, zK5, zK7, zK8, zK9, zK10, zK19, zK20, zK40, zK99, zK100, zK199] at q194) | skip
                  refine x_al0 rfl dX12_laysForce_202 ?_
                  refine x_gm fdX12_64 W.hM (by decide) W.hF.f31 dX12_laysForce_203 ?_
                  refine x_il3 dX12_laysForce_206 ?_
                  refine x_mld (len := 720) W rfl rfl (by decide) (by omega) hOq dX12_laysForce_207 ?_
                  refine x_mstJ (len := 720) W J rfl rfl (by decide) rfl (by omega) dX12_laysForce_208 (fun h W J => ?_)
                  first | refine x_ii3 rfl (nI_1 _) dX12_laysForce_209 ?_ | refine x_ii3 rfl rfl dX12_laysForce_209 ?_
                  refine x_goto (tgt := 64) dX12_laysForce_212 rfl ?_
                  have bm := fun c => hb3 c
                  have cf1 := orB_c (F := F2) (b := bl) ql
                  have cf2 := orB_c (F := O2) (b := o) ql
                  refine ih2 (q0 + 1, (orB F2 q0 bl, orB O2 q0 o), _, _, _) _ (by simp only; omega) ⟨ql, ⟨_, _, _, W, J, hT, fun q hq => ?_, fun q hq => ?_⟩, ⟨fun q hq hB hF => ?_, fun q hq hB hO k' hk' => ?_⟩, fun q hq hB hn => ?_, ?_⟩
                  · simp only
                    rw [upM_ne (by decide), upM_eq]
                    by_cases z : q = q0
                    · rw [z, pk_us, orB_s, sb, fv_or hb1]
                    · rw [pk_un z, orB_n z]; exact hF q hq
                  · simp only
                    rw [upM_eq]
                    by_cases z : q = q0
                    · rw [z, pk_us, orB_s, sb]
                      first | exact congrArg nI (ov_m1 _ _ (by omega)) | exact congrArg nI (ov_m2 _ _ (by omega))
                    · rw [pk_un z, orB_n z, upM_ne (by decide)]; exact hO q hq
                  · simp only at hF
                    by_cases z : q = q0
                    · rw [z, orB_s] at hF
                      rw [z]
                      refine hb2 ?_
                      cases e : F2 q0 with
                      | true => exact hb1 e
                      | false => rw [e] at hF; exact hF
                    · rw [orB_n z] at hF; exact hI.1 q hq hB hF
                  · simp only at hO ⊢
                    have mo : soB dk st.2.1 aim (fto dk.1 q k') = true ∨ F2 (fto dk.1 q k') = true := by
                      by_cases z : q = q0
                      · rw [z, orB_s] at hO
                        cases e : O2 q0 with
                        | true => rw [z]; exact hI.2 q0 ql sb e k' hk'
                        | false => rw [e] at hO; rw [z]; exact ho hO k' hk'
                      · rw [orB_n z] at hO; exact hI.2 q hq hB hO k' hk'
                    rcases mo with c | c
                    · exact Or.inl c
                    · exact Or.inr (orB_m c)
                  · simp only at hq ⊢
                    by_cases z : q = q0
                    · rw [z, orB_s]
                      obtain ⟨k', hk', hb'⟩ := hn
                      rw [z] at hb'
                      rw [hb3 k' (by omega) hk' hb']
                      cases F2 q0 <;> rfl
                    · exact orB_m (hX q (by omega) hB hn)
                  · simp only
                    rw [cf1, cf2]
                    first
                    | (have c := fv_c bl (F2 q0) (by omega); rw [c]; cases mo2 <;> simp at hc ⊢ <;> omega)
                    | (have c := ov_c o (O2 q0) (by omega); rw [c]; cases mo2 <;> simp at hc ⊢ <;> omega)
                    | omega
                · skip
                  first | (simp only [cmp_lt, cmp_gt, cmp_eq, zN_cge, zN_cle, Decidable.not_not] at q194) | (simp (disch := omega) only [zN_le, zN_lt, zN_0, zN_1, nI_toInt, zN_eq, zN_eq0, b2_z, b2_nz, Decidable.not_not, Int.not_lt, Int.not_le, zK0, zK1, zK2, zK3, zK5, zK7, zK8, zK9, zK10, zK19, zK20, zK40, zK99, zK100, zK199] at q194) | skip
                  refine x_il5 dX12_laysForce_197 ?_
                  refine x_goto (tgt := 208) dX12_laysForce_199 rfl ?_
                  refine x_mstJ (len := 720) W J rfl rfl (by decide) rfl (by omega) dX12_laysForce_208 (fun h W J => ?_)
                  first | refine x_ii3 rfl (nI_1 _) dX12_laysForce_209 ?_ | refine x_ii3 rfl rfl dX12_laysForce_209 ?_
                  refine x_goto (tgt := 64) dX12_laysForce_212 rfl ?_
                  have bm := fun c => hb3 c
                  have cf1 := orB_c (F := F2) (b := bl) ql
                  have cf2 := orB_c (F := O2) (b := o) ql
                  refine ih2 (q0 + 1, (orB F2 q0 bl, orB O2 q0 o), _, _, _) _ (by simp only; omega) ⟨ql, ⟨_, _, _, W, J, hT, fun q hq => ?_, fun q hq => ?_⟩, ⟨fun q hq hB hF => ?_, fun q hq hB hO k' hk' => ?_⟩, fun q hq hB hn => ?_, ?_⟩
                  · simp only
                    rw [upM_ne (by decide), upM_eq]
                    by_cases z : q = q0
                    · rw [z, pk_us, orB_s, sb, fv_or hb1]
                    · rw [pk_un z, orB_n z]; exact hF q hq
                  · simp only
                    rw [upM_eq]
                    by_cases z : q = q0
                    · rw [z, pk_us, orB_s, sb]
                      first | exact congrArg nI (ov_m1 _ _ (by omega)) | exact congrArg nI (ov_m2 _ _ (by omega))
                    · rw [pk_un z, orB_n z, upM_ne (by decide)]; exact hO q hq
                  · simp only at hF
                    by_cases z : q = q0
                    · rw [z, orB_s] at hF
                      rw [z]
                      refine hb2 ?_
                      cases e : F2 q0 with
                      | true => exact hb1 e
                      | false => rw [e] at hF; exact hF
                    · rw [orB_n z] at hF; exact hI.1 q hq hB hF
                  · simp only at hO ⊢
                    have mo : soB dk st.2.1 aim (fto dk.1 q k') = true ∨ F2 (fto dk.1 q k') = true := by
                      by_cases z : q = q0
                      · rw [z, orB_s] at hO
                        cases e : O2 q0 with
                        | true => rw [z]; exact hI.2 q0 ql sb e k' hk'
                        | false => rw [e] at hO; rw [z]; exact ho hO k' hk'
                      · rw [orB_n z] at hO; exact hI.2 q hq hB hO k' hk'
                    rcases mo with c | c
                    · exact Or.inl c
                    · exact Or.inr (orB_m c)
                  · simp only at hq ⊢
                    by_cases z : q = q0
                    · rw [z, orB_s]
                      obtain ⟨k', hk', hb'⟩ := hn
                      rw [z] at hb'
                      rw [hb3 k' (by omega) hk' hb']
                      cases F2 q0 <;> rfl
                    · exact orB_m (hX q (by omega) hB hn)
                  · simp only
                    rw [cf1, cf2]
                    first
                    | (have c := fv_c bl (F2 q0) (by omega); rw [c]; cases mo2 <;> simp at hc ⊢ <;> omega)
                    | (have c := ov_c o (O2 q0) (by omega); rw [c]; cases mo2 <;> simp at hc ⊢ <;> omega)
                    | omega
              · skip
                first | (simp only [cmp_lt, cmp_gt, cmp_eq, zN_cge, zN_cle, Decidable.not_not] at q152) | (simp (disch := omega) only [zN_le, zN_lt, zN_0, zN_1, nI_toInt, zN_eq, zN_eq0, b2_z, b2_nz, Decidable.not_not, Int.not_lt, Int.not_le, zK0, zK1, zK2, zK3, zK5, zK7, zK8, zK9, zK10, zK19, zK20, zK40, zK99, zK100, zK199] at q152) | skip
                refine x_il5 dX12_laysForce_155 ?_
                refine x_al0 rfl dX12_laysForce_157 ?_
                refine x_gm fdX12_64 W.hM (by decide) W.hF.f31 dX12_laysForce_158 ?_
                refine x_il3 dX12_laysForce_161 ?_
                refine x_mld (len := 720) W rfl rfl (by decide) (by omega) hOq dX12_laysForce_162 ?_
                refine x_icmp_ge (tgt := 170) dX12_laysForce_163 rfl (fun q163 => ?_) (fun q163 => ?_)
                · skip
                  first | (simp only [cmp_lt, cmp_gt, cmp_eq, zN_cge, zN_cle, Decidable.not_not] at q163) | (simp (disch := omega) only [zN_le, zN_lt, zN_0, zN_1, nI_toInt, zN_eq, zN_eq0, b2_z, b2_nz, Decidable.not_not, Int.not_lt, Int.not_le, zK0, zK1, zK2, zK3, zK5, zK7, zK8, zK9, zK10, zK19, zK20, zK40, zK99, zK100, zK199] at q163) | skip
                  refine x_iconst (v := nI 0) dX12_laysForce_170 rfl ?_
                  refine x_ior (cI_o0 _) dX12_laysForce_171 ?_
                  refine x_is2 rfl dX12_laysForce_172 ?_
                  refine x_al0 rfl dX12_laysForce_173 ?_
                  refine x_gm fdX12_61 W.hM (by decide) W.hF.f30 dX12_laysForce_174 ?_
                  refine x_il3 dX12_laysForce_177 ?_
                  refine x_il4 dX12_laysForce_178 ?_
                  refine x_mstJ (len := 720) W J rfl rfl (by decide) rfl (by omega) dX12_laysForce_180 (fun h W J => ?_)
                  refine x_al0 rfl dX12_laysForce_181 ?_
                  refine x_gm fdX12_64 W.hM (by decide) W.hF.f31 dX12_laysForce_182 ?_
                  refine x_il3 dX12_laysForce_185 ?_
                  refine x_il5 dX12_laysForce_186 ?_
                  refine x_al0 rfl dX12_laysForce_188 ?_
                  refine x_gm fdX12_64 W.hM (by decide) W.hF.f31 dX12_laysForce_189 ?_
                  refine x_il3 dX12_laysForce_192 ?_
                  refine x_mld (len := 720) W rfl rfl (by decide) (by omega) hOq dX12_laysForce_193 ?_
                  refine x_icmp_ge (tgt := 202) dX12_laysForce_194 rfl (fun q194 => ?_) (fun q194 => ?_)
                  · skip
                    first | (simp only [cmp_lt, cmp_gt, cmp_eq, zN_cge, zN_cle, Decidable.not_not] at q194) | (simp (disch := omega) only [zN_le, zN_lt, zN_0, zN_1, nI_toInt, zN_eq, zN_eq0, b2_z, b2_nz, Decidable.not_not, Int.not_lt, Int.not_le, zK0, zK1, zK2, zK3, zK5, zK7, zK8, zK9, zK10, zK19, zK20, zK40, zK99, zK100, zK199] at q194) | skip
                    refine x_al0 rfl dX12_laysForce_202 ?_
                    refine x_gm fdX12_64 W.hM (by decide) W.hF.f31 dX12_laysForce_203 ?_
                    refine x_il3 dX12_laysForce_206 ?_
                    refine x_mld (len := 720) W rfl rfl (by decide) (by omega) hOq dX12_laysForce_207 ?_
                    refine x_mstJ (len := 720) W J rfl rfl (by decide) rfl (by omega) dX12_laysForce_208 (fun h W J => ?_)
                    first | refine x_ii3 rfl (nI_1 _) dX12_laysForce_209 ?_ | refine x_ii3 rfl rfl dX12_laysForce_209 ?_
                    refine x_goto (tgt := 64) dX12_laysForce_212 rfl ?_
                    have bm := fun c => hb3 c
                    have cf1 := orB_c (F := F2) (b := bl) ql
                    have cf2 := orB_c (F := O2) (b := o) ql
                    refine ih2 (q0 + 1, (orB F2 q0 bl, orB O2 q0 o), _, _, _) _ (by simp only; omega) ⟨ql, ⟨_, _, _, W, J, hT, fun q hq => ?_, fun q hq => ?_⟩, ⟨fun q hq hB hF => ?_, fun q hq hB hO k' hk' => ?_⟩, fun q hq hB hn => ?_, ?_⟩
                    · simp only
                      rw [upM_ne (by decide), upM_eq]
                      by_cases z : q = q0
                      · rw [z, pk_us, orB_s, sb, fv_or hb1]
                      · rw [pk_un z, orB_n z]; exact hF q hq
                    · simp only
                      rw [upM_eq]
                      by_cases z : q = q0
                      · rw [z, pk_us, orB_s, sb]
                        first | exact congrArg nI (ov_m1 _ _ (by omega)) | exact congrArg nI (ov_m2 _ _ (by omega))
                      · rw [pk_un z, orB_n z, upM_ne (by decide)]; exact hO q hq
                    · simp only at hF
                      by_cases z : q = q0
                      · rw [z, orB_s] at hF
                        rw [z]
                        refine hb2 ?_
                        cases e : F2 q0 with
                        | true => exact hb1 e
                        | false => rw [e] at hF; exact hF
                      · rw [orB_n z] at hF; exact hI.1 q hq hB hF
                    · simp only at hO ⊢
                      have mo : soB dk st.2.1 aim (fto dk.1 q k') = true ∨ F2 (fto dk.1 q k') = true := by
                        by_cases z : q = q0
                        · rw [z, orB_s] at hO
                          cases e : O2 q0 with
                          | true => rw [z]; exact hI.2 q0 ql sb e k' hk'
                          | false => rw [e] at hO; rw [z]; exact ho hO k' hk'
                        · rw [orB_n z] at hO; exact hI.2 q hq hB hO k' hk'
                      rcases mo with c | c
                      · exact Or.inl c
                      · exact Or.inr (orB_m c)
                    · simp only at hq ⊢
                      by_cases z : q = q0
                      · rw [z, orB_s]
                        obtain ⟨k', hk', hb'⟩ := hn
                        rw [z] at hb'
                        rw [hb3 k' (by omega) hk' hb']
                        cases F2 q0 <;> rfl
                      · exact orB_m (hX q (by omega) hB hn)
                    · simp only
                      rw [cf1, cf2]
                      first
                      | (have c := fv_c bl (F2 q0) (by omega); rw [c]; cases mo2 <;> simp at hc ⊢ <;> omega)
                      | (have c := ov_c o (O2 q0) (by omega); rw [c]; cases mo2 <;> simp at hc ⊢ <;> omega)
                      | omega
                  · skip
                    first | (simp only [cmp_lt, cmp_gt, cmp_eq, zN_cge, zN_cle, Decidable.not_not] at q194) | (simp (disch := omega) only [zN_le, zN_lt, zN_0, zN_1, nI_toInt, zN_eq, zN_eq0, b2_z, b2_nz, Decidable.not_not, Int.not_lt, Int.not_le, zK0, zK1, zK2, zK3, zK5, zK7, zK8, zK9, zK10, zK19, zK20, zK40, zK99, zK100, zK199] at q194) | skip
                    refine x_il5 dX12_laysForce_197 ?_
                    refine x_goto (tgt := 208) dX12_laysForce_199 rfl ?_
                    refine x_mstJ (len := 720) W J rfl rfl (by decide) rfl (by omega) dX12_laysForce_208 (fun h W J => ?_)
                    first | refine x_ii3 rfl (nI_1 _) dX12_laysForce_209 ?_ | refine x_ii3 rfl rfl dX12_laysForce_209 ?_
                    refine x_goto (tgt := 64) dX12_laysForce_212 rfl ?_
                    have bm := fun c => hb3 c
                    have cf1 := orB_c (F := F2) (b := bl) ql
                    have cf2 := orB_c (F := O2) (b := o) ql
                    refine ih2 (q0 + 1, (orB F2 q0 bl, orB O2 q0 o), _, _, _) _ (by simp only; omega) ⟨ql, ⟨_, _, _, W, J, hT, fun q hq => ?_, fun q hq => ?_⟩, ⟨fun q hq hB hF => ?_, fun q hq hB hO k' hk' => ?_⟩, fun q hq hB hn => ?_, ?_⟩
                    · simp only
                      rw [upM_ne (by decide), upM_eq]
                      by_cases z : q = q0
                      · rw [z, pk_us, orB_s, sb, fv_or hb1]
                      · rw [pk_un z, orB_n z]; exact hF q hq
                    · simp only
                      rw [upM_eq]
                      by_cases z : q = q0
                      · rw [z, pk_us, orB_s, sb]
                        first | exact congrArg nI (ov_m1 _ _ (by omega)) | exact congrArg nI (ov_m2 _ _ (by omega))
                      · rw [pk_un z, orB_n z, upM_ne (by decide)]; exact hO q hq
                    · simp only at hF
                      by_cases z : q = q0
                      · rw [z, orB_s] at hF
                        rw [z]
                        refine hb2 ?_
                        cases e : F2 q0 with
                        | true => exact hb1 e
                        | false => rw [e] at hF; exact hF
                      · rw [orB_n z] at hF; exact hI.1 q hq hB hF
                    · simp only at hO ⊢
                      have mo : soB dk st.2.1 aim (fto dk.1 q k') = true ∨ F2 (fto dk.1 q k') = true := by
                        by_cases z : q = q0
                        · rw [z, orB_s] at hO
                          cases e : O2 q0 with
                          | true => rw [z]; exact hI.2 q0 ql sb e k' hk'
                          | false => rw [e] at hO; rw [z]; exact ho hO k' hk'
                        · rw [orB_n z] at hO; exact hI.2 q hq hB hO k' hk'
                      rcases mo with c | c
                      · exact Or.inl c
                      · exact Or.inr (orB_m c)
                    · simp only at hq ⊢
                      by_cases z : q = q0
                      · rw [z, orB_s]
                        obtain ⟨k', hk', hb'⟩ := hn
                        rw [z] at hb'
                        rw [hb3 k' (by omega) hk' hb']
                        cases F2 q0 <;> rfl
                      · exact orB_m (hX q (by omega) hB hn)
                    · simp only
                      rw [cf1, cf2]
                      first
                      | (have c := fv_c bl (F2 q0) (by omega); rw [c]; cases mo2 <;> simp at hc ⊢ <;> omega)
                      | (have c := ov_c o (O2 q0) (by omega); rw [c]; cases mo2 <;> simp at hc ⊢ <;> omega)
                      | omega
                · skip
                  first | (simp only [cmp_lt, cmp_gt, cmp_eq, zN_cge, zN_cle, Decidable.not_not] at q163) | (simp (disch := omega) only [zN_le, zN_lt, zN_0, zN_1, nI_toInt, zN_eq, zN_eq0, b2_z, b2_nz, Decidable.not_not, Int.not_lt, Int.not_le, zK0, zK1, zK2, zK3, zK5, zK7, zK8, zK9, zK10, zK19, zK20, zK40, zK99, zK100, zK199] at q163) | skip
                  refine x_iconst (v := nI 1) dX12_laysForce_166 rfl ?_
                  refine x_goto (tgt := 171) dX12_laysForce_167 rfl ?_
                  refine x_ior (cI_o1 _) dX12_laysForce_171 ?_
                  refine x_is2 rfl dX12_laysForce_172 ?_
                  refine x_al0 rfl dX12_laysForce_173 ?_
                  refine x_gm fdX12_61 W.hM (by decide) W.hF.f30 dX12_laysForce_174 ?_
                  refine x_il3 dX12_laysForce_177 ?_
                  refine x_il4 dX12_laysForce_178 ?_
                  refine x_mstJ (len := 720) W J rfl rfl (by decide) rfl (by omega) dX12_laysForce_180 (fun h W J => ?_)
                  refine x_al0 rfl dX12_laysForce_181 ?_
                  refine x_gm fdX12_64 W.hM (by decide) W.hF.f31 dX12_laysForce_182 ?_
                  refine x_il3 dX12_laysForce_185 ?_
                  refine x_il5 dX12_laysForce_186 ?_
                  refine x_al0 rfl dX12_laysForce_188 ?_
                  refine x_gm fdX12_64 W.hM (by decide) W.hF.f31 dX12_laysForce_189 ?_
                  refine x_il3 dX12_laysForce_192 ?_
                  refine x_mld (len := 720) W rfl rfl (by decide) (by omega) hOq dX12_laysForce_193 ?_
                  refine x_icmp_ge (tgt := 202) dX12_laysForce_194 rfl (fun q194 => ?_) (fun q194 => ?_)
                  · skip
                    first | (simp only [cmp_lt, cmp_gt, cmp_eq, zN_cge, zN_cle, Decidable.not_not] at q194) | (simp (disch := omega) only [zN_le, zN_lt, zN_0, zN_1, nI_toInt, zN_eq, zN_eq0, b2_z, b2_nz, Decidable.not_not, Int.not_lt, Int.not_le, zK0, zK1, zK2, zK3, zK5, zK7, zK8, zK9, zK10, zK19, zK20, zK40, zK99, zK100, zK199] at q194) | skip
                    refine x_al0 rfl dX12_laysForce_202 ?_
                    refine x_gm fdX12_64 W.hM (by decide) W.hF.f31 dX12_laysForce_203 ?_
                    refine x_il3 dX12_laysForce_206 ?_
                    refine x_mld (len := 720) W rfl rfl (by decide) (by omega) hOq dX12_laysForce_207 ?_
                    refine x_mstJ (len := 720) W J rfl rfl (by decide) rfl (by omega) dX12_laysForce_208 (fun h W J => ?_)
                    first | refine x_ii3 rfl (nI_1 _) dX12_laysForce_209 ?_ | refine x_ii3 rfl rfl dX12_laysForce_209 ?_
                    refine x_goto (tgt := 64) dX12_laysForce_212 rfl ?_
                    have bm := fun c => hb3 c
                    have cf1 := orB_c (F := F2) (b := bl) ql
                    have cf2 := orB_c (F := O2) (b := o) ql
                    refine ih2 (q0 + 1, (orB F2 q0 bl, orB O2 q0 o), _, _, _) _ (by simp only; omega) ⟨ql, ⟨_, _, _, W, J, hT, fun q hq => ?_, fun q hq => ?_⟩, ⟨fun q hq hB hF => ?_, fun q hq hB hO k' hk' => ?_⟩, fun q hq hB hn => ?_, ?_⟩
                    · simp only
                      rw [upM_ne (by decide), upM_eq]
                      by_cases z : q = q0
                      · rw [z, pk_us, orB_s, sb, fv_or hb1]
                      · rw [pk_un z, orB_n z]; exact hF q hq
                    · simp only
                      rw [upM_eq]
                      by_cases z : q = q0
                      · rw [z, pk_us, orB_s, sb]
                        first | exact congrArg nI (ov_m1 _ _ (by omega)) | exact congrArg nI (ov_m2 _ _ (by omega))
                      · rw [pk_un z, orB_n z, upM_ne (by decide)]; exact hO q hq
                    · simp only at hF
                      by_cases z : q = q0
                      · rw [z, orB_s] at hF
                        rw [z]
                        refine hb2 ?_
                        cases e : F2 q0 with
                        | true => exact hb1 e
                        | false => rw [e] at hF; exact hF
                      · rw [orB_n z] at hF; exact hI.1 q hq hB hF
                    · simp only at hO ⊢
                      have mo : soB dk st.2.1 aim (fto dk.1 q k') = true ∨ F2 (fto dk.1 q k') = true := by
                        by_cases z : q = q0
                        · rw [z, orB_s] at hO
                          cases e : O2 q0 with
                          | true => rw [z]; exact hI.2 q0 ql sb e k' hk'
                          | false => rw [e] at hO; rw [z]; exact ho hO k' hk'
                        · rw [orB_n z] at hO; exact hI.2 q hq hB hO k' hk'
                      rcases mo with c | c
                      · exact Or.inl c
                      · exact Or.inr (orB_m c)
                    · simp only at hq ⊢
                      by_cases z : q = q0
                      · rw [z, orB_s]
                        obtain ⟨k', hk', hb'⟩ := hn
                        rw [z] at hb'
                        rw [hb3 k' (by omega) hk' hb']
                        cases F2 q0 <;> rfl
                      · exact orB_m (hX q (by omega) hB hn)
                    · simp only
                      rw [cf1, cf2]
                      first
                      | (have c := fv_c bl (F2 q0) (by omega); rw [c]; cases mo2 <;> simp at hc ⊢ <;> omega)
                      | (have c := ov_c o (O2 q0) (by omega); rw [c]; cases mo2 <;> simp at hc ⊢ <;> omega)
                      | omega
                  · skip
                    first | (simp only [cmp_lt, cmp_gt, cmp_eq, zN_cge, zN_cle, Decidable.not_not] at q194) | (simp (disch := omega) only [zN_le, zN_lt, zN_0, zN_1, nI_toInt, zN_eq, zN_eq0, b2_z, b2_nz, Decidable.not_not, Int.not_lt, Int.not_le, zK0, zK1, zK2, zK3, zK5, zK7, zK8, zK9, zK10, zK19, zK20, zK40, zK99, zK100, zK199] at q194) | skip
                    refine x_il5 dX12_laysForce_197 ?_
                    refine x_goto (tgt := 208) dX12_laysForce_199 rfl ?_
                    refine x_mstJ (len := 720) W J rfl rfl (by decide) rfl (by omega) dX12_laysForce_208 (fun h W J => ?_)
                    first | refine x_ii3 rfl (nI_1 _) dX12_laysForce_209 ?_ | refine x_ii3 rfl rfl dX12_laysForce_209 ?_
                    refine x_goto (tgt := 64) dX12_laysForce_212 rfl ?_
                    have bm := fun c => hb3 c
                    have cf1 := orB_c (F := F2) (b := bl) ql
                    have cf2 := orB_c (F := O2) (b := o) ql
                    refine ih2 (q0 + 1, (orB F2 q0 bl, orB O2 q0 o), _, _, _) _ (by simp only; omega) ⟨ql, ⟨_, _, _, W, J, hT, fun q hq => ?_, fun q hq => ?_⟩, ⟨fun q hq hB hF => ?_, fun q hq hB hO k' hk' => ?_⟩, fun q hq hB hn => ?_, ?_⟩
                    · simp only
                      rw [upM_ne (by decide), upM_eq]
                      by_cases z : q = q0
                      · rw [z, pk_us, orB_s, sb, fv_or hb1]
                      · rw [pk_un z, orB_n z]; exact hF q hq
                    · simp only
                      rw [upM_eq]
                      by_cases z : q = q0
                      · rw [z, pk_us, orB_s, sb]
                        first | exact congrArg nI (ov_m1 _ _ (by omega)) | exact congrArg nI (ov_m2 _ _ (by omega))
                      · rw [pk_un z, orB_n z, upM_ne (by decide)]; exact hO q hq
                    · simp only at hF
                      by_cases z : q = q0
                      · rw [z, orB_s] at hF
                        rw [z]
                        refine hb2 ?_
                        cases e : F2 q0 with
                        | true => exact hb1 e
                        | false => rw [e] at hF; exact hF
                      · rw [orB_n z] at hF; exact hI.1 q hq hB hF
                    · simp only at hO ⊢
                      have mo : soB dk st.2.1 aim (fto dk.1 q k') = true ∨ F2 (fto dk.1 q k') = true := by
                        by_cases z : q = q0
                        · rw [z, orB_s] at hO
                          cases e : O2 q0 with
                          | true => rw [z]; exact hI.2 q0 ql sb e k' hk'
                          | false => rw [e] at hO; rw [z]; exact ho hO k' hk'
                        · rw [orB_n z] at hO; exact hI.2 q hq hB hO k' hk'
                      rcases mo with c | c
                      · exact Or.inl c
                      · exact Or.inr (orB_m c)
                    · simp only at hq ⊢
                      by_cases z : q = q0
                      · rw [z, orB_s]
                        obtain ⟨k', hk', hb'⟩ := hn
                        rw [z] at hb'
                        rw [hb3 k' (by omega) hk' hb']
                        cases F2 q0 <;> rfl
                      · exact orB_m (hX q (by omega) hB hn)
                    · simp only
                      rw [cf1, cf2]
                      first
                      | (have c := fv_c bl (F2 q0) (by omega); rw [c]; cases mo2 <;> simp at hc ⊢ <;> omega)
                      | (have c := ov_c o (O2 q0) (by omega); rw [c]; cases mo2 <;> simp at hc ⊢ <;> omega)
                      | omega
            · skip
              first | (simp only [cmp_lt, cmp_gt, cmp_eq, zN_cge, zN_cle, Decidable.not_not] at q101) | (simp (disch := omega) only [zN_le, zN_lt, zN_0, zN_1, nI_toInt, zN_eq, zN_eq0, b2_z, b2_nz, Decidable.not_not, Int.not_lt, Int.not_le, zK0, zK1, zK2, zK3, zK5, zK7, zK8, zK9, zK10, zK19, zK20, zK40, zK99, zK100, zK199] at q101) | skip
              have kl : k ≤ np dk.1 := by omega
              have by1l := by1_le (soB dk st.2.1 aim (fto dk.1 q0 k)) (O2 (fto dk.1 q0 k))
              refine x_al0 rfl dX12_laysForce_104 ?_
              refine x_il3 dX12_laysForce_105 ?_
              refine x_il5 dX12_laysForce_106 ?_
              refine x_cv2I mX12_firstBy_ok lkX12_414 rfl (Nat.le_of_ble_eq_true rfl) (Nat.le_of_ble_eq_true rfl) dX12_laysForce_108 W.hM  (j_firstBy W J hT hO ql kl) ?_
              refine x_il4 dX12_laysForce_111 ?_
              refine x_icmp_ge (tgt := 126) dX12_laysForce_113 rfl (fun q113 => ?_) (fun q113 => ?_)
              · skip
                first | (simp only [cmp_lt, cmp_gt, cmp_eq, zN_cge, zN_cle, Decidable.not_not] at q113) | (simp (disch := omega) only [zN_le, zN_lt, zN_0, zN_1, nI_toInt, zN_eq, zN_eq0, b2_z, b2_nz, Decidable.not_not, Int.not_lt, Int.not_le, zK0, zK1, zK2, zK3, zK5, zK7, zK8, zK9, zK10, zK19, zK20, zK40, zK99, zK100, zK199] at q113) | skip
                refine x_il4 dX12_laysForce_126 ?_
                refine x_is4 rfl dX12_laysForce_128 ?_
                first | refine x_ii5 rfl (nI_1 _) dX12_laysForce_130 ?_ | refine x_ii5 rfl rfl dX12_laysForce_130 ?_
                refine x_goto (tgt := 95) dX12_laysForce_133 rfl ?_
                refine ih3 (k + 1, bl) _ (by simp only; omega) ⟨rfl, by simp only; omega, hb1, hb2, fun j hj hj2 hB => ?_⟩
                by_cases c : j = k
                · have e : fto dk.1 q0 k = swp dk.1 q0 j := by unfold fto; rw [if_neg (by omega), c]
                  rw [e, hB] at q113
                  cases bl
                  · exact absurd q113 (by cases O2 (swp dk.1 q0 j) <;> decide)
                  · rfl
                · exact hb3 j (by simp only at hj; omega) hj2 hB
              · skip
                first | (simp only [cmp_lt, cmp_gt, cmp_eq, zN_cge, zN_cle, Decidable.not_not] at q113) | (simp (disch := omega) only [zN_le, zN_lt, zN_0, zN_1, nI_toInt, zN_eq, zN_eq0, b2_z, b2_nz, Decidable.not_not, Int.not_lt, Int.not_le, zK0, zK1, zK2, zK3, zK5, zK7, zK8, zK9, zK10, zK19, zK20, zK40, zK99, zK100, zK199] at q113) | skip
                refine x_al0 rfl dX12_laysForce_116 ?_
                refine x_il3 dX12_laysForce_117 ?_
                refine x_il5 dX12_laysForce_118 ?_
                refine x_cv2I mX12_firstBy_ok lkX12_414 rfl (Nat.le_of_ble_eq_true rfl) (Nat.le_of_ble_eq_true rfl) dX12_laysForce_120 W.hM  (j_firstBy W J hT hO ql kl) ?_
                refine x_goto (tgt := 128) dX12_laysForce_123 rfl ?_
                refine x_is4 rfl dX12_laysForce_128 ?_
                first | refine x_ii5 rfl (nI_1 _) dX12_laysForce_130 ?_ | refine x_ii5 rfl rfl dX12_laysForce_130 ?_
                refine x_goto (tgt := 95) dX12_laysForce_133 rfl ?_
                have bf : bl = false := by cases bl; rfl; exact absurd q113 (by cases soB dk st.2.1 aim (fto dk.1 q0 k) <;> cases O2 (fto dk.1 q0 k) <;> decide)
                have bt : soB dk st.2.1 aim (fto dk.1 q0 k) = true := by
                  cases e1 : soB dk st.2.1 aim (fto dk.1 q0 k) with
                  | true => rfl
                  | false =>
                    cases e2 : O2 (fto dk.1 q0 k) with
                    | false => rw [e1, e2, bf] at q113; exact absurd q113 (by decide)
                    | true =>
                      have z := hI.2 _ (fto_lt hn0 hn6 ql kl) e1 e2 k kl
                      rw [fto_fto hn0 hn6 ql kl, sb] at z
                      rcases z with z | z
                      · cases z
                      · have := hb1 z; rw [bf] at this; cases this
                rw [bt]
                have kn : k ≠ np dk.1 := fun z => by unfold fto at bt; rw [if_pos z, sb] at bt; cases bt
                have e : fto dk.1 q0 k = swp dk.1 q0 k := by unfold fto; rw [if_neg kn]
                exact ih3 (k + 1, true) _ (by simp only; omega) ⟨rfl, by simp only; omega, fun _ => rfl, fun _ => ⟨k, by omega, by rw [← e]; exact bt⟩, fun _ _ _ _ => rfl⟩
          · skip
            first | (simp only [cmp_lt, cmp_gt, cmp_eq, zN_cge, zN_cle, Decidable.not_not] at q78) | (simp (disch := omega) only [zN_le, zN_lt, zN_0, zN_1, nI_toInt, zN_eq, zN_eq0, b2_z, b2_nz, Decidable.not_not, Int.not_lt, Int.not_le, zK0, zK1, zK2, zK3, zK5, zK7, zK8, zK9, zK10, zK19, zK20, zK40, zK99, zK100, zK199] at q78) | skip
            refine x_goto (tgt := 209) dX12_laysForce_81 rfl ?_
            first | refine x_ii3 rfl (nI_1 _) dX12_laysForce_209 ?_ | refine x_ii3 rfl rfl dX12_laysForce_209 ?_
            refine x_goto (tgt := 64) dX12_laysForce_212 rfl ?_
            have sb : soB dk st.2.1 aim q0 = true := by simpa [soB] using q78
            refine ih2 (q0 + 1, (F2, O2), mo2, _, _) _ (by simp only; omega) ⟨ql, ⟨_, _, _, W, J, hT, hF, hO⟩, hI, fun q hq hb hn => ?_, hc⟩
            by_cases c : q = q0
            · rw [c, sb] at hb; cases hb
            · exact hX q (by simp only at hq; omega) hb hn
    · skip
      first | (simp only [cmp_lt, cmp_gt, cmp_eq, zN_cge, zN_cle, Decidable.not_not] at q11) | (simp (disch := omega) only [zN_le, zN_lt, zN_0, zN_1, nI_toInt, zN_eq, zN_eq0, b2_z, b2_nz, Decidable.not_not, Int.not_lt, Int.not_le, zK0, zK1, zK2, zK3, zK5, zK7, zK8, zK9, zK10, zK19, zK20, zK40, zK99, zK100, zK199] at q11) | skip
      omega
  · obtain ⟨M2, W, J, hT, hF, hO⟩ := hI
    obtain ⟨D, hn0, hn6, ho0, ho9, hng, hli, e0, e1, e2, m1, m2, m3, m4, m5, u1, u2, t1, t2, r1, hf⟩ := MJ.o J
    obtain ⟨hlet, hsm, hso, hth⟩ := id hT
    have ml := mskK_lt (row := i) (c := st.2.1) hn6
    refine x_il2 dX12_laysForce_6 ?_
    refine x_al0 rfl dX12_laysForce_7 ?_
    refine x_gm fdX12_223 W.hM (by decide) (by first | assumption | rfl) dX12_laysForce_8 ?_
    refine x_icmp_ge (tgt := 54) dX12_laysForce_11 rfl (fun q11 => ?_) (fun q11 => ?_)
    · skip
      first | (simp only [cmp_lt, cmp_gt, cmp_eq, zN_cge, zN_cle, Decidable.not_not] at q11) | (simp (disch := omega) only [zN_le, zN_lt, zN_0, zN_1, nI_toInt, zN_eq, zN_eq0, b2_z, b2_nz, Decidable.not_not, Int.not_lt, Int.not_le, zK0, zK1, zK2, zK3, zK5, zK7, zK8, zK9, zK10, zK19, zK20, zK40, zK99, zK100, zK199] at q11) | skip
      omega
    · skip
      first | (simp only [cmp_lt, cmp_gt, cmp_eq, zN_cge, zN_cle, Decidable.not_not] at q11) | (simp (disch := omega) only [zN_le, zN_lt, zN_0, zN_1, nI_toInt, zN_eq, zN_eq0, b2_z, b2_nz, Decidable.not_not, Int.not_lt, Int.not_le, zK0, zK1, zK2, zK3, zK5, zK7, zK8, zK9, zK10, zK19, zK20, zK40, zK99, zK100, zK199] at q11) | skip
      refine x_al0 rfl dX12_laysForce_14 ?_
      refine x_gm fdX12_61 W.hM (by decide) W.hF.f30 dX12_laysForce_15 ?_
      refine x_il2 dX12_laysForce_18 ?_
      refine x_al0 rfl dX12_laysForce_19 ?_
      refine x_il2 dX12_laysForce_20 ?_
      refine x_il1 dX12_laysForce_21 ?_
      refine x_cv2I mX12_isSo_ok lkX12_364 rfl (Nat.le_of_ble_eq_true rfl) (Nat.le_of_ble_eq_true rfl) dX12_laysForce_22 W.hM  (j_isSo W J hi ha (hlet i hi) (by omega)) ?_
      refine x_if_eq (tgt := 32) dX12_laysForce_25 rfl (fun q25 => ?_) (fun q25 => ?_)
      · skip
        first | (simp only [cmp_lt, cmp_gt, cmp_eq, zN_cge, zN_cle, Decidable.not_not] at q25) | (simp (disch := omega) only [zN_le, zN_lt, zN_0, zN_1, nI_toInt, zN_eq, zN_eq0, b2_z, b2_nz, Decidable.not_not, Int.not_lt, Int.not_le, zK0, zK1, zK2, zK3, zK5, zK7, zK8, zK9, zK10, zK19, zK20, zK40, zK99, zK100, zK199] at q25) | skip
        refine x_ldcw kcX12_368 dX12_laysForce_32 ?_
        refine x_mstJ (len := 720) W J rfl rfl (by decide) rfl (by omega) dX12_laysForce_35 (fun h W J => ?_)
        refine x_al0 rfl dX12_laysForce_36 ?_
        refine x_gm fdX12_64 W.hM (by decide) W.hF.f31 dX12_laysForce_37 ?_
        refine x_il2 dX12_laysForce_40 ?_
        refine x_al0 rfl dX12_laysForce_41 ?_
        refine x_gm fdX12_61 W.hM (by decide) W.hF.f30 dX12_laysForce_42 ?_
        refine x_il2 dX12_laysForce_45 ?_
        refine x_mld (len := 720) W rfl rfl (by decide) (by omega) ((congrFun upM_eq _).trans pk_us) dX12_laysForce_46 ?_
        refine x_mstJ (len := 720) W J rfl rfl (by decide) rfl (by omega) dX12_laysForce_47 (fun h W J => ?_)
        first | refine x_ii2 rfl (nI_1 _) dX12_laysForce_48 ?_ | refine x_ii2 rfl rfl dX12_laysForce_48 ?_
        refine x_goto (tgt := 6) dX12_laysForce_51 rfl ?_
        have sb : soB dk st.2.1 aim i = false := by simpa [soB] using q25
        refine ih _ ⟨_, W, J, hT, fun q hq => ?_, fun q hq => ?_⟩
        · rw [upM_ne (by decide), upM_eq]
          by_cases z : q = i
          · rw [z, pk_us, sb]; rfl
          · rw [pk_un z]; exact hF q (by omega)
        · rw [upM_eq]
          by_cases z : q = i
          · rw [z, pk_us, sb]; rfl
          · rw [pk_un z]; exact hO q (by omega)
      · skip
        first | (simp only [cmp_lt, cmp_gt, cmp_eq, zN_cge, zN_cle, Decidable.not_not] at q25) | (simp (disch := omega) only [zN_le, zN_lt, zN_0, zN_1, nI_toInt, zN_eq, zN_eq0, b2_z, b2_nz, Decidable.not_not, Int.not_lt, Int.not_le, zK0, zK1, zK2, zK3, zK5, zK7, zK8, zK9, zK10, zK19, zK20, zK40, zK99, zK100, zK199] at q25) | skip
        refine x_iconst (v := nI 0) dX12_laysForce_28 rfl ?_
        refine x_goto (tgt := 35) dX12_laysForce_29 rfl ?_
        refine x_mstJ (len := 720) W J rfl rfl (by decide) rfl (by omega) dX12_laysForce_35 (fun h W J => ?_)
        refine x_al0 rfl dX12_laysForce_36 ?_
        refine x_gm fdX12_64 W.hM (by decide) W.hF.f31 dX12_laysForce_37 ?_
        refine x_il2 dX12_laysForce_40 ?_
        refine x_al0 rfl dX12_laysForce_41 ?_
        refine x_gm fdX12_61 W.hM (by decide) W.hF.f30 dX12_laysForce_42 ?_
        refine x_il2 dX12_laysForce_45 ?_
        refine x_mld (len := 720) W rfl rfl (by decide) (by omega) ((congrFun upM_eq _).trans pk_us) dX12_laysForce_46 ?_
        refine x_mstJ (len := 720) W J rfl rfl (by decide) rfl (by omega) dX12_laysForce_47 (fun h W J => ?_)
        first | refine x_ii2 rfl (nI_1 _) dX12_laysForce_48 ?_ | refine x_ii2 rfl rfl dX12_laysForce_48 ?_
        refine x_goto (tgt := 6) dX12_laysForce_51 rfl ?_
        have sb : soB dk st.2.1 aim i = true := by simpa [soB] using q25
        refine ih _ ⟨_, W, J, hT, fun q hq => ?_, fun q hq => ?_⟩
        · rw [upM_ne (by decide), upM_eq]
          by_cases z : q = i
          · rw [z, pk_us, sb]; rfl
          · rw [pk_un z]; exact hF q (by omega)
        · rw [upM_eq]
          by_cases z : q = i
          · rw [z, pk_us, sb]; rfl
          · rw [pk_un z]; exact hO q (by omega)
theorem w_forces {x : Int32} (I : MI h0 h dk st un tp tr pi fl) : Zm g (d + 7) 0 0 mX12_forces [.ref 59, .int x] h (rIp (fun r h' => A_forces dk st x r ∧ MI h0 h' dk st un tp tr pi fl)) := by
  obtain ⟨s, M, L, W, J⟩ := I
  obtain ⟨D, hn0, hn6, ho0, ho9, hng, hli, e0, e1, e2, m1, m2, m3, m4, m5, u1, u2, t1, t2, r1, hf⟩ := MJ.o J
  show Zw g (d + 7) 0 0 mX12_forces 0 [some (.ref 59), some (.int x)] [] h _
  refine x_al0 rfl dX12_forces_0 ?_
  refine x_iconst (v := nI 0) dX12_forces_1 rfl ?_
  refine x_mpfJ W J fdX12_1 (by decide) rfl rfl zf_i dX12_forces_2 (fun h W J => ?_)
  refine x_il1 dX12_forces_5 ?_
  refine x_cs1I mX12_isAim_ok lkX12_369 (Nat.le_of_ble_eq_true rfl) (Nat.le_of_ble_eq_true rfl) dX12_forces_6 j_isAim ?_
  refine x_if_eq (tgt := 23) dX12_forces_9 rfl (fun q9 => ?_) (fun q9 => ?_)
  · skip
    first | (simp only [cmp_lt, cmp_gt, cmp_eq, zN_cge, zN_cle, Decidable.not_not] at q9) | (simp (disch := omega) only [zN_le, zN_lt, zN_0, zN_1, nI_toInt, zN_eq, zN_eq0, b2_z, b2_nz, Decidable.not_not, Int.not_lt, Int.not_le, zK0, zK1, zK2, zK3, zK5, zK7, zK8, zK9, zK10, zK19, zK20, zK40, zK99, zK100, zK199] at q9) | skip
    refine x_bipush (v := (-2)) dX12_forces_23 rfl ?_
    exact x_iret rfl rfl dX12_forces_25 ⟨_, rfl, Or.inr ⟨q9, rfl⟩, _, _, _, W, J⟩
  · skip
    first | (simp only [cmp_lt, cmp_gt, cmp_eq, zN_cge, zN_cle, Decidable.not_not] at q9) | (simp (disch := omega) only [zN_le, zN_lt, zN_0, zN_1, nI_toInt, zN_eq, zN_eq0, b2_z, b2_nz, Decidable.not_not, Int.not_lt, Int.not_le, zK0, zK1, zK2, zK3, zK5, zK7, zK8, zK9, zK10, zK19, zK20, zK40, zK99, zK100, zK199] at q9) | skip
    obtain ⟨k, hk, rfl⟩ := oneOf_ex q9
    refine x_al0 rfl dX12_forces_12 ?_
    refine x_il1 dX12_forces_13 ?_
    refine x_cv1Ip mX12_laysForce_ok lkX12_420 rfl (Nat.le_of_ble_eq_true rfl) (Nat.le_of_ble_eq_true rfl) dX12_forces_14 W.hM  (j_laysForce W J hk) (fun r h hq => ?_)
    obtain ⟨F, O, ⟨s2, M2, L2, W, J, hT, hF, hO⟩, hI, hX, rfl⟩ := hq
    refine x_cs1I mX12_toldFar_ok lkX12_375 (Nat.le_of_ble_eq_true rfl) (Nat.le_of_ble_eq_true rfl) dX12_forces_17 c_toldFar ?_
    refine x_goto (tgt := 25) dX12_forces_20 rfl ?_
    refine x_iret rfl rfl dX12_forces_25 ⟨_, rfl, Or.inl ⟨q9, ?_⟩, _, _, _, W, J⟩
    rw [show tn (nI k) = k from nI_clamp (by omega)]
    cases e1 : soB dk st.2.1 k st.1 with
    | true => exact Or.inl ⟨e1, rfl⟩
    | false =>
      cases e2 : F st.1 with
      | true => exact Or.inr (Or.inl ⟨e1, hI.1 _ m4 e1 e2, rfl⟩)
      | false => exact Or.inr (Or.inr ⟨e1, fun z => (by have := hX _ m4 e1 z; rw [e2] at this; cases this), rfl⟩)
theorem w_best {x : Int32} (I : MI h0 h dk st un tp tr pi fl) : Zm g (d + 7) 0 0 mX12_best [.ref 59, .int x] h (rIp (fun r h' => A_best dk st x r ∧ MI h0 h' dk st un tp tr pi fl)) := by
  obtain ⟨s, M, L, W, J⟩ := I
  obtain ⟨D, hn0, hn6, ho0, ho9, hng, hli, e0, e1, e2, m1, m2, m3, m4, m5, u1, u2, t1, t2, r1, hf⟩ := MJ.o J
  have npl := np_le hn6
  show Zw g (d + 7) 0 0 mX12_best 0 [some (.ref 59), some (.int x), none, none] [] h _
  refine x_al0 rfl dX12_best_0 ?_
  refine x_iconst (v := nI 0) dX12_best_1 rfl ?_
  refine x_mpfJ W J fdX12_1 (by decide) rfl rfl zf_i dX12_best_2 (fun h W J => ?_)
  refine x_il1 dX12_best_5 ?_
  refine x_cs1I mX12_isAim_ok lkX12_369 (Nat.le_of_ble_eq_true rfl) (Nat.le_of_ble_eq_true rfl) dX12_best_6 j_isAim ?_
  refine x_if_ne (tgt := 15) dX12_best_9 rfl (fun q9 => ?_) (fun q9 => ?_)
  · skip
    first | (simp only [cmp_lt, cmp_gt, cmp_eq, zN_cge, zN_cle, Decidable.not_not] at q9) | (simp (disch := omega) only [zN_le, zN_lt, zN_0, zN_1, nI_toInt, zN_eq, zN_eq0, b2_z, b2_nz, Decidable.not_not, Int.not_lt, Int.not_le, zK0, zK1, zK2, zK3, zK5, zK7, zK8, zK9, zK10, zK19, zK20, zK40, zK99, zK100, zK199] at q9) | skip
    obtain ⟨k, hk, rfl⟩ := oneOf_ex q9
    refine x_al0 rfl dX12_best_15 ?_
    refine x_il1 dX12_best_16 ?_
    refine x_cv1Ip mX12_laysForce_ok lkX12_420 rfl (Nat.le_of_ble_eq_true rfl) (Nat.le_of_ble_eq_true rfl) dX12_best_17 W.hM  (j_laysForce W J hk) (fun r h hq => ?_)
    obtain ⟨F, O, ⟨s2, M2, L2, W, J, hT, hF, hO⟩, hI, hX, rfl⟩ := hq
    obtain ⟨D, hn0, hn6, ho0, ho9, hng, hli, e0, e1, e2, m1, m2, m3, m4, m5, u1, u2, t1, t2, r1, hf⟩ := MJ.o J
    obtain ⟨hlet, hsm, hso, hth⟩ := id hT
    have vl := fv_le (soB dk st.2.1 k st.1) (F st.1)
    have fin : ∀ r, isBst dk.1 (soB dk st.2.1 k) st.1 r → A_best dk st (nI k) r := fun r z => Or.inl ⟨q9, by rw [show tn (nI k) = k from nI_clamp (by omega)]; exact z⟩
    refine x_is2 rfl dX12_best_20 ?_
    refine x_iconst (v := nI 0) dX12_best_21 rfl ?_
    refine x_is3 rfl dX12_best_22 ?_
    refine x_wh (fun (j : Nat) => [some (.ref 59), some (.int (nI k)), some (.int (nI (fv (soB dk st.2.1 k st.1) (F st.1)))), some (.int (nI j))]) (fun j h' => h' = h ∧ j ≤ np dk.1 + 1 ∧ (soB dk st.2.1 k st.1 = false → F st.1 = true → ∀ i, i < j → i < np dk.1 → soB dk st.2.1 k (swp dk.1 st.1 i) = false)) (fun j => np dk.1 + 1 - j) 0 ⟨rfl, by omega, fun _ _ i hi => absurd hi (Nat.not_lt_zero _)⟩ (fun j h' hA ih => ?_)
    obtain ⟨rfl, hj, hn⟩ := hA
    refine x_il3 dX12_best_23 ?_
    refine x_al0 rfl dX12_best_24 ?_
    refine x_gm fdX12_358 W.hM (by decide) (hsm) dX12_best_25 ?_
    refine x_icmp_gt (tgt := 84) dX12_best_28 rfl (fun q28 => ?_) (fun q28 => ?_)
    · skip
      first | (simp only [cmp_lt, cmp_gt, cmp_eq, zN_cge, zN_cle, Decidable.not_not] at q28) | (simp (disch := omega) only [zN_le, zN_lt, zN_0, zN_1, nI_toInt, zN_eq, zN_eq0, b2_z, b2_nz, Decidable.not_not, Int.not_lt, Int.not_le, zK0, zK1, zK2, zK3, zK5, zK7, zK8, zK9, zK10, zK19, zK20, zK40, zK99, zK100, zK199] at q28) | skip
      refine x_iconst (v := (-1)) dX12_best_84 rfl ?_
      refine x_iret rfl rfl dX12_best_85 ⟨_, rfl, fin _ (Or.inr ⟨?_, rfl⟩), _, _, _, W, J⟩
      cases e1 : soB dk st.2.1 k st.1 with
      | true => exact Or.inl rfl
      | false => exact Or.inr (fun z => by obtain ⟨i, i1, i2⟩ := id z; rw [hn e1 (hX _ m4 e1 z) i (by omega) i1] at i2; cases i2)
    · skip
      first | (simp only [cmp_lt, cmp_gt, cmp_eq, zN_cge, zN_cle, Decidable.not_not] at q28) | (simp (disch := omega) only [zN_le, zN_lt, zN_0, zN_1, nI_toInt, zN_eq, zN_eq0, b2_z, b2_nz, Decidable.not_not, Int.not_lt, Int.not_le, zK0, zK1, zK2, zK3, zK5, zK7, zK8, zK9, zK10, zK19, zK20, zK40, zK99, zK100, zK199] at q28) | skip
      refine x_il2 dX12_best_31 ?_
      refine x_if_le (tgt := 84) dX12_best_32 rfl (fun q32 => ?_) (fun q32 => ?_)
      · skip
        first | (simp only [cmp_lt, cmp_gt, cmp_eq, zN_cge, zN_cle, Decidable.not_not] at q32) | (simp (disch := omega) only [zN_le, zN_lt, zN_0, zN_1, nI_toInt, zN_eq, zN_eq0, b2_z, b2_nz, Decidable.not_not, Int.not_lt, Int.not_le, zK0, zK1, zK2, zK3, zK5, zK7, zK8, zK9, zK10, zK19, zK20, zK40, zK99, zK100, zK199] at q32) | skip
        refine x_iconst (v := (-1)) dX12_best_84 rfl ?_
        refine x_iret rfl rfl dX12_best_85 ⟨_, rfl, fin _ (Or.inr ⟨?_, rfl⟩), _, _, _, W, J⟩
        cases e1 : soB dk st.2.1 k st.1 with
        | true => exact Or.inl rfl
        | false => cases e2 : F st.1 <;> rw [e1, e2] at q32 <;> exact absurd q32 (by decide)
      · skip
        first | (simp only [cmp_lt, cmp_gt, cmp_eq, zN_cge, zN_cle, Decidable.not_not] at q32) | (simp (disch := omega) only [zN_le, zN_lt, zN_0, zN_1, nI_toInt, zN_eq, zN_eq0, b2_z, b2_nz, Decidable.not_not, Int.not_lt, Int.not_le, zK0, zK1, zK2, zK3, zK5, zK7, zK8, zK9, zK10, zK19, zK20, zK40, zK99, zK100, zK199] at q32) | skip
        refine x_il2 dX12_best_35 ?_
        refine x_ldcw kcX12_368 dX12_best_36 ?_
        rw [show (268435456 : Int32) = nI 268435456 from rfl]
        refine x_icmp_ge (tgt := 84) dX12_best_39 rfl (fun q39 => ?_) (fun q39 => ?_)
        · skip
          first | (simp only [cmp_lt, cmp_gt, cmp_eq, zN_cge, zN_cle, Decidable.not_not] at q39) | (simp (disch := omega) only [zN_le, zN_lt, zN_0, zN_1, nI_toInt, zN_eq, zN_eq0, b2_z, b2_nz, Decidable.not_not, Int.not_lt, Int.not_le, zK0, zK1, zK2, zK3, zK5, zK7, zK8, zK9, zK10, zK19, zK20, zK40, zK99, zK100, zK199] at q39) | skip
          refine x_iconst (v := (-1)) dX12_best_84 rfl ?_
          refine x_iret rfl rfl dX12_best_85 ⟨_, rfl, fin _ (Or.inr ⟨?_, rfl⟩), _, _, _, W, J⟩
          cases e1 : soB dk st.2.1 k st.1 with
          | true => exact Or.inl rfl
          | false =>
            cases e2 : F st.1 with
            | true => rw [e1, e2] at q39; exact absurd q39 (by decide)
            | false => exact Or.inr (fun z => by have := hX _ m4 e1 z; rw [e2] at this; cases this)
        · skip
          first | (simp only [cmp_lt, cmp_gt, cmp_eq, zN_cge, zN_cle, Decidable.not_not] at q39) | (simp (disch := omega) only [zN_le, zN_lt, zN_0, zN_1, nI_toInt, zN_eq, zN_eq0, b2_z, b2_nz, Decidable.not_not, Int.not_lt, Int.not_le, zK0, zK1, zK2, zK3, zK5, zK7, zK8, zK9, zK10, zK19, zK20, zK40, zK99, zK100, zK199] at q39) | skip
          have jl : j ≤ np dk.1 := by omega
          obtain ⟨sb, sf⟩ : soB dk st.2.1 k st.1 = false ∧ F st.1 = true := by
            cases e1 : soB dk st.2.1 k st.1 <;> cases e2 : F st.1 <;> rw [e1, e2] at q32 q39
            · exact absurd q39 (by decide)
            · exact ⟨rfl, rfl⟩
            · exact absurd q32 (by decide)
            · exact absurd q32 (by decide)
          have by1l := by1_le (soB dk st.2.1 k (fto dk.1 st.1 j)) (O (fto dk.1 st.1 j))
          refine x_al0 rfl dX12_best_42 ?_
          refine x_al0 rfl dX12_best_43 ?_
          refine x_gm fdX12_13 W.hM (by decide) W.hF.f1 dX12_best_44 ?_
          refine x_bipush (v := nI 21) dX12_best_47 rfl ?_
          refine x_mld (len := 2868) W rfl rfl (by decide) (by omega) (by first | assumption | rfl) dX12_best_49 ?_
          refine x_il3 dX12_best_50 ?_
          refine x_cv2I mX12_firstBy_ok lkX12_414 rfl (Nat.le_of_ble_eq_true rfl) (Nat.le_of_ble_eq_true rfl) dX12_best_51 W.hM  (j_firstBy W J hT hO m4 jl) ?_
          refine x_il2 dX12_best_54 ?_
          refine x_icmp_ne (tgt := 78) dX12_best_55 rfl (fun q55 => ?_) (fun q55 => ?_)
          · skip
            first | (simp only [cmp_lt, cmp_gt, cmp_eq, zN_cge, zN_cle, Decidable.not_not] at q55) | (simp (disch := omega) only [zN_le, zN_lt, zN_0, zN_1, nI_toInt, zN_eq, zN_eq0, b2_z, b2_nz, Decidable.not_not, Int.not_lt, Int.not_le, zK0, zK1, zK2, zK3, zK5, zK7, zK8, zK9, zK10, zK19, zK20, zK40, zK99, zK100, zK199] at q55) | skip
            first | refine x_ii3 rfl (nI_1 _) dX12_best_78 ?_ | refine x_ii3 rfl rfl dX12_best_78 ?_
            refine x_goto (tgt := 23) dX12_best_81 rfl ?_
            refine ih (j + 1) _ (by omega) ⟨rfl, by omega, fun _ _ i hi hi2 => ?_⟩
            by_cases c : i = j
            · have e : fto dk.1 st.1 j = swp dk.1 st.1 i := by unfold fto; rw [if_neg (by omega), c]
              rw [e, sb, sf] at q55
              cases e3 : soB dk st.2.1 k (swp dk.1 st.1 i) with
              | false => rfl
              | true => rw [e3] at q55; exact absurd rfl q55
            · exact hn sb sf i (by omega) hi2
          · skip
            first | (simp only [cmp_lt, cmp_gt, cmp_eq, zN_cge, zN_cle, Decidable.not_not] at q55) | (simp (disch := omega) only [zN_le, zN_lt, zN_0, zN_1, nI_toInt, zN_eq, zN_eq0, b2_z, b2_nz, Decidable.not_not, Int.not_lt, Int.not_le, zK0, zK1, zK2, zK3, zK5, zK7, zK8, zK9, zK10, zK19, zK20, zK40, zK99, zK100, zK199] at q55) | skip
            have bt : soB dk st.2.1 k (fto dk.1 st.1 j) = true := by
              rw [sb, sf] at q55
              cases e3 : soB dk st.2.1 k (fto dk.1 st.1 j) with
              | true => rfl
              | false => rw [e3] at q55; cases e4 : O (fto dk.1 st.1 j) <;> rw [e4] at q55 <;> exact absurd q55 (by decide)
            have jn : j ≠ np dk.1 := fun z => by unfold fto at bt; rw [if_pos z, sb] at bt; cases bt
            refine x_il3 dX12_best_58 ?_
            refine x_al0 rfl dX12_best_59 ?_
            refine x_gm fdX12_358 W.hM (by decide) (hsm) dX12_best_60 ?_
            refine x_icmp_ne (tgt := 71) dX12_best_63 rfl (fun q63 => ?_) (fun q63 => ?_)
            · skip
              first | (simp only [cmp_lt, cmp_gt, cmp_eq, zN_cge, zN_cle, Decidable.not_not] at q63) | (simp (disch := omega) only [zN_le, zN_lt, zN_0, zN_1, nI_toInt, zN_eq, zN_eq0, b2_z, b2_nz, Decidable.not_not, Int.not_lt, Int.not_le, zK0, zK1, zK2, zK3, zK5, zK7, zK8, zK9, zK10, zK19, zK20, zK40, zK99, zK100, zK199] at q63) | skip
              refine x_al0 rfl dX12_best_71 ?_
              refine x_gm fdX12_52 W.hM (by decide) W.hF.f27 dX12_best_72 ?_
              refine x_il3 dX12_best_75 ?_
              refine x_mld (len := 15) W rfl rfl (by decide) (by omega) (hso j (by omega)) dX12_best_76 ?_
              refine x_iret rfl rfl dX12_best_77 ⟨_, rfl, fin _ (Or.inl ⟨j, sb, by omega, ?_, fun i hi => hn sb sf i hi (by omega), rfl⟩), _, _, _, W, J⟩
              unfold fto at bt
              rw [if_neg jn] at bt
              exact bt
            · skip
              first | (simp only [cmp_lt, cmp_gt, cmp_eq, zN_cge, zN_cle, Decidable.not_not] at q63) | (simp (disch := omega) only [zN_le, zN_lt, zN_0, zN_1, nI_toInt, zN_eq, zN_eq0, b2_z, b2_nz, Decidable.not_not, Int.not_lt, Int.not_le, zK0, zK1, zK2, zK3, zK5, zK7, zK8, zK9, zK10, zK19, zK20, zK40, zK99, zK100, zK199] at q63) | skip
              omega
  · skip
    first | (simp only [cmp_lt, cmp_gt, cmp_eq, zN_cge, zN_cle, Decidable.not_not] at q9) | (simp (disch := omega) only [zN_le, zN_lt, zN_0, zN_1, nI_toInt, zN_eq, zN_eq0, b2_z, b2_nz, Decidable.not_not, Int.not_lt, Int.not_le, zK0, zK1, zK2, zK3, zK5, zK7, zK8, zK9, zK10, zK19, zK20, zK40, zK99, zK100, zK199] at q9) | skip
    refine x_bipush (v := (-2)) dX12_best_12 rfl ?_
    exact x_iret rfl rfl dX12_best_14 ⟨_, rfl, Or.inr ⟨q9, rfl⟩, _, _, _, W, J⟩
end ZFo

