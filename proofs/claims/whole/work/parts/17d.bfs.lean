/-! the class's ways: a queue of rows -/
def stp (o : Option Nat) : Int32 := match o with
  | none => -1
  | some m => nI m
def BQ (n : Nat) (B : Nat → Bool) (f : Nat → Option Nat) (qf : Nat → Nat) (c : Nat) : Prop := c = cf f (fct n) ∧ (∀ j, j < c → qf j < fct n ∧ ∃ m, f (qf j) = some m ∧ m ≤ j) ∧ (∀ t, t < fct n → ∀ m, f t = some m → ∃ j, j < c ∧ qf j = t) ∧ (∀ j j' m m', j ≤ j' → j' < c → f (qf j) = some m → f (qf j') = some m' → m ≤ m') ∧ ∀ t, t < fct n → ∀ m, f t = some m → rch n B m t = true
section ZBq
variable {n : Nat} {B : Nat → Bool} {f : Nat → Option Nat} {qf : Nat → Nat} {c : Nat}
theorem BQ.cnt (b : BQ n B f qf c) : c = cf f (fct n) := b.1
theorem BQ.le (b : BQ n B f qf c) : ∀ j, j < c → qf j < fct n ∧ ∃ m, f (qf j) = some m ∧ m ≤ j := b.2.1
theorem BQ.has (b : BQ n B f qf c) : ∀ t, t < fct n → ∀ m, f t = some m → ∃ j, j < c ∧ qf j = t := b.2.2.1
theorem BQ.mo (b : BQ n B f qf c) : ∀ j j' m m', j ≤ j' → j' < c → f (qf j) = some m → f (qf j') = some m' → m ≤ m' := b.2.2.2.1
theorem BQ.snd (b : BQ n B f qf c) : ∀ t, t < fct n → ∀ m, f t = some m → rch n B m t = true := b.2.2.2.2
end ZBq
def qU (qf : Nat → Nat) (c t : Nat) : Nat → Nat := fun j => if j = c then t else qf j
theorem cf_lt {f : Nat → Option Nat} {t n : Nat} (ht : t < n) (hf : f t = none) : cf f n < n := by
  have := cf_up (f := f) (s := t) (m := 0) ht
  rw [hf] at this
  have l : cf (upO f t 0) n ≤ n := cnt_le _
  simp at this
  omega
theorem BQ.reach {n : Nat} {B : Nat → Bool} {f : Nat → Option Nat} {qf : Nat → Nat} {c t m : Nat} (b : BQ n B f qf c) (ht : t < fct n) (hf : f t = none) (hm : m ≤ c) (hb : ∀ j, j < c → ∀ m', f (qf j) = some m' → m' ≤ m) (hr : rch n B m t = true) : BQ n B (upO f t m) (qU qf c t) (c + 1) := by
  have e1 : upO f t m t = some m := if_pos rfl
  have e2 : ∀ {s : Nat}, s ≠ t → upO f t m s = f s := fun z => if_neg z
  have u1 : qU qf c t c = t := if_pos rfl
  have u2 : ∀ {j : Nat}, j ≠ c → qU qf c t j = qf j := fun z => if_neg z
  have ne : ∀ j, j < c → qf j ≠ t := fun j hj z => by
    obtain ⟨-, m', e, -⟩ := b.le j hj
    rw [z, hf] at e
    cases e
  refine ⟨?_, fun j hj => ?_, fun s hs m' e => ?_, fun j j' m1 m2 hjj hj' a1 a2 => ?_, fun s hs m' e => ?_⟩
  · rw [cf_up ht, hf, ← b.cnt]; rfl
  · by_cases z : j = c
    · subst z
      rw [u1]
      exact ⟨ht, m, e1, hm⟩
    · have hj : j < c := by omega
      rw [u2 z, e2 (ne j hj)]
      exact b.le j hj
  · by_cases z : s = t
    · exact ⟨c, by omega, by rw [u1, z]⟩
    · rw [e2 z] at e
      obtain ⟨j, j1, j2⟩ := b.has s hs m' e
      exact ⟨j, by omega, by rw [u2 (by omega)]; exact j2⟩
  · by_cases z' : j' = c
    · rw [z', u1, e1] at a2
      cases a2
      by_cases z : j = c
      · rw [z, u1, e1] at a1; cases a1; exact Nat.le_refl _
      · rw [u2 z, e2 (ne j (by omega))] at a1
        exact hb j (by omega) m1 a1
    · have z : j ≠ c := by omega
      rw [u2 z, e2 (ne j (by omega))] at a1
      rw [u2 z', e2 (ne j' (by omega))] at a2
      exact b.mo j j' m1 m2 hjj (by omega) a1 a2
  · by_cases z : s = t
    · rw [z, e1] at e; cases e; rw [z]; exact hr
    · rw [e2 z] at e; exact b.snd s hs m' e
/-- what was known is still so -/
def Ext (f f' : Nat → Option Nat) (qf qf' : Nat → Nat) (c c' : Nat) : Prop := c ≤ c' ∧ (∀ t m, f t = some m → f' t = some m) ∧ ∀ j, j < c → qf' j = qf j
theorem Ext.rf {f : Nat → Option Nat} {qf : Nat → Nat} {c : Nat} : Ext f f qf qf c c := ⟨Nat.le_refl _, fun _ _ e => e, fun _ _ => rfl⟩
theorem Ext.step {f f' : Nat → Option Nat} {qf qf' : Nat → Nat} {c c' t m : Nat} (a : Ext f f' qf qf' c c') (hf : f' t = none) : Ext f (upO f' t m) qf (qU qf' c' t) c (c' + 1) := by
  refine ⟨by have := a.1; omega, fun s m' e => ?_, fun j hj => ?_⟩
  · have e' := a.2.1 s m' e
    have : s ≠ t := fun z => by rw [z, hf] at e'; cases e'
    exact (if_neg this).trans e'
  · have := a.1
    exact (if_neg (by omega)).trans (a.2.2 j hj)
/-- the first of the queue have been looked at -/
def Pr (n : Nat) (f : Nat → Option Nat) (qf : Nat → Nat) (i : Nat) : Prop := ∀ j, j < i → ∀ k, k < np n → ∃ m m', f (qf j) = some m ∧ f (swp n (qf j) k) = some m' ∧ m' ≤ m + 1
theorem Pr.ext {n : Nat} {f f' : Nat → Option Nat} {qf qf' : Nat → Nat} {c c' i : Nat} (p : Pr n f qf i) (a : Ext f f' qf qf' c c') (hi : i ≤ c) : Pr n f' qf' i := fun j hj k hk => by
  obtain ⟨m, m', e1, e2, e3⟩ := p j hj k hk
  rw [a.2.2 j (by omega)]
  exact ⟨m, m', a.2.1 _ _ e1, a.2.1 _ _ e2, e3⟩
def Bd (f : Nat → Option Nat) (qf : Nat → Nat) (c i : Nat) : Prop := i < c → ∀ m, f (qf i) = some m → ∀ j, j < c → ∀ m', f (qf j) = some m' → m' ≤ m + 1
theorem Pr.fix {n : Nat} {B : Nat → Bool} {f : Nat → Option Nat} {qf : Nat → Nat} {c : Nat} (h0 : 0 < n) (hn : n ≤ 6) (b : BQ n B f qf c) (p : Pr n f qf c) : Fix n f := fun s hs k hk m e => by
  obtain ⟨j, j1, j2⟩ := b.has _ (swp_lt h0 hn hs hk) m e
  obtain ⟨m1, m2, e1, e2, e3⟩ := p j j1 k hk
  rw [j2] at e1 e2
  rw [e] at e1
  cases e1
  rw [swp_swp h0 hn hs hk] at e2
  exact ⟨m2, e2, e3⟩
section ZBf
variable {g : zG} {d : Nat} {h0 h h' : zH} {dk : zDk} {st : zSt} {un : List zSt} {tp : List Nat} {tr : Nat → zTr} {pi : Nat → zPi} {fl : Nat × Nat} {ln : zLn} {sb sj : zS3} {dr : Int32} {wst wqu wwe wla : Nat} {qd : Int32} {fs fq : Nat → Int32} {fw fa : Nat → Int64}
theorem g_stepsFrom {t : Nat} (G : GE h0 h dk st un tp tr pi fl ln sb sj dr wst wqu wwe wla qd fs fq fw fa) (ht : t < ln.2.2.2.2.2.1) : Zm g d 0 0 mX10_stepsFrom [.ref 26, .int (nI t)] h (rI (fs t) h) := by
  obtain ⟨o1, o2, o3, o4, o5, o6, o7, o8, o9, o10, p1, p2, p3, p4, p5, p6, p7, p8⟩ := G.o
  show Zw g d 0 0 mX10_stepsFrom 0 [some (.ref 26), some (.int (nI t))] [] h _
  refine x_il1 dX10_stepsFrom_0 ?_
  refine x_if_lt (tgt := 22) dX10_stepsFrom_1 rfl (fun q1 => ?_) (fun q1 => ?_)
  · skip
    first | (simp only [cmp_lt, cmp_gt, cmp_eq, zN_cge, zN_cle, Decidable.not_not] at q1) | (simp (disch := omega) only [zN_le, zN_lt, zN_0, zN_1, nI_toInt, zN_eq, zN_eq0, b2_z, b2_nz, Decidable.not_not, Int.not_lt, Int.not_le, zK0, zK1, zK2, zK3, zK5, zK7, zK8, zK9, zK10, zK19, zK20, zK40, zK99, zK100, zK199] at q1) | skip
    omega
  · skip
    first | (simp only [cmp_lt, cmp_gt, cmp_eq, zN_cge, zN_cle, Decidable.not_not] at q1) | (simp (disch := omega) only [zN_le, zN_lt, zN_0, zN_1, nI_toInt, zN_eq, zN_eq0, b2_z, b2_nz, Decidable.not_not, Int.not_lt, Int.not_le, zK0, zK1, zK2, zK3, zK5, zK7, zK8, zK9, zK10, zK19, zK20, zK40, zK99, zK100, zK199] at q1) | skip
    refine x_il1 dX10_stepsFrom_4 ?_
    refine x_al0 rfl dX10_stepsFrom_5 ?_
    refine x_get fdX10_9 o1 rfl dX10_stepsFrom_6 ?_
    refine x_alen rfl o3 rfl dX10_stepsFrom_9 ?_
    rw [show Int32.ofNat ln.2.2.2.2.2.1 = nI ln.2.2.2.2.2.1 from rfl]
    refine x_icmp_ge (tgt := 22) dX10_stepsFrom_10 rfl (fun q10 => ?_) (fun q10 => ?_)
    · skip
      first | (simp only [cmp_lt, cmp_gt, cmp_eq, zN_cge, zN_cle, Decidable.not_not] at q10) | (simp (disch := omega) only [zN_le, zN_lt, zN_0, zN_1, nI_toInt, zN_eq, zN_eq0, b2_z, b2_nz, Decidable.not_not, Int.not_lt, Int.not_le, zK0, zK1, zK2, zK3, zK5, zK7, zK8, zK9, zK10, zK19, zK20, zK40, zK99, zK100, zK199] at q10) | skip
      omega
    · skip
      first | (simp only [cmp_lt, cmp_gt, cmp_eq, zN_cge, zN_cle, Decidable.not_not] at q10) | (simp (disch := omega) only [zN_le, zN_lt, zN_0, zN_1, nI_toInt, zN_eq, zN_eq0, b2_z, b2_nz, Decidable.not_not, Int.not_lt, Int.not_le, zK0, zK1, zK2, zK3, zK5, zK7, zK8, zK9, zK10, zK19, zK20, zK40, zK99, zK100, zK199] at q10) | skip
      refine x_al0 rfl dX10_stepsFrom_13 ?_
      refine x_get fdX10_9 o1 rfl dX10_stepsFrom_14 ?_
      refine x_il1 dX10_stepsFrom_17 ?_
      refine x_iald o3 (vp_in_nI (by omega) (by omega)) (congrArg fs (nI_clamp (by omega))) dX10_stepsFrom_18 ?_
      refine x_goto (tgt := 23) dX10_stepsFrom_19 rfl ?_
      exact x_iret rfl rfl dX10_stepsFrom_23 ⟨rfl, rfl⟩
theorem g_reach {t c m : Nat} (G : GE h0 h dk st un tp tr pi fl ln sb sj dr wst wqu wwe wla (nI c) fs fq fw fa) (ht : t < ln.2.2.2.2.2.1) (hc : c < ln.2.2.2.2.2.1) : Zm g d 0 0 mX10_reach [.ref 26, .int (nI t), .int (nI m)] h (rVp (fun h' => GE h0 h' dk st un tp tr pi fl ln sb sj dr wst wqu wwe wla (nI (c + 1)) (upd fs t (nI m)) (upd fq c (nI t)) fw fa)) := by
  obtain ⟨o1, o2, o3, o4, o5, o6, o7, o8, o9, o10, p1, p2, p3, p4, p5, p6, p7, p8⟩ := G.o
  show Zw g d 0 0 mX10_reach 0 [some (.ref 26), some (.int (nI t)), some (.int (nI m))] [] h _
  refine x_il1 dX10_reach_0 ?_
  refine x_if_lt (tgt := 52) dX10_reach_1 rfl (fun q1 => ?_) (fun q1 => ?_)
  · skip
    first | (simp only [cmp_lt, cmp_gt, cmp_eq, zN_cge, zN_cle, Decidable.not_not] at q1) | (simp (disch := omega) only [zN_le, zN_lt, zN_0, zN_1, nI_toInt, zN_eq, zN_eq0, b2_z, b2_nz, Decidable.not_not, Int.not_lt, Int.not_le, zK0, zK1, zK2, zK3, zK5, zK7, zK8, zK9, zK10, zK19, zK20, zK40, zK99, zK100, zK199] at q1) | skip
    omega
  · skip
    first | (simp only [cmp_lt, cmp_gt, cmp_eq, zN_cge, zN_cle, Decidable.not_not] at q1) | (simp (disch := omega) only [zN_le, zN_lt, zN_0, zN_1, nI_toInt, zN_eq, zN_eq0, b2_z, b2_nz, Decidable.not_not, Int.not_lt, Int.not_le, zK0, zK1, zK2, zK3, zK5, zK7, zK8, zK9, zK10, zK19, zK20, zK40, zK99, zK100, zK199] at q1) | skip
    refine x_il1 dX10_reach_4 ?_
    refine x_al0 rfl dX10_reach_5 ?_
    refine x_get fdX10_9 o1 rfl dX10_reach_6 ?_
    refine x_alen rfl o3 rfl dX10_reach_9 ?_
    rw [show Int32.ofNat ln.2.2.2.2.2.1 = nI ln.2.2.2.2.2.1 from rfl]
    refine x_icmp_ge (tgt := 52) dX10_reach_10 rfl (fun q10 => ?_) (fun q10 => ?_)
    · skip
      first | (simp only [cmp_lt, cmp_gt, cmp_eq, zN_cge, zN_cle, Decidable.not_not] at q10) | (simp (disch := omega) only [zN_le, zN_lt, zN_0, zN_1, nI_toInt, zN_eq, zN_eq0, b2_z, b2_nz, Decidable.not_not, Int.not_lt, Int.not_le, zK0, zK1, zK2, zK3, zK5, zK7, zK8, zK9, zK10, zK19, zK20, zK40, zK99, zK100, zK199] at q10) | skip
      omega
    · skip
      first | (simp only [cmp_lt, cmp_gt, cmp_eq, zN_cge, zN_cle, Decidable.not_not] at q10) | (simp (disch := omega) only [zN_le, zN_lt, zN_0, zN_1, nI_toInt, zN_eq, zN_eq0, b2_z, b2_nz, Decidable.not_not, Int.not_lt, Int.not_le, zK0, zK1, zK2, zK3, zK5, zK7, zK8, zK9, zK10, zK19, zK20, zK40, zK99, zK100, zK199] at q10) | skip
      refine x_al0 rfl dX10_reach_13 ?_
      refine x_get fdX10_18 o1 rfl dX10_reach_14 ?_
      refine x_al0 rfl dX10_reach_17 ?_
      refine x_get fdX10_15 o1 rfl dX10_reach_18 ?_
      refine x_alen rfl o4 rfl dX10_reach_21 ?_
      rw [show Int32.ofNat ln.2.2.2.2.2.1 = nI ln.2.2.2.2.2.1 from rfl]
      refine x_icmp_ge (tgt := 52) dX10_reach_22 rfl (fun q22 => ?_) (fun q22 => ?_)
      · skip
        first | (simp only [cmp_lt, cmp_gt, cmp_eq, zN_cge, zN_cle, Decidable.not_not] at q22) | (simp (disch := omega) only [zN_le, zN_lt, zN_0, zN_1, nI_toInt, zN_eq, zN_eq0, b2_z, b2_nz, Decidable.not_not, Int.not_lt, Int.not_le, zK0, zK1, zK2, zK3, zK5, zK7, zK8, zK9, zK10, zK19, zK20, zK40, zK99, zK100, zK199] at q22) | skip
        omega
      · skip
        first | (simp only [cmp_lt, cmp_gt, cmp_eq, zN_cge, zN_cle, Decidable.not_not] at q22) | (simp (disch := omega) only [zN_le, zN_lt, zN_0, zN_1, nI_toInt, zN_eq, zN_eq0, b2_z, b2_nz, Decidable.not_not, Int.not_lt, Int.not_le, zK0, zK1, zK2, zK3, zK5, zK7, zK8, zK9, zK10, zK19, zK20, zK40, zK99, zK100, zK199] at q22) | skip
        refine x_al0 rfl dX10_reach_25 ?_
        refine x_get fdX10_9 o1 rfl dX10_reach_26 ?_
        refine x_il1 dX10_reach_29 ?_
        refine x_il2 dX10_reach_30 ?_
        refine x_iast o3 (vp_in_nI (by omega) (by omega)) dX10_reach_31 ?_
        rw [nI_clamp (by omega)]
        have G := G.sfs (fs' := upd fs t (nI m))
        generalize h.set wst _ = h at G ⊢
        obtain ⟨o1, o2, o3, o4, o5, o6, o7, o8, o9, o10, p1, p2, p3, p4, p5, p6, p7, p8⟩ := G.o
        refine x_al0 rfl dX10_reach_32 ?_
        refine x_get fdX10_15 o1 rfl dX10_reach_33 ?_
        refine x_al0 rfl dX10_reach_36 ?_
        refine x_get fdX10_18 o1 rfl dX10_reach_37 ?_
        refine x_il1 dX10_reach_40 ?_
        refine x_iast o4 (vp_in_nI (by omega) (by omega)) dX10_reach_41 ?_
        rw [nI_clamp (by omega)]
        have G := G.sfq (fq' := upd fq c (nI t))
        generalize h.set wqu _ = h at G ⊢
        obtain ⟨o1, o2, o3, o4, o5, o6, o7, o8, o9, o10, p1, p2, p3, p4, p5, p6, p7, p8⟩ := G.o
        refine x_al0 rfl dX10_reach_42 ?_
        refine x_dup rfl dX10_reach_43 ?_
        refine x_get fdX10_18 o1 rfl dX10_reach_44 ?_
        refine x_iconst (v := nI 1) dX10_reach_47 rfl ?_
        first | refine x_iadd (nI_add _ _) dX10_reach_48 ?_ | refine x_iadd rfl dX10_reach_48 ?_
        refine x_put fdX10_18 o1 zf_i (by simp) dX10_reach_49 ?_
        exact x_vret rfl dX10_reach_52 ⟨rfl, G.sqd⟩
end ZBf

