/-! the class's Rows: what is made of the table -/
def popc (u : Nat) : Nat := u % 2 + u / 2 % 2 + u / 4 % 2 + u / 8 % 2 + u / 16 % 2 + u / 32 % 2
def tz (u : Nat) : Nat := if u % 2 = 1 then 0 else if u / 2 % 2 = 1 then 1 else if u / 4 % 2 = 1 then 2 else if u / 8 % 2 = 1 then 3 else if u / 16 % 2 = 1 then 4 else 5
/-- the table, and the row in the making -/
def RT (h : zH) (n rn rs : Nat) (sw : Int32) : Prop := 0 < n ∧ n ≤ 6 ∧ rn ≠ 15 ∧ rn ≠ 19 ∧ h[15]? = some (rowsE n sw rn rs) ∧ (∃ len f, h[rn]? = some (.inl (1, len, .inl f)) ∧ NmT n len f) ∧ ∃ fm, h[19]? = some (.inl (0, 6, .inl fm))
theorem RT.made {h : zH} {n rn rs : Nat} {sw : Int32} {f : Nat → Int32} (a : RT h n rn rs sw) : RT (h.set 19 (.inl (0, 6, .inl f))) n rn rs sw := by
  obtain ⟨a1, a2, a3, a4, a5, ⟨len, f0, a6, a7⟩, fm, a8⟩ := a
  exact ⟨a1, a2, a3, a4, by rw [hs_ne (by decide)]; exact a5, ⟨len, f0, by rw [hs_ne (fun q => a4 q.symm)]; exact a6, a7⟩, f, hs_eq a8⟩
theorem RT.fr {ids : List Nat} {h h' : zH} {n rn rs : Nat} {sw : Int32} (a : RT h n rn rs sw) (f : Fr ids h h') (h1 : 15 ∉ ids) (h2 : 19 ∉ ids) (h3 : rn ∉ ids) : RT h' n rn rs sw := by
  obtain ⟨a1, a2, a3, a4, a5, ⟨len, f0, a6, a7⟩, fm, a8⟩ := a
  exact ⟨a1, a2, a3, a4, f.get a5 h1, ⟨len, f0, f.get a6 h3, a7⟩, fm, f.get a8 h2⟩
/-- only the row in the making has changed -/
def Md (h h' : zH) : Prop := ∃ f, h' = h.set 19 (.inl (0, 6, .inl f))
theorem Md.set {h h' : zH} {f : Nat → Int32} (hq : Md (h.set 19 (.inl (0, 6, .inl f))) h') : Md h h' := by
  obtain ⟨f'', rfl⟩ := hq
  exact ⟨f'', hs_hs⟩
theorem Md.tr {h h' h'' : zH} (a : Md h h') (b : Md h' h'') : Md h h'' := by
  obtain ⟨f, rfl⟩ := a
  exact Md.set b
theorem Md.rt {h h' : zH} {n rn rs : Nat} {sw : Int32} (a : RT h n rn rs sw) (b : Md h h') : RT h' n rn rs sw := by
  obtain ⟨f, rfl⟩ := b
  exact a.made
theorem Md.fr {h h' : zH} (b : Md h h') : Fr [19] h h' := by
  obtain ⟨f, rfl⟩ := b
  exact Fr.set (by simp)
def swk (d e k : Nat) : Nat := if k = d then e else if k = e then d else k
theorem swk_lt {n d e k : Nat} (hd : d < n) (he : e < n) (hk : k < n) : swk d e k < n := by
  unfold swk
  split
  · exact he
  · split
    · exact hd
    · exact hk
def nbk (n s : Nat) : Nat → Nat → Nat
  | 0, to => to
  | k + 1, to => nbk n s k (nm n s to)
def rbk (n s : Nat) : Nat → Nat → Nat → Nat
  | 0, b, _ => b
  | k + 1, b, to => rbk n s k (b ||| 2 ^ to) (nm n s to)
/-- the drawers of the round of d, as bits -/
def rb (n s d : Nat) : Nat := rbk n s n 0 d
def rbOk (n s : Nat) : Bool := (List.range n).all (fun d => decide (0 < rb n s d) && decide (rb n s d < 64) && decide (0 < popc (rb n s d)))
theorem rbOk_all : ∀ n, n < 7 → ∀ s, s < fct n → rbOk n s = true := by decide +kernel
theorem rb_facts {n s dd : Nat} (hn : n ≤ 6) (hs : s < fct n) (hd : dd < n) : 0 < rb n s dd ∧ rb n s dd < 64 ∧ 0 < popc (rb n s dd) := by
  have h := rbOk_all n (by omega) s hs
  unfold rbOk at h
  simp only [Bool.and_eq_true, decide_eq_true_eq, List.all_eq_true, List.mem_range] at h
  exact ⟨(h dd hd).1.1, (h dd hd).1.2, (h dd hd).2⟩
theorem popc_le {u : Nat} : popc u ≤ 6 := by unfold popc; omega
section ZE
variable {g : zG} {d : Nat} {h : zH}
theorem c_nameIn {n s dd rn rs : Nat} {sw : Int32} (hT : RT h n rn rs sw) (hs : s < fct n) (hd : dd < n) : Zm g d 0 0 mX5_nameIn [.ref 15, .int (nI s), .int (nI dd)] h (rI (nI (nm n s dd)) h) := by
  obtain ⟨-, -, -, -, a5, ⟨len, f0, a6, a7⟩, -⟩ := hT
  exact c_X5_nameIn a5 a6 a7 hs hd
theorem lp_X5_swappedRow {n s dd e rn rs : Nat} {sw : Int32} (hs : s < fct n) (hd : dd < n) (he : e < n) : ∀ (k j : Nat) (h : zH) (fm : Nat → Int32), j + k = n → RT h n rn rs sw → h[19]? = some (.inl (0, 6, .inl fm)) → (∀ i, i < j → fm i = nI (nm n s (swk dd e i))) →
    Zw g (d + 1) 0 0 mX5_swappedRow 3 [some (.ref 15), some (.int (nI s)), some (.int (nI dd)), some (.int (nI e)), some (.int (nI j))] [] h (rIp (fun r h' => r = nI (rnk n (fun i => nm n s (swk dd e i))) ∧ Md h h')) := by
  intro k
  induction k with
  | zero =>
    intro j h fm hj hT hm hp
    have hn := hT.2.1
    have hR := hT.2.2.2.2.1
    obtain rfl : j = n := by omega
    refine x_il4 dX5_swappedRow_3 ?_
    refine x_al0 rfl dX5_swappedRow_5 ?_
    refine x_get fdX5_9 hR rfl dX5_swappedRow_6 ?_
    refine x_icmp_ge (tgt := 52) dX5_swappedRow_9 rfl (fun q1 => ?_) (fun q1 => ?_)
    · refine x_al0 rfl dX5_swappedRow_52 ?_
      refine x_get fdX5_36 hR rfl dX5_swappedRow_53 ?_
      refine x_al0 rfl dX5_swappedRow_56 ?_
      refine x_get fdX5_9 hR rfl dX5_swappedRow_57 ?_
      refine x_cs2I mX5_numberOf_ok lkX5_53 (Nat.le_of_ble_eq_true rfl) (Nat.le_of_ble_eq_true rfl) dX5_swappedRow_60 (c_X5_numberOf (p := fun i => nm j s (swk dd e i)) hm hn (by decide) (fun i hi => ⟨hp i hi, Nat.lt_trans (nm_lt hn hs (swk_lt hd he hi)) (by omega)⟩)) ?_
      exact x_iret rfl rfl dX5_swappedRow_63 ⟨_, rfl, rfl, fm, (hs_same hm).symm⟩
    · exact absurd (nI_le (Nat.le_refl _) (by omega)) q1
  | succ k ih =>
    intro j h fm hj hT hm hp
    have hn := hT.2.1
    have hR := hT.2.2.2.2.1
    have hjn : j < n := by omega
    have nx : ∀ i, i < n → i = swk dd e j → Zw g (d + 1) 0 0 mX5_swappedRow 42 [some (.ref 15), some (.int (nI s)), some (.int (nI dd)), some (.int (nI e)), some (.int (nI j))] [.int (nI i), .int (nI s), .ref 15, .int (nI j), .ref 19] h (rIp (fun r h' => r = nI (rnk n (fun i => nm n s (swk dd e i))) ∧ Md h h')) := by
      intro i hi hij
      refine x_cv2I mX5_nameIn_ok lkX5_50 rfl (Nat.le_of_ble_eq_true rfl) (Nat.le_of_ble_eq_true rfl) dX5_swappedRow_42 hR  (c_nameIn hT hs hi) ?_
      refine x_iast hm (vp_in_nI (by omega) (by decide)) dX5_swappedRow_45 ?_
      first | refine x_ii4 rfl (nI_1 _) dX5_swappedRow_46 ?_ | refine x_ii4 rfl rfl dX5_swappedRow_46 ?_
      refine x_goto (tgt := 3) dX5_swappedRow_49 rfl ?_
      rw [nI_clamp (by omega)]
      refine Zw.mono (ih (j + 1) _ _ (by omega) hT.made (hs_eq hm) (fun a ha => ?_)) (fun v h' hq => ?_)
      · unfold upd
        split
        · next q => rw [q, hij]
        · exact hp a (by omega)
      · obtain ⟨r, rfl, h1, h2⟩ := hq
        exact ⟨r, rfl, h1, h2.set⟩
    refine x_il4 dX5_swappedRow_3 ?_
    refine x_al0 rfl dX5_swappedRow_5 ?_
    refine x_get fdX5_9 hR rfl dX5_swappedRow_6 ?_
    refine x_icmp_ge (tgt := 52) dX5_swappedRow_9 rfl (fun q1 => ?_) (fun q1 => ?_)
    · exact absurd q1 (nI_ge (by omega) (by omega))
    · refine x_al0 rfl dX5_swappedRow_12 ?_
      refine x_get fdX5_36 hR rfl dX5_swappedRow_13 ?_
      refine x_il4 dX5_swappedRow_16 ?_
      refine x_al0 rfl dX5_swappedRow_18 ?_
      refine x_il1 dX5_swappedRow_19 ?_
      refine x_il4 dX5_swappedRow_20 ?_
      refine x_il2 dX5_swappedRow_22 ?_
      refine x_icmp_ne (tgt := 30) dX5_swappedRow_23 rfl (fun q2 => ?_) (fun q2 => ?_)
      · rw [nI_eq (by omega) (by omega)] at q2
        refine x_il4 dX5_swappedRow_30 ?_
        refine x_il3 dX5_swappedRow_32 ?_
        refine x_icmp_ne (tgt := 40) dX5_swappedRow_33 rfl (fun q3 => ?_) (fun q3 => ?_)
        · rw [nI_eq (by omega) (by omega)] at q3
          refine x_il4 dX5_swappedRow_40 ?_
          exact nx j hjn (by unfold swk; rw [if_neg q2, if_neg q3])
        · rw [nI_eq (by omega) (by omega)] at q3
          refine x_il2 dX5_swappedRow_36 ?_
          refine x_goto (tgt := 42) dX5_swappedRow_37 rfl ?_
          exact nx dd hd (by unfold swk; rw [if_neg q2, if_pos q3])
      · rw [nI_eq (by omega) (by omega)] at q2
        refine x_il3 dX5_swappedRow_26 ?_
        refine x_goto (tgt := 42) dX5_swappedRow_27 rfl ?_
        exact nx e he (by unfold swk; rw [if_pos q2])
theorem c_X5_swappedRow {n s dd e rn rs : Nat} {sw : Int32} (hT : RT h n rn rs sw) (hs : s < fct n) (hd : dd < n) (he : e < n) : Zm g (d + 1) 0 0 mX5_swappedRow [.ref 15, .int (nI s), .int (nI dd), .int (nI e)] h (rIp (fun r h' => r = nI (rnk n (fun i => nm n s (swk dd e i))) ∧ Md h h')) := by
  obtain ⟨fm, hm⟩ := hT.2.2.2.2.2.2
  show Zw g (d + 1) 0 0 mX5_swappedRow 0 [some (.ref 15), some (.int (nI s)), some (.int (nI dd)), some (.int (nI e)), none] [] h _
  refine x_iconst (v := nI 0) dX5_swappedRow_0 rfl ?_
  refine x_is4 rfl dX5_swappedRow_1 ?_
  exact lp_X5_swappedRow hs hd he n 0 h fm (by omega) hT hm (fun i hi => absurd hi (by omega))
theorem lp_X5_movedRow {n s q rn rs : Nat} {sw : Int32} (hs : s < fct n) (hq : q < fct n) : ∀ (k j : Nat) (h : zH) (fm : Nat → Int32) (lv : Option Value), j + k = n → RT h n rn rs sw → h[19]? = some (.inl (0, 6, .inl fm)) → (∀ i, i < j → fm (nm n q i) = nI (nm n s i)) → ∀ p : Nat → Nat, (∀ i, i < n → p (nm n q i) = nm n s i) →
    Zw g (d + 1) 0 0 mX5_movedRow 2 [some (.ref 15), some (.int (nI s)), some (.int (nI q)), some (.int (nI j)), lv] [] h (rIp (fun r h' => r = nI (rnk n p) ∧ Md h h')) := by
  intro k
  induction k with
  | zero =>
    intro j h fm lv hj hT hm hp p hpp
    have hn := hT.2.1
    have hR := hT.2.2.2.2.1
    obtain rfl : j = n := by omega
    refine x_il3 dX5_movedRow_2 ?_
    refine x_al0 rfl dX5_movedRow_3 ?_
    refine x_get fdX5_9 hR rfl dX5_movedRow_4 ?_
    refine x_icmp_ge (tgt := 52) dX5_movedRow_7 rfl (fun q1 => ?_) (fun q1 => ?_)
    · refine x_al0 rfl dX5_movedRow_52 ?_
      refine x_get fdX5_36 hR rfl dX5_movedRow_53 ?_
      refine x_al0 rfl dX5_movedRow_56 ?_
      refine x_get fdX5_9 hR rfl dX5_movedRow_57 ?_
      have hpj : ∀ i, i < j → fm i = nI (p i) ∧ p i < 2 ^ 31 := by
        intro i hi
        obtain ⟨a, ha, rfl⟩ := nm_sur hn hq hi
        rw [hp a ha, hpp a ha]
        exact ⟨rfl, Nat.lt_trans (nm_lt hn hs ha) (by omega)⟩
      refine x_cs2I mX5_numberOf_ok lkX5_53 (Nat.le_of_ble_eq_true rfl) (Nat.le_of_ble_eq_true rfl) dX5_movedRow_60 (c_X5_numberOf (p := p) hm hn (by decide) hpj) ?_
      exact x_iret rfl rfl dX5_movedRow_63 ⟨_, rfl, rfl, fm, (hs_same hm).symm⟩
    · exact absurd (nI_le (Nat.le_refl _) (by omega)) q1
  | succ k ih =>
    intro j h fm lv hj hT hm hp p hpp
    have hn := hT.2.1
    have hR := hT.2.2.2.2.1
    have hjn : j < n := by omega
    have hqn := nm_lt hn hq hjn
    refine x_il3 dX5_movedRow_2 ?_
    refine x_al0 rfl dX5_movedRow_3 ?_
    refine x_get fdX5_9 hR rfl dX5_movedRow_4 ?_
    refine x_icmp_ge (tgt := 52) dX5_movedRow_7 rfl (fun q1 => ?_) (fun q1 => ?_)
    · exact absurd q1 (nI_ge (by omega) (by omega))
    · refine x_al0 rfl dX5_movedRow_10 ?_
      refine x_il2 dX5_movedRow_11 ?_
      refine x_il3 dX5_movedRow_12 ?_
      refine x_cv2I mX5_nameIn_ok lkX5_50 rfl (Nat.le_of_ble_eq_true rfl) (Nat.le_of_ble_eq_true rfl) dX5_movedRow_13 hR  (c_nameIn hT hq hjn) ?_
      refine x_is4 rfl dX5_movedRow_16 ?_
      refine x_il4 dX5_movedRow_18 ?_
      refine x_if_lt (tgt := 46) dX5_movedRow_20 rfl (fun q2 => ?_) (fun q2 => ?_)
      · exact absurd q2 (nI_pos (by omega))
      · refine x_il4 dX5_movedRow_23 ?_
        refine x_al0 rfl dX5_movedRow_25 ?_
        refine x_get fdX5_36 hR rfl dX5_movedRow_26 ?_
        refine x_alen rfl hm rfl dX5_movedRow_29 ?_
        refine x_icmp_ge (tgt := 46) dX5_movedRow_30 rfl (fun q3 => ?_) (fun q3 => ?_)
        · exact absurd q3 (nI_ge (b := 6) (by omega) (by omega))
        · refine x_al0 rfl dX5_movedRow_33 ?_
          refine x_get fdX5_36 hR rfl dX5_movedRow_34 ?_
          refine x_il4 dX5_movedRow_37 ?_
          refine x_al0 rfl dX5_movedRow_39 ?_
          refine x_il1 dX5_movedRow_40 ?_
          refine x_il3 dX5_movedRow_41 ?_
          refine x_cv2I mX5_nameIn_ok lkX5_50 rfl (Nat.le_of_ble_eq_true rfl) (Nat.le_of_ble_eq_true rfl) dX5_movedRow_42 hR  (c_nameIn hT hs hjn) ?_
          refine x_iast hm (vp_in_nI (by omega) (by decide)) dX5_movedRow_45 ?_
          first | refine x_ii3 rfl (nI_1 _) dX5_movedRow_46 ?_ | refine x_ii3 rfl rfl dX5_movedRow_46 ?_
          refine x_goto (tgt := 2) dX5_movedRow_49 rfl ?_
          rw [nI_clamp (by omega)]
          refine Zw.mono (ih (j + 1) _ _ _ (by omega) hT.made (hs_eq hm) (fun a ha => ?_) p hpp) (fun v h' hq => ?_)
          · unfold upd
            split
            · next q9 => rw [nm_inj hn hq (by omega) hjn q9]
            · next q9 => exact hp a (Nat.lt_of_le_of_ne (by omega) (fun z => q9 (by rw [z])))
          · obtain ⟨r, rfl, h1, h2⟩ := hq
            exact ⟨r, rfl, h1, h2.set⟩
theorem c_X5_movedRow {n s q rn rs : Nat} {sw : Int32} {p : Nat → Nat} (hT : RT h n rn rs sw) (hs : s < fct n) (hq : q < fct n) (hp : ∀ i, i < n → p (nm n q i) = nm n s i) : Zm g (d + 1) 0 0 mX5_movedRow [.ref 15, .int (nI s), .int (nI q)] h (rIp (fun r h' => r = nI (rnk n p) ∧ Md h h')) := by
  obtain ⟨fm, hm⟩ := hT.2.2.2.2.2.2
  show Zw g (d + 1) 0 0 mX5_movedRow 0 [some (.ref 15), some (.int (nI s)), some (.int (nI q)), none, none] [] h _
  refine x_iconst (v := nI 0) dX5_movedRow_0 rfl ?_
  refine x_is3 rfl dX5_movedRow_1 ?_
  exact lp_X5_movedRow hs hq n 0 h fm _ (by omega) hT hm (fun i hi => absurd hi (by omega)) p hp
theorem lp_X5_nameBehind {n s K dd rn rs : Nat} {sw : Int32} (hT : RT h n rn rs sw) (hs : s < fct n) (hK : K < 2 ^ 31) : ∀ (k j to : Nat), j + k = K → to < n → Zw g (d + 1) 0 0 mX5_nameBehind 6 [some (.ref 15), some (.int (nI s)), some (.int (nI dd)), some (.int (nI K)), some (.int (nI to)), some (.int (nI j))] [] h (rI (nI (nbk n s k to)) h) := by
  have hn := hT.2.1
  have hR := hT.2.2.2.2.1
  intro k
  induction k with
  | zero =>
    intro j to hj ht
    obtain rfl : j = K := by omega
    refine x_il5 dX5_nameBehind_6 ?_
    refine x_il3 dX5_nameBehind_8 ?_
    refine x_icmp_ge (tgt := 27) dX5_nameBehind_9 rfl (fun q1 => ?_) (fun q1 => ?_)
    · refine x_il4 dX5_nameBehind_27 ?_
      exact x_iret rfl rfl dX5_nameBehind_29 ⟨rfl, rfl⟩
    · exact absurd (nI_le (Nat.le_refl _) (by omega)) q1
  | succ k ih =>
    intro j to hj ht
    refine x_il5 dX5_nameBehind_6 ?_
    refine x_il3 dX5_nameBehind_8 ?_
    refine x_icmp_ge (tgt := 27) dX5_nameBehind_9 rfl (fun q1 => ?_) (fun q1 => ?_)
    · exact absurd q1 (nI_ge (by omega) (by omega))
    · refine x_al0 rfl dX5_nameBehind_12 ?_
      refine x_il1 dX5_nameBehind_13 ?_
      refine x_il4 dX5_nameBehind_14 ?_
      refine x_cv2I mX5_nameIn_ok lkX5_50 rfl (Nat.le_of_ble_eq_true rfl) (Nat.le_of_ble_eq_true rfl) dX5_nameBehind_16 hR  (c_nameIn hT hs ht) ?_
      refine x_is4 rfl dX5_nameBehind_19 ?_
      first | refine x_ii5 rfl (nI_1 _) dX5_nameBehind_21 ?_ | refine x_ii5 rfl rfl dX5_nameBehind_21 ?_
      refine x_goto (tgt := 6) dX5_nameBehind_24 rfl ?_
      exact ih (j + 1) _ (by omega) (nm_lt hn hs ht)
theorem c_X5_nameBehind {n s K dd rn rs : Nat} {sw : Int32} (hT : RT h n rn rs sw) (hs : s < fct n) (hd : dd < n) (hK : K < 2 ^ 31) : Zm g (d + 1) 0 0 mX5_nameBehind [.ref 15, .int (nI s), .int (nI dd), .int (nI K)] h (rI (nI (nbk n s K dd)) h) := by
  show Zw g (d + 1) 0 0 mX5_nameBehind 0 [some (.ref 15), some (.int (nI s)), some (.int (nI dd)), some (.int (nI K)), none, none] [] h _
  refine x_il2 dX5_nameBehind_0 ?_
  refine x_is4 rfl dX5_nameBehind_1 ?_
  refine x_iconst (v := nI 0) dX5_nameBehind_3 rfl ?_
  refine x_is5 rfl dX5_nameBehind_4 ?_
  exact lp_X5_nameBehind hT hs hK K 0 dd (by omega) hd
theorem nbk_lt {n s : Nat} (hn : n ≤ 6) (hs : s < fct n) : ∀ k to, to < n → nbk n s k to < n := by
  intro k
  induction k with
  | zero => intro to h; exact h
  | succ k ih => intro to h; exact ih _ (nm_lt hn hs h)
theorem lp_X5_roundBits {n s dd rn rs : Nat} {sw : Int32} (hT : RT h n rn rs sw) (hs : s < fct n) : ∀ (k j b to : Nat), j + k = n → to < n → Zw g (d + 1) 0 0 mX5_roundBits 8 [some (.ref 15), some (.int (nI s)), some (.int (nI dd)), some (.int (nI b)), some (.int (nI to)), some (.int (nI j))] [] h (rI (nI (rbk n s k b to)) h) := by
  have hn := hT.2.1
  have hR := hT.2.2.2.2.1
  intro k
  induction k with
  | zero =>
    intro j b to hj ht
    obtain rfl : j = n := by omega
    refine x_il5 dX5_roundBits_8 ?_
    refine x_al0 rfl dX5_roundBits_10 ?_
    refine x_get fdX5_9 hR rfl dX5_roundBits_11 ?_
    refine x_icmp_ge (tgt := 39) dX5_roundBits_14 rfl (fun q1 => ?_) (fun q1 => ?_)
    · refine x_il3 dX5_roundBits_39 ?_
      exact x_iret rfl rfl dX5_roundBits_40 ⟨rfl, rfl⟩
    · exact absurd (nI_le (Nat.le_refl _) (by omega)) q1
  | succ k ih =>
    intro j b to hj ht
    refine x_il5 dX5_roundBits_8 ?_
    refine x_al0 rfl dX5_roundBits_10 ?_
    refine x_get fdX5_9 hR rfl dX5_roundBits_11 ?_
    refine x_icmp_ge (tgt := 39) dX5_roundBits_14 rfl (fun q1 => ?_) (fun q1 => ?_)
    · exact absurd q1 (nI_ge (by omega) (by omega))
    · have hb : 1 * 2 ^ to < 2 ^ 32 := by rw [Nat.one_mul]; exact Nat.pow_lt_pow_right (by decide) (by omega)
      refine x_il3 dX5_roundBits_17 ?_
      refine x_iconst (v := nI 1) dX5_roundBits_18 rfl ?_
      refine x_il4 dX5_roundBits_19 ?_
      refine x_ishl (shl_n (by omega) hb) dX5_roundBits_21 ?_
      refine x_ior (or_n _ _) dX5_roundBits_22 ?_
      refine x_is3 rfl dX5_roundBits_23 ?_
      refine x_al0 rfl dX5_roundBits_24 ?_
      refine x_il1 dX5_roundBits_25 ?_
      refine x_il4 dX5_roundBits_26 ?_
      refine x_cv2I mX5_nameIn_ok lkX5_50 rfl (Nat.le_of_ble_eq_true rfl) (Nat.le_of_ble_eq_true rfl) dX5_roundBits_28 hR  (c_nameIn hT hs ht) ?_
      refine x_is4 rfl dX5_roundBits_31 ?_
      first | refine x_ii5 rfl (nI_1 _) dX5_roundBits_33 ?_ | refine x_ii5 rfl rfl dX5_roundBits_33 ?_
      refine x_goto (tgt := 8) dX5_roundBits_36 rfl ?_
      rw [Nat.one_mul]
      exact ih (j + 1) _ _ (by omega) (nm_lt hn hs ht)
theorem c_X5_roundBits {n s dd rn rs : Nat} {sw : Int32} (hT : RT h n rn rs sw) (hs : s < fct n) (hd : dd < n) : Zm g (d + 1) 0 0 mX5_roundBits [.ref 15, .int (nI s), .int (nI dd)] h (rI (nI (rb n s dd)) h) := by
  show Zw g (d + 1) 0 0 mX5_roundBits 0 [some (.ref 15), some (.int (nI s)), some (.int (nI dd)), none, none, none] [] h _
  refine x_iconst (v := nI 0) dX5_roundBits_0 rfl ?_
  refine x_is3 rfl dX5_roundBits_1 ?_
  refine x_il2 dX5_roundBits_2 ?_
  refine x_is4 rfl dX5_roundBits_3 ?_
  refine x_iconst (v := nI 0) dX5_roundBits_5 rfl ?_
  refine x_is5 rfl dX5_roundBits_6 ?_
  exact lp_X5_roundBits hT hs n 0 0 dd (by omega) hd
end ZE

