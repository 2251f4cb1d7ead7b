/-! numbers, and rows of names by their numbers: the class's Rows -/
theorem shr_n {n k : Nat} (hn : n < 2 ^ 31) (hk : k < 32) : nI n >>> (nI k &&& 31) = nI (n / 2 ^ k) := by
  refine pk_shrN hn _ k ?_
  revert k
  decide
theorem shl_n {n k : Nat} (hk : k < 32) (hn : n * 2 ^ k < 2 ^ 32) : nI n <<< (nI k &&& 31) = nI (n * 2 ^ k) := by
  refine pk_shlN _ k ?_ hn
  clear hn
  revert k
  decide
theorem an1 {n : Nat} (hn : n < 2 ^ 32) : nI n &&& nI 1 = nI (n % 2) := pk_andN hn 1 rfl
theorem or_n (a b : Nat) : nI a ||| nI b = nI (a ||| b) := by
  apply Int32.toBitVec_inj.mp
  simp [nI, Int32.toBitVec_or, BitVec.ofNat_or]
theorem nI_z {n : Nat} (hn : n < 2 ^ 31) : nI n = 0 ↔ n = 0 := nI_eq (b := 0) hn (by decide)
theorem nI_m1 {n : Nat} (h : 0 < n) : nI n + Int32.ofInt (-1) = nI (n - 1) := by
  obtain ⟨k, rfl⟩ : ∃ k, n = k + 1 := ⟨n - 1, by omega⟩
  exact pk_m1 k
def fct : Nat → Nat
  | 0 => 1
  | n + 1 => (n + 1) * fct n
/-- the name of that rank among those that aren't used -/
def unus (n u : Nat) : Nat → Nat → Nat
  | 0, _ => 0
  | k + 1, left => if u / 2 ^ (n - (k + 1)) % 2 = 0 then (if left = 0 then n - (k + 1) else unus n u k (left - 1)) else unus n u k left
def fillL (n : Nat) : Nat → Nat → Nat → List Nat
  | 0, _, _ => []
  | k + 1, u, r => unus n u n (r / fct k) :: fillL n k (u ||| 2 ^ (unus n u n (r / fct k))) (r % fct k)
def nmL (n s : Nat) : List Nat := fillL n n 0 s
/-- the name that lies in drawer d of row s -/
def nm (n s d : Nat) : Nat := (nmL n s).getD d 0
theorem unus_lt {n u : Nat} (hn : 0 < n) : ∀ k left, unus n u k left < n := by
  intro k
  induction k with
  | zero => intro left; exact hn
  | succ k ih =>
    intro left
    unfold unus
    split
    · split
      · omega
      · exact ih _
    · exact ih _
section ZB
variable {g : zG} {d : Nat} {h : zH}
theorem lp_X5_unusedName {n u r : Nat} {fs : List Value} (hn : n ≤ 6) (hu : u < 2 ^ 31) (hR : h[15]? = some (.inr (5, .int (nI n) :: fs))) : ∀ (k j left : Nat), j + k = n → left < 2 ^ 31 → Zw g d 0 0 mX5_unusedName 5 [some (.ref 15), some (.int (nI u)), some (.int (nI r)), some (.int (nI left)), some (.int (nI j))] [] h (rI (nI (unus n u k left)) h) := by
  intro k
  induction k with
  | zero =>
    intro j left hj hl
    obtain rfl : j = n := by omega
    refine x_il4 dX5_unusedName_5 ?_
    refine x_al0 rfl dX5_unusedName_7 ?_
    refine x_get fdX5_9 hR rfl dX5_unusedName_8 ?_
    refine x_icmp_ge (tgt := 39) dX5_unusedName_11 rfl (fun q1 => ?_) (fun q1 => ?_)
    · refine x_iconst (v := nI 0) dX5_unusedName_39 rfl ?_
      exact x_iret rfl rfl dX5_unusedName_40 ⟨rfl, rfl⟩
    · exact absurd (nI_le (Nat.le_refl _) (by omega)) q1
  | succ k ih =>
    intro j left hj hl
    have hjn : n - (k + 1) = j := by omega
    refine x_il4 dX5_unusedName_5 ?_
    refine x_al0 rfl dX5_unusedName_7 ?_
    refine x_get fdX5_9 hR rfl dX5_unusedName_8 ?_
    refine x_icmp_ge (tgt := 39) dX5_unusedName_11 rfl (fun q1 => ?_) (fun q1 => ?_)
    · exact absurd q1 (nI_ge (by omega) (by omega))
    · refine x_il1 dX5_unusedName_14 ?_
      refine x_il4 dX5_unusedName_15 ?_
      refine x_ishr (shr_n hu (by omega)) dX5_unusedName_17 ?_
      refine x_iconst (v := nI 1) dX5_unusedName_18 rfl ?_
      refine x_iand (an1 (by have := Nat.div_le_self u (2 ^ j); omega)) dX5_unusedName_19 ?_
      refine x_if_ne (tgt := 33) dX5_unusedName_20 rfl (fun q2 => ?_) (fun q2 => ?_)
      · rw [nI_z (by omega)] at q2
        unfold unus
        rw [hjn, if_neg q2]
        first | refine x_ii4 rfl (nI_1 _) dX5_unusedName_33 ?_ | refine x_ii4 rfl rfl dX5_unusedName_33 ?_
        refine x_goto (tgt := 5) dX5_unusedName_36 rfl ?_
        exact ih (j + 1) left (by omega) hl
      · rw [nI_z (by omega)] at q2
        unfold unus
        rw [hjn, if_pos q2]
        refine x_il3 dX5_unusedName_23 ?_
        refine x_if_ne (tgt := 30) dX5_unusedName_24 rfl (fun q3 => ?_) (fun q3 => ?_)
        · rw [nI_z hl] at q3
          rw [if_neg q3]
          refine x_ii3 rfl (nI_m1 (by omega)) dX5_unusedName_30 ?_
          first | refine x_ii4 rfl (nI_1 _) dX5_unusedName_33 ?_ | refine x_ii4 rfl rfl dX5_unusedName_33 ?_
          refine x_goto (tgt := 5) dX5_unusedName_36 rfl ?_
          exact ih (j + 1) (left - 1) (by omega) (by omega)
        · rw [nI_z hl] at q3
          rw [if_pos q3]
          refine x_il4 dX5_unusedName_27 ?_
          exact x_iret rfl rfl dX5_unusedName_29 ⟨rfl, rfl⟩
theorem c_X5_unusedName {n u r : Nat} {fs : List Value} (hn : n ≤ 6) (hu : u < 2 ^ 31) (hr : r < 2 ^ 31) (hR : h[15]? = some (.inr (5, .int (nI n) :: fs))) : Zm g d 0 0 mX5_unusedName [.ref 15, .int (nI u), .int (nI r)] h (rI (nI (unus n u n r)) h) := by
  show Zw g d 0 0 mX5_unusedName 0 [some (.ref 15), some (.int (nI u)), some (.int (nI r)), none, none] [] h _
  refine x_il2 dX5_unusedName_0 ?_
  refine x_is3 rfl dX5_unusedName_1 ?_
  refine x_iconst (v := nI 0) dX5_unusedName_2 rfl ?_
  refine x_is4 rfl dX5_unusedName_3 ?_
  exact lp_X5_unusedName hn hu hR n 0 r (by omega) hr
end ZB

