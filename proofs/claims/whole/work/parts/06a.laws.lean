/-! laws as codes: what they are, what they tell; the class's Law, the model's reckons -/
def kept64 (v : Int64) : Int32 := if 1000000 < v then 1000000 else if v < -1000000 then -1000000 else v.toInt32
def bop (c : Nat) (a b : Int32) : Int32 :=
  if c = 3000 then kept64 (a.toInt64 + b.toInt64) else if c = 3001 then kept64 (a.toInt64 - b.toInt64) else if c = 3002 then kept64 (a.toInt64 * b.toInt64)
  else if c = 3003 then b2 (a = b) else if c = 3004 then b2 (a < b) else if c = 3005 then b2 (b < a) else if c = 3007 then a &&& b else a ||| b
/-- a step of the class for a code of the model -/
def cl (c : Nat) : Int32 := if c < 1000 then nI c else if c < 1005 then -(nI (c - 999)) else if c = 3000 then -6 else if c = 3001 then -7 else if c = 3002 then -8 else if c = 3003 then -9 else if c = 3004 then -10 else if c = 3005 then -11 else if c = 3006 then -14 else if c = 3007 then -12 else if c = 3008 then -13 else -15
def isB (c : Nat) : Prop := (3000 ≤ c ∧ c ≤ 3005) ∨ c = 3007 ∨ c = 3008
def ev1 (w : Nat → Int32) (c : Nat) (st : List Int32) : List Int32 :=
  if c < 1000 then nI c :: st else if c < 1005 then w (c - 1000) :: st
  else if c = 3006 then (match st with | a :: r => (1 - a) :: r | r => r)
  else if c = 3009 then (match st with | e :: t :: b :: r => (if b = 1 then t else e) :: r | r => r)
  else (match st with | y :: x :: r => bop c x y :: r | r => r)
def evl (w : Nat → Int32) : List Nat → List Int32 → List Int32
  | [], st => st
  | c :: cs, st => evl w cs (ev1 w c st)
/-- the code is whole: from these kinds of values (true: 0 or 1) it comes to one of kind b -/
def okc : List Nat → List Bool → Bool → Prop
  | [], ts, b => ts = [b]
  | c :: cs, ts, b => (c < 1005 ∧ okc cs (false :: ts) b) ∨ (c = 3006 ∧ ∃ r, ts = true :: r ∧ okc cs (true :: r) b) ∨ (c = 3009 ∧ ∃ r, ts = false :: false :: true :: r ∧ okc cs (false :: r) b) ∨ ((3000 ≤ c ∧ c ≤ 3002) ∧ ∃ r, ts = false :: false :: r ∧ okc cs (false :: r) b) ∨ ((3003 ≤ c ∧ c ≤ 3005) ∧ ∃ r, ts = false :: false :: r ∧ okc cs (true :: r) b) ∨ ((c = 3007 ∨ c = 3008) ∧ ∃ r, ts = true :: true :: r ∧ okc cs (true :: r) b)
/-- its values never stand higher than H -/
def hok (H : Nat) : List Nat → Nat → Prop
  | [], _ => True
  | c :: cs, k => if c < 1005 then k < H ∧ hok H cs (k + 1) else if c = 3006 then hok H cs k else if c = 3009 then hok H cs (k - 2) else hok H cs (k - 1)
def TV : List Int32 → List Bool → Prop
  | [], [] => True
  | v :: st, b :: ts => (b = true → v = 0 ∨ v = 1) ∧ TV st ts
  | _, _ => False
theorem bop_3000 {a b : Int32} : bop 3000 a b = kept64 (a.toInt64 + b.toInt64) := by simp [bop]
theorem bop_3001 {a b : Int32} : bop 3001 a b = kept64 (a.toInt64 - b.toInt64) := by simp [bop]
theorem bop_3002 {a b : Int32} : bop 3002 a b = kept64 (a.toInt64 * b.toInt64) := by simp [bop]
theorem bop_3003 {a b : Int32} : bop 3003 a b = b2 (a = b) := by simp [bop]
theorem bop_3004 {a b : Int32} : bop 3004 a b = b2 (a < b) := by simp [bop]
theorem bop_3005 {a b : Int32} : bop 3005 a b = b2 (b < a) := by simp [bop]
theorem bop_3007 {a b : Int32} : bop 3007 a b = a &&& b := by simp [bop]
theorem bop_3008 {a b : Int32} : bop 3008 a b = a ||| b := by simp [bop]
theorem cl_b {c : Nat} {z : Int32} (h : cl c = z) : cl c = z := h
theorem TV.len : ∀ {st : List Int32} {ts : List Bool}, TV st ts → st.length = ts.length
  | [], [], _ => rfl
  | _ :: _, _ :: _, h => congrArg (· + 1) (TV.len h.2)
  | [], _ :: _, h => h.elim
  | _ :: _, [], h => h.elim
/-- the values stand in a row, the lowest first -/
def SA (sa : Nat → Int32) : List Int32 → Prop
  | [] => True
  | v :: st => sa st.length = v ∧ SA sa st
theorem SA.up {sa : Nat → Int32} {i : Nat} {x : Int32} : ∀ {st : List Int32}, SA sa st → st.length ≤ i → SA (upd sa i x) st
  | [], _, _ => trivial
  | v :: st, h, hi => by
    refine ⟨?_, SA.up h.2 (by simp at hi; omega)⟩
    unfold upd
    rw [if_neg (by simp at hi; omega)]
    exact h.1
theorem SA.push {sa : Nat → Int32} {x : Int32} {st : List Int32} (h : SA sa st) : SA (upd sa st.length x) (x :: st) := ⟨by simp [upd], SA.up h (Nat.le_refl _)⟩
theorem b2_01 {P : Prop} [Decidable P] : b2 P = 0 ∨ b2 P = 1 := by
  unfold b2
  split
  · exact Or.inr rfl
  · exact Or.inl rfl
theorem bop_truth {c : Nat} {x y : Int32} (h : (3003 ≤ c ∧ c ≤ 3005) ∨ ((c = 3007 ∨ c = 3008) ∧ (x = 0 ∨ x = 1) ∧ (y = 0 ∨ y = 1))) : bop c x y = 0 ∨ bop c x y = 1 := by
  rcases h with ⟨h1, h2⟩ | ⟨h1, h2, h3⟩
  · have hc : c = 3003 ∨ c = 3004 ∨ c = 3005 := by omega
    rcases hc with rfl | rfl | rfl
    · exact b2_01
    · exact b2_01
    · exact b2_01
  · rcases h1 with rfl | rfl <;> rcases h2 with rfl | rfl <;> rcases h3 with rfl | rfl <;> simp only [bop_3007, bop_3008] <;> decide
section ZL
variable {g : zG} {d : Nat} {h : zH}
theorem c_X2_kept {v : Int64} : Zm g d 0 0 mX2_kept [.long v] h (rI (kept64 v) h) := by
  show Zw g d 0 0 mX2_kept 0 [some (.long v), none] [] h _
  refine x_ll0 dX2_kept_0 ?_
  refine x_ldc2 kcX2_30 dX2_kept_1 ?_
  refine x_lcmp (rfl) dX2_kept_4 ?_
  refine x_if_le (tgt := 11) dX2_kept_5 rfl (fun q1 => ?_) (fun q1 => ?_)
  · rw [lg_cmp_le] at q1
    have q1' : ¬ (1000000 : Int64) < v := by simp only [Int64.lt_iff_toInt_lt, Int64.le_iff_toInt_le] at *; omega
    refine x_ll0 dX2_kept_11 ?_
    refine x_ldc2 kcX2_33 dX2_kept_12 ?_
    refine x_lcmp (rfl) dX2_kept_15 ?_
    refine x_if_ge (tgt := 24) dX2_kept_16 rfl (fun q2 => ?_) (fun q2 => ?_)
    · rw [lg_cmp_ge] at q2
      have q2' : ¬ v < (-1000000 : Int64) := by simp only [Int64.lt_iff_toInt_lt, Int64.le_iff_toInt_le] at *; omega
      refine x_ll0 dX2_kept_24 ?_
      refine x_l2i (rfl) dX2_kept_25 ?_
      exact x_iret rfl rfl dX2_kept_26 ⟨by unfold kept64; rw [if_neg q1', if_neg q2'], rfl⟩
    · rw [lg_cmp_ge] at q2
      have q2' : v < (-1000000 : Int64) := by simp only [Int64.lt_iff_toInt_lt, Int64.le_iff_toInt_le] at *; omega
      refine x_ldc kcX2_35 dX2_kept_19 ?_
      refine x_goto (tgt := 26) dX2_kept_21 rfl ?_
      exact x_iret rfl rfl dX2_kept_26 ⟨by unfold kept64; rw [if_neg q1', if_pos q2'], rfl⟩
  · rw [lg_cmp_le] at q1
    have q1' : (1000000 : Int64) < v := by simp only [Int64.lt_iff_toInt_lt, Int64.le_iff_toInt_le] at *; omega
    refine x_ldc kcX2_32 dX2_kept_8 ?_
    exact x_iret rfl rfl dX2_kept_10 ⟨by unfold kept64; rw [if_pos q1'], rfl⟩
theorem c_X2_joined {c : Nat} {a b : Int32} (hc : isB c) : Zm g (d + 1) 0 0 mX2_joined [.int (cl c), .int a, .int b] h (rI (bop c a b) h) := by
  have hh : c = 3000 ∨ c = 3001 ∨ c = 3002 ∨ c = 3003 ∨ c = 3004 ∨ c = 3005 ∨ c = 3007 ∨ c = 3008 := by unfold isB at hc; omega
  show Zw g (d + 1) 0 0 mX2_joined 0 [some (.int (cl c)), some (.int a), some (.int b)] [] h _
  refine x_il0 dX2_joined_0 ?_
  rcases hh with rfl | rfl | rfl | rfl | rfl | rfl | rfl | rfl
  · rw [show cl 3000 = -6 by simp [cl]]
    refine x_tabIn (off := 47) (tgt := 48) dX2_joined_1 (by decide) (by decide) rfl rfl ?_
    refine x_il1 dX2_joined_48 ?_
    refine x_i2l (rfl) dX2_joined_49 ?_
    refine x_il2 dX2_joined_50 ?_
    refine x_i2l (rfl) dX2_joined_51 ?_
    refine x_ladd (rfl) dX2_joined_52 ?_
    refine x_cs1I mX2_kept_ok lkX2_26 (Nat.le_of_ble_eq_true rfl) (Nat.le_of_ble_eq_true rfl) dX2_joined_53 c_X2_kept ?_
    exact x_iret rfl rfl dX2_joined_56 ⟨by rw [bop_3000], rfl⟩
  · rw [show cl 3001 = -7 by simp [cl]]
    refine x_tabIn (off := 56) (tgt := 57) dX2_joined_1 (by decide) (by decide) rfl rfl ?_
    refine x_il1 dX2_joined_57 ?_
    refine x_i2l (rfl) dX2_joined_58 ?_
    refine x_il2 dX2_joined_59 ?_
    refine x_i2l (rfl) dX2_joined_60 ?_
    refine x_lsub (rfl) dX2_joined_61 ?_
    refine x_cs1I mX2_kept_ok lkX2_26 (Nat.le_of_ble_eq_true rfl) (Nat.le_of_ble_eq_true rfl) dX2_joined_62 c_X2_kept ?_
    exact x_iret rfl rfl dX2_joined_65 ⟨by rw [bop_3001], rfl⟩
  · rw [show cl 3002 = -8 by simp [cl]]
    refine x_tabIn (off := 65) (tgt := 66) dX2_joined_1 (by decide) (by decide) rfl rfl ?_
    refine x_il1 dX2_joined_66 ?_
    refine x_i2l (rfl) dX2_joined_67 ?_
    refine x_il2 dX2_joined_68 ?_
    refine x_i2l (rfl) dX2_joined_69 ?_
    refine x_lmul (rfl) dX2_joined_70 ?_
    refine x_cs1I mX2_kept_ok lkX2_26 (Nat.le_of_ble_eq_true rfl) (Nat.le_of_ble_eq_true rfl) dX2_joined_71 c_X2_kept ?_
    exact x_iret rfl rfl dX2_joined_74 ⟨by rw [bop_3002], rfl⟩
  · rw [show cl 3003 = -9 by simp [cl]]
    refine x_tabIn (off := 74) (tgt := 75) dX2_joined_1 (by decide) (by decide) rfl rfl ?_
    refine x_il1 dX2_joined_75 ?_
    refine x_il2 dX2_joined_76 ?_
    refine x_icmp_ne (tgt := 84) dX2_joined_77 rfl (fun q1 => ?_) (fun q1 => ?_)
    · refine x_iconst (v := nI 0) dX2_joined_84 rfl ?_
      exact x_iret rfl rfl dX2_joined_85 ⟨by rw [bop_3003, b2_f q1]; rfl, rfl⟩
    · refine x_iconst (v := nI 1) dX2_joined_80 rfl ?_
      refine x_goto (tgt := 85) dX2_joined_81 rfl ?_
      exact x_iret rfl rfl dX2_joined_85 ⟨by rw [bop_3003, b2_t q1]; rfl, rfl⟩
  · rw [show cl 3004 = -10 by simp [cl]]
    refine x_tabIn (off := 85) (tgt := 86) dX2_joined_1 (by decide) (by decide) rfl rfl ?_
    refine x_il1 dX2_joined_86 ?_
    refine x_il2 dX2_joined_87 ?_
    refine x_icmp_ge (tgt := 95) dX2_joined_88 rfl (fun q1 => ?_) (fun q1 => ?_)
    · refine x_iconst (v := nI 0) dX2_joined_95 rfl ?_
      exact x_iret rfl rfl dX2_joined_96 ⟨by rw [bop_3004, b2_f (fun z => absurd q1 (by simp only [Int32.lt_iff_toInt_lt, Int32.le_iff_toInt_le] at *; omega))]; rfl, rfl⟩
    · refine x_iconst (v := nI 1) dX2_joined_91 rfl ?_
      refine x_goto (tgt := 96) dX2_joined_92 rfl ?_
      exact x_iret rfl rfl dX2_joined_96 ⟨by rw [bop_3004, b2_t (by simp only [Int32.lt_iff_toInt_lt, Int32.le_iff_toInt_le] at *; omega)]; rfl, rfl⟩
  · rw [show cl 3005 = -11 by simp [cl]]
    refine x_tabIn (off := 96) (tgt := 97) dX2_joined_1 (by decide) (by decide) rfl rfl ?_
    refine x_il1 dX2_joined_97 ?_
    refine x_il2 dX2_joined_98 ?_
    refine x_icmp_le (tgt := 106) dX2_joined_99 rfl (fun q1 => ?_) (fun q1 => ?_)
    · refine x_iconst (v := nI 0) dX2_joined_106 rfl ?_
      exact x_iret rfl rfl dX2_joined_107 ⟨by rw [bop_3005, b2_f (fun z => absurd q1 (by simp only [Int32.lt_iff_toInt_lt, Int32.le_iff_toInt_le] at *; omega))]; rfl, rfl⟩
    · refine x_iconst (v := nI 1) dX2_joined_102 rfl ?_
      refine x_goto (tgt := 107) dX2_joined_103 rfl ?_
      exact x_iret rfl rfl dX2_joined_107 ⟨by rw [bop_3005, b2_t (by simp only [Int32.lt_iff_toInt_lt, Int32.le_iff_toInt_le] at *; omega)]; rfl, rfl⟩
  · rw [show cl 3007 = -12 by simp [cl]]
    refine x_tabIn (off := 107) (tgt := 108) dX2_joined_1 (by decide) (by decide) rfl rfl ?_
    refine x_il1 dX2_joined_108 ?_
    refine x_il2 dX2_joined_109 ?_
    refine x_iand (rfl) dX2_joined_110 ?_
    exact x_iret rfl rfl dX2_joined_111 ⟨by rw [bop_3007], rfl⟩
  · rw [show cl 3008 = -13 by simp [cl]]
    refine x_tabIn (off := 111) (tgt := 112) dX2_joined_1 (by decide) (by decide) rfl rfl ?_
    refine x_il1 dX2_joined_112 ?_
    refine x_il2 dX2_joined_113 ?_
    refine x_ior (rfl) dX2_joined_114 ?_
    exact x_iret rfl rfl dX2_joined_115 ⟨by rw [bop_3008], rfl⟩
theorem m_kept {c : Nat} {x : Option Value} {a b : Int32} {v : Int64} (hv : bop c a b = kept64 v) : Zw g d 0 0 mX12_between 116 [x, some (.int a), some (.int b), none, none] [.long v] h (rI (bop c a b) h) := by
  rw [hv]
  refine x_ls3 rfl dX12_between_116 ?_
  refine x_ll3 dX12_between_117 ?_
  refine x_ldc2 kcX12_234 dX12_between_118 ?_
  refine x_lcmp (rfl) dX12_between_121 ?_
  refine x_if_le (tgt := 131) dX12_between_122 rfl (fun q1 => ?_) (fun q1 => ?_)
  · rw [lg_cmp_le] at q1
    have q1' : ¬ (1000000 : Int64) < v := by simp only [Int64.lt_iff_toInt_lt, Int64.le_iff_toInt_le] at *; omega
    refine x_ll3 dX12_between_131 ?_
    refine x_ldc2 kcX12_236 dX12_between_132 ?_
    refine x_lcmp (rfl) dX12_between_135 ?_
    refine x_if_ge (tgt := 145) dX12_between_136 rfl (fun q2 => ?_) (fun q2 => ?_)
    · rw [lg_cmp_ge] at q2
      have q2' : ¬ v < (-1000000 : Int64) := by simp only [Int64.lt_iff_toInt_lt, Int64.le_iff_toInt_le] at *; omega
      refine x_ll3 dX12_between_145 ?_
      refine x_l2i (rfl) dX12_between_146 ?_
      exact x_iret rfl rfl dX12_between_147 ⟨by unfold kept64; rw [if_neg q1', if_neg q2'], rfl⟩
    · rw [lg_cmp_ge] at q2
      have q2' : v < (-1000000 : Int64) := by simp only [Int64.lt_iff_toInt_lt, Int64.le_iff_toInt_le] at *; omega
      refine x_ldc2 kcX12_236 dX12_between_139 ?_
      refine x_goto (tgt := 146) dX12_between_142 rfl ?_
      refine x_l2i (rfl) dX12_between_146 ?_
      exact x_iret rfl rfl dX12_between_147 ⟨by unfold kept64; rw [if_neg q1', if_pos q2']; rfl, rfl⟩
  · rw [lg_cmp_le] at q1
    have q1' : (1000000 : Int64) < v := by simp only [Int64.lt_iff_toInt_lt, Int64.le_iff_toInt_le] at *; omega
    refine x_ldc2 kcX12_234 dX12_between_125 ?_
    refine x_goto (tgt := 146) dX12_between_128 rfl ?_
    refine x_l2i (rfl) dX12_between_146 ?_
    exact x_iret rfl rfl dX12_between_147 ⟨by unfold kept64; rw [if_pos q1']; rfl, rfl⟩
theorem m_between {c : Nat} {a b : Int32} (hc : isB c) : Zm g d 0 0 mX12_between [.int (nI c), .int a, .int b] h (rI (bop c a b) h) := by
  have hh : c = 3000 ∨ c = 3001 ∨ c = 3002 ∨ c = 3003 ∨ c = 3004 ∨ c = 3005 ∨ c = 3007 ∨ c = 3008 := by unfold isB at hc; omega
  show Zw g d 0 0 mX12_between 0 [some (.int (nI c)), some (.int a), some (.int b), none, none] [] h _
  refine x_il0 dX12_between_0 ?_
  rcases hh with rfl | rfl | rfl | rfl | rfl | rfl | rfl | rfl
  · have e0 : (nI 3000).toInt = 3000 := nI_toInt (by decide)
    refine x_tabOut (tgt := 81) dX12_between_1 (by rw [e0]; decide) rfl ?_
    refine x_il0 dX12_between_81 ?_
    refine x_sipush (v := nI 3000) dX12_between_82 (by decide) ?_
    refine x_icmp_ne (tgt := 96) dX12_between_85 rfl (fun q1 => ?_) (fun q1 => ?_)
    · exact absurd rfl q1
    · refine x_il1 dX12_between_88 ?_
      refine x_i2l (rfl) dX12_between_89 ?_
      refine x_il2 dX12_between_90 ?_
      refine x_i2l (rfl) dX12_between_91 ?_
      refine x_ladd (rfl) dX12_between_92 ?_
      refine x_goto (tgt := 116) dX12_between_93 rfl ?_
      exact m_kept bop_3000
  · have e0 : (nI 3001).toInt = 3001 := nI_toInt (by decide)
    refine x_tabOut (tgt := 81) dX12_between_1 (by rw [e0]; decide) rfl ?_
    refine x_il0 dX12_between_81 ?_
    refine x_sipush (v := nI 3000) dX12_between_82 (by decide) ?_
    refine x_icmp_ne (tgt := 96) dX12_between_85 rfl (fun q1 => ?_) (fun q1 => ?_)
    · refine x_il0 dX12_between_96 ?_
      refine x_sipush (v := nI 3001) dX12_between_97 (by decide) ?_
      refine x_icmp_ne (tgt := 111) dX12_between_100 rfl (fun q2 => ?_) (fun q2 => ?_)
      · exact absurd rfl q2
      · refine x_il1 dX12_between_103 ?_
        refine x_i2l (rfl) dX12_between_104 ?_
        refine x_il2 dX12_between_105 ?_
        refine x_i2l (rfl) dX12_between_106 ?_
        refine x_lsub (rfl) dX12_between_107 ?_
        refine x_goto (tgt := 116) dX12_between_108 rfl ?_
        exact m_kept bop_3001
    · exact absurd ((nI_eq (by decide) (by decide)).mp q1) (by omega)
  · have e0 : (nI 3002).toInt = 3002 := nI_toInt (by decide)
    refine x_tabOut (tgt := 81) dX12_between_1 (by rw [e0]; decide) rfl ?_
    refine x_il0 dX12_between_81 ?_
    refine x_sipush (v := nI 3000) dX12_between_82 (by decide) ?_
    refine x_icmp_ne (tgt := 96) dX12_between_85 rfl (fun q1 => ?_) (fun q1 => ?_)
    · refine x_il0 dX12_between_96 ?_
      refine x_sipush (v := nI 3001) dX12_between_97 (by decide) ?_
      refine x_icmp_ne (tgt := 111) dX12_between_100 rfl (fun q2 => ?_) (fun q2 => ?_)
      · refine x_il1 dX12_between_111 ?_
        refine x_i2l (rfl) dX12_between_112 ?_
        refine x_il2 dX12_between_113 ?_
        refine x_i2l (rfl) dX12_between_114 ?_
        refine x_lmul (rfl) dX12_between_115 ?_
        exact m_kept bop_3002
      · exact absurd ((nI_eq (by decide) (by decide)).mp q2) (by omega)
    · exact absurd ((nI_eq (by decide) (by decide)).mp q1) (by omega)
  · have e0 : (nI 3003).toInt = 3003 := nI_toInt (by decide)
    refine x_tabIn (off := 39) (tgt := 40) dX12_between_1 (by rw [e0]; decide) (by rw [e0]; decide) (by rw [e0]; rfl) rfl ?_
    refine x_il1 dX12_between_40 ?_
    refine x_il2 dX12_between_41 ?_
    refine x_icmp_ne (tgt := 49) dX12_between_42 rfl (fun q1 => ?_) (fun q1 => ?_)
    · refine x_iconst (v := nI 0) dX12_between_49 rfl ?_
      exact x_iret rfl rfl dX12_between_50 ⟨by rw [bop_3003, b2_f q1]; rfl, rfl⟩
    · refine x_iconst (v := nI 1) dX12_between_45 rfl ?_
      refine x_goto (tgt := 50) dX12_between_46 rfl ?_
      exact x_iret rfl rfl dX12_between_50 ⟨by rw [bop_3003, b2_t q1]; rfl, rfl⟩
  · have e0 : (nI 3004).toInt = 3004 := nI_toInt (by decide)
    refine x_tabIn (off := 50) (tgt := 51) dX12_between_1 (by rw [e0]; decide) (by rw [e0]; decide) (by rw [e0]; rfl) rfl ?_
    refine x_il1 dX12_between_51 ?_
    refine x_il2 dX12_between_52 ?_
    refine x_icmp_ge (tgt := 60) dX12_between_53 rfl (fun q1 => ?_) (fun q1 => ?_)
    · refine x_iconst (v := nI 0) dX12_between_60 rfl ?_
      exact x_iret rfl rfl dX12_between_61 ⟨by rw [bop_3004, b2_f (fun z => absurd q1 (by simp only [Int32.lt_iff_toInt_lt, Int32.le_iff_toInt_le] at *; omega))]; rfl, rfl⟩
    · refine x_iconst (v := nI 1) dX12_between_56 rfl ?_
      refine x_goto (tgt := 61) dX12_between_57 rfl ?_
      exact x_iret rfl rfl dX12_between_61 ⟨by rw [bop_3004, b2_t (by simp only [Int32.lt_iff_toInt_lt, Int32.le_iff_toInt_le] at *; omega)]; rfl, rfl⟩
  · have e0 : (nI 3005).toInt = 3005 := nI_toInt (by decide)
    refine x_tabIn (off := 61) (tgt := 62) dX12_between_1 (by rw [e0]; decide) (by rw [e0]; decide) (by rw [e0]; rfl) rfl ?_
    refine x_il1 dX12_between_62 ?_
    refine x_il2 dX12_between_63 ?_
    refine x_icmp_le (tgt := 71) dX12_between_64 rfl (fun q1 => ?_) (fun q1 => ?_)
    · refine x_iconst (v := nI 0) dX12_between_71 rfl ?_
      exact x_iret rfl rfl dX12_between_72 ⟨by rw [bop_3005, b2_f (fun z => absurd q1 (by simp only [Int32.lt_iff_toInt_lt, Int32.le_iff_toInt_le] at *; omega))]; rfl, rfl⟩
    · refine x_iconst (v := nI 1) dX12_between_67 rfl ?_
      refine x_goto (tgt := 72) dX12_between_68 rfl ?_
      exact x_iret rfl rfl dX12_between_72 ⟨by rw [bop_3005, b2_t (by simp only [Int32.lt_iff_toInt_lt, Int32.le_iff_toInt_le] at *; omega)]; rfl, rfl⟩
  · have e0 : (nI 3007).toInt = 3007 := nI_toInt (by decide)
    refine x_tabIn (off := 72) (tgt := 73) dX12_between_1 (by rw [e0]; decide) (by rw [e0]; decide) (by rw [e0]; rfl) rfl ?_
    refine x_il1 dX12_between_73 ?_
    refine x_il2 dX12_between_74 ?_
    refine x_iand (rfl) dX12_between_75 ?_
    exact x_iret rfl rfl dX12_between_76 ⟨by rw [bop_3007], rfl⟩
  · have e0 : (nI 3008).toInt = 3008 := nI_toInt (by decide)
    refine x_tabIn (off := 76) (tgt := 77) dX12_between_1 (by rw [e0]; decide) (by rw [e0]; decide) (by rw [e0]; rfl) rfl ?_
    refine x_il1 dX12_between_77 ?_
    refine x_il2 dX12_between_78 ?_
    refine x_ior (rfl) dX12_between_79 ?_
    exact x_iret rfl rfl dX12_between_80 ⟨by rw [bop_3008], rfl⟩
end ZL

