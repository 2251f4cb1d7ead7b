/-! room: what the rows that grow can still grow by -/
def phS : List Nat → Nat → Nat
  | [], _ => 0
  | x :: t, l => (if l < x then x else 0) + phS t l
theorem ph_mono {L : List Nat} {a b : Nat} (h : a ≤ b) : phS L b ≤ phS L a := by
  induction L with
  | nil => exact Nat.le_refl _
  | cons x t ih =>
    unfold phS
    split <;> split <;> omega
theorem ph_at {L : List Nat} {l a : Nat} (ha : a ∈ L) (hl : l < a) : a + phS L a ≤ phS L l := by
  induction L with
  | nil => cases ha
  | cons x t ih =>
    unfold phS
    rcases List.mem_cons.mp ha with rfl | z
    · have := ph_mono (L := t) (Nat.le_of_lt hl)
      rw [if_neg (Nat.lt_irrefl _), if_pos hl]
      omega
    · have := ih z
      split <;> split <;> omega
theorem ph_step {L : List Nat} {l a : Nat} (ha : a ∈ L) : grw l a + phS L (max l a) ≤ phS L l := by
  rw [grw_max]
  unfold grw
  split
  · next z => exact ph_at ha z
  · omega
def ph1 : List Nat := [1, 4, 18, 96, 600, 4320]
def ph2 : List Nat := [0, 2, 18, 144, 1200, 10800]
def ph3 : List Nat := (List.range 54).map (fun k => 10 * ((k / 9 + 1) * (k / 9 + 1) * (k / 9 + 1) * (k % 9 + 1)))
def ph4 : List Nat := [10, 20, 60, 240, 1200, 7200]
def ph5 : List Nat := [1, 2, 6, 24, 120, 720]
def Phi (ln : zLn) : Nat := phS ph1 ln.1 + phS ph2 ln.2.1 + phS ph3 ln.2.2.2.1 + phS ph4 ln.2.2.2.2.1 + 2 * phS ph5 ln.2.2.2.2.2.1 + 2 * phS ph5 ln.2.2.2.2.2.2
theorem in1 : ∀ n, n < 7 → 0 < n → n * fct n ∈ ph1 := by decide
theorem in2 : ∀ n, n < 7 → 0 < n → fct n * np n ∈ ph2 := by decide
theorem in3 {n op : Nat} (h1 : 0 < n) (h2 : n ≤ 6) (h3 : 0 < op) (h4 : op ≤ 9) : 10 * (n * n * n * op) ∈ ph3 := by
  refine List.mem_map.mpr ⟨(n - 1) * 9 + (op - 1), List.mem_range.mpr (by omega), ?_⟩
  rw [show ((n - 1) * 9 + (op - 1)) / 9 + 1 = n from by omega, show ((n - 1) * 9 + (op - 1)) % 9 + 1 = op from by omega]
theorem in4 : ∀ n, n < 7 → 0 < n → 10 * fct n ∈ ph4 := by decide
theorem in5 : ∀ n, n < 7 → 0 < n → fct n ∈ ph5 := by decide
section ZRoom
variable {n : Nat} {ln : zLn} {dk q : zDk}
theorem phi_S (h0 : 0 < n) (h6 : n ≤ 6) : sS n ln + Phi (pS n ln) ≤ Phi ln := by
  have a := ph_step (l := ln.2.1) (in2 n (by omega) h0)
  unfold Phi pS sS
  cases ln.2.2.1
  · simp only [cond_false]
    omega
  · simp only [cond_true]
    omega
theorem phi_W (h0 : 0 < n) (h6 : n ≤ 6) : sW n ln + Phi (pW n ln) ≤ Phi ln := by
  have a := ph_step (l := ln.2.2.2.2.2.1) (in5 n (by omega) h0)
  unfold Phi pW sW
  simp only
  omega
theorem phi_V (h0 : 0 < n) (h6 : n ≤ 6) : sV n ln + Phi (pV n ln) ≤ Phi ln := by
  have a := ph_step (l := ln.2.2.2.2.2.2) (in5 n (by omega) h0)
  unfold Phi pV sV
  simp only
  omega
theorem phi_D (h1 : 0 < q.1) (h2 : q.1 ≤ 6) (h3 : 0 < q.2.1) (h4 : q.2.1 ≤ 9) : sD dk q ln + Phi (pD dk q ln) ≤ Phi ln := by
  have a := ph_step (l := ln.1) (in1 q.1 (by omega) h1)
  have b := ph_step (l := ln.2.2.2.1) (in3 h1 h2 h3 h4)
  have c := ph_step (l := ln.2.2.2.2.1) (in4 q.1 (by omega) h1)
  unfold Phi pD sD
  simp only
  split <;> omega
theorem sW_pS : sW n (pS n ln) = sW n ln := rfl
theorem sV_pS : sV n (pS n ln) = sV n ln := rfl
theorem phi_SW (h0 : 0 < n) (h6 : n ≤ 6) : sS n ln + sW n ln + Phi (pW n (pS n ln)) ≤ Phi ln := by
  have a := phi_S (ln := ln) h0 h6
  have b := phi_W (ln := pS n ln) h0 h6
  rw [sW_pS] at b
  omega
theorem phi_SV (h0 : 0 < n) (h6 : n ≤ 6) : sS n ln + sV n ln + Phi (pV n (pS n ln)) ≤ Phi ln := by
  have a := phi_S (ln := ln) h0 h6
  have b := phi_V (ln := pS n ln) h0 h6
  rw [sV_pS] at b
  omega
theorem phi_0 : Phi (1, 1, false, 10, 10, 1, 1) ≤ 240000 := by decide +kernel
end ZRoom

