/-! weights: in how many ways one comes to each row, by swaps or by lots -/
def adN (f : Nat → Nat) (t0 x : Nat) : Nat → Nat := fun t => if t = t0 then f t + x else f t
def w0 (row : Nat) : Nat → Nat := fun t => if t = row then 1 else 0
def aK (n : Nat) (w : Nat → Nat) (s : Nat) (f : Nat → Nat) : Nat → Nat → Nat
  | 0 => f
  | k + 1 => adN (aK n w s f k) (swp n s k) (w s)
def aS (n : Nat) (w : Nat → Nat) : Nat → Nat → Nat
  | 0 => fun _ => 0
  | s + 1 => aK n w s (aS n w s) (np n)
/-- a swap more -/
def wS (n : Nat) (w : Nat → Nat) : Nat → Nat := aS n w (fct n)
def wSk (n row : Nat) : Nat → Nat → Nat
  | 0 => w0 row
  | i + 1 => wS n (wSk n row i)
theorem adN_0 {f : Nat → Nat} {t0 : Nat} : adN f t0 0 = f := by
  funext t
  unfold adN
  split <;> rfl
theorem aK_0 {n : Nat} {w : Nat → Nat} {s : Nat} {f : Nat → Nat} (h : w s = 0) : ∀ k, aK n w s f k = f := by
  intro k
  induction k with
  | zero => rfl
  | succ k ih => rw [aK, h, adN_0, ih]
theorem aK_congr {n : Nat} {w w' : Nat → Nat} {s : Nat} {f : Nat → Nat} (h : w s = w' s) : ∀ k, aK n w s f k = aK n w' s f k := by
  intro k
  induction k with
  | zero => rfl
  | succ k ih => rw [aK, aK, ih, h]
/-- lots -/
def ltN (n : Nat) (w : Nat → Nat) (s : Nat) (f : Nat → Nat) : Nat → Nat → Nat
  | 0 => f
  | j + 1 => adN (ltN n w s f j) (sw1 n s j (j + 1)) (w s)
def lS (n : Nat) (w : Nat → Nat) : Nat → Nat → Nat
  | 0 => fun _ => 0
  | s + 1 => adN (ltN n w s (lS n w s) (n - 1)) s (w s * (11 - n))
def wL (n : Nat) (w : Nat → Nat) : Nat → Nat := lS n w (fct n)
def wLk (n row : Nat) : Nat → Nat → Nat
  | 0 => w0 row
  | i + 1 => wL n (wLk n row i)
theorem adN_comm {f : Nat → Nat} {a b x y : Nat} : adN (adN f a x) b y = adN (adN f b y) a x := by
  funext t
  unfold adN
  by_cases p : t = a
  · by_cases q : t = b
    · simp only [if_pos p, if_pos q]; omega
    · simp only [if_pos p, if_neg q]
  · by_cases q : t = b
    · simp only [if_neg p, if_pos q]
    · simp only [if_neg p, if_neg q]
theorem ltN_0 {n : Nat} {w : Nat → Nat} {s : Nat} {f : Nat → Nat} (h : w s = 0) : ∀ k, ltN n w s f k = f := by
  intro k
  induction k with
  | zero => rfl
  | succ k ih => rw [ltN, h, adN_0, ih]
theorem ltN_ad {n : Nat} {w : Nat → Nat} {s : Nat} {f : Nat → Nat} {a x : Nat} : ∀ k, ltN n w s (adN f a x) k = adN (ltN n w s f k) a x := by
  intro k
  induction k with
  | zero => rfl
  | succ k ih => rw [ltN, ltN, ih, adN_comm]
/-- the class goes by all pairs and takes those of neighbours -/
def pkN (n : Nat) (w : Nat → Nat) (s : Nat) (f : Nat → Nat) : Nat → Nat → Nat
  | 0 => f
  | k + 1 => if pr1 n k + 1 = pr2 n k then adN (pkN n w s f k) (swp n s k) (w s) else pkN n w s f k
theorem pkN_lt {n : Nat} {w : Nat → Nat} {s : Nat} {f : Nat → Nat} (h0 : 0 < n) (hn : n ≤ 6) : pkN n w s f (np n) = ltN n w s f (n - 1) := by
  match n, h0, hn with
  | 1, _, _ => rfl
  | 2, _, _ => rfl
  | 3, _, _ => rfl
  | 4, _, _ => rfl
  | 5, _, _ => rfl
  | 6, _, _ => rfl
  | _ + 7, _, h => exact absurd h (by omega)
theorem sumN_ad {f : Nat → Nat} {t0 x n : Nat} (h : t0 < n) : sumN (adN f t0 x) n = sumN f n + x := by
  have := sumN_up (f := f) (s := t0) (x := f t0 + x) n h
  have e : adN f t0 x = fun t => if t = t0 then f t0 + x else f t := by
    funext t
    unfold adN
    split
    · next z => rw [z]
    · rfl
  rw [e]
  omega
theorem sumN_lt {n : Nat} {w : Nat → Nat} {s : Nat} {f : Nat → Nat} (h0 : 0 < n) (hn : n ≤ 6) (hs : s < fct n) : ∀ k, k ≤ n - 1 → sumN (ltN n w s f k) (fct n) = sumN f (fct n) + k * w s := by
  intro k
  induction k with
  | zero => intro _; rw [Nat.zero_mul]; rfl
  | succ k ih =>
    intro hk
    rw [ltN, sumN_ad (sw1_row h0 hn hs (by omega) (by omega)).1, ih (by omega), Nat.succ_mul]
    omega
theorem sumN_lS {n : Nat} {w : Nat → Nat} (h0 : 0 < n) (hn : n ≤ 6) : ∀ s, s ≤ fct n → sumN (lS n w s) (fct n) = 10 * sumN w s := by
  have z : ∀ m, sumN (fun _ => 0) m = 0 := by
    intro m
    induction m with
    | zero => rfl
    | succ m ih => rw [sumN, ih]
  intro s
  induction s with
  | zero => intro _; exact z _
  | succ s ih =>
    intro hs
    rw [lS, sumN_ad (by omega), sumN_lt h0 hn (by omega) _ (Nat.le_refl _), ih (by omega), sumN, Nat.mul_add, Nat.mul_comm (w s) (11 - n), Nat.add_assoc, ← Nat.add_mul, show n - 1 + (11 - n) = 10 by omega]
theorem sumN_w0 {row : Nat} : ∀ n, row < n → sumN (w0 row) n = 1 := by
  have z : ∀ n, n ≤ row → sumN (w0 row) n = 0 := by
    intro n
    induction n with
    | zero => intro _; rfl
    | succ n ih => intro h; rw [sumN, ih (by omega), show w0 row n = 0 from if_neg (by omega)]
  intro n
  induction n with
  | zero => intro h; omega
  | succ n ih =>
    intro h
    rw [sumN]
    by_cases c : n = row
    · rw [z n (by omega), show w0 row n = 1 from if_pos c]
    · rw [ih (by omega), show w0 row n = 0 from if_neg c]
theorem wLk_sum {n row : Nat} (h0 : 0 < n) (hn : n ≤ 6) (hr : row < fct n) : ∀ i, sumN (wLk n row i) (fct n) = 10 ^ i := by
  intro i
  induction i with
  | zero => exact sumN_w0 _ hr
  | succ i ih => rw [wLk, wL, sumN_lS h0 hn _ (Nat.le_refl _), ih, Nat.pow_succ, Nat.mul_comm]
/-- weights of those that are so -/
def smS (B : Nat → Bool) (w : Nat → Nat) : Nat → Nat
  | 0 => 0
  | s + 1 => smS B w s + (if B s then w s else 0)
theorem smS_le {B : Nat → Bool} {w : Nat → Nat} : ∀ s, smS B w s ≤ sumN w s := by
  intro s
  induction s with
  | zero => exact Nat.le_refl _
  | succ s ih => rw [smS, sumN]; split <;> omega
def smM (F : Nat → Nat) (w : Nat → Nat) : Nat → Nat
  | 0 => 0
  | s + 1 => smM F w s + w s * F s
theorem smM_le {F : Nat → Nat} {w : Nat → Nat} (h : ∀ t, F t ≤ 6) : ∀ s, smM F w s ≤ 6 * sumN w s := by
  intro s
  induction s with
  | zero => exact Nat.le_refl _
  | succ s ih =>
    rw [smM, sumN, Nat.mul_add]
    have : w s * F s ≤ w s * 6 := Nat.mul_le_mul_left _ (h s)
    omega
def F_rows (dk : zDk) (st : zSt) (x y : Int32) : Int64 := if oneOf x 2 then (if 0 ≤ y.toInt ∧ y.toInt ≤ 7 then lN (smS (soB dk st.2.1 (tn x)) (wSk dk.1 st.1 (tn y)) (fct dk.1)) else -3) else -2
def ptN (a b : Nat) (y : Int32) : Int32 := if y = 0 then nI (a / Nat.gcd a b) else nI (b / Nat.gcd a b)
def F_chance (dk : zDk) (st : zSt) (x y z : Int32) : Int32 := if oneOf x 2 ∧ oneOf z 2 then (if 0 ≤ y.toInt ∧ y.toInt ≤ 7 then ptN (smS (soB dk st.2.1 (tn x)) (wLk dk.1 st.1 (tn y)) (fct dk.1)) (10 ^ tn y) z else -3) else -2
def F_mean (dk : zDk) (st : zSt) (y z : Int32) : Int32 := if oneOf z 2 then (if 0 ≤ y.toInt ∧ y.toInt ≤ 7 then ptN (smM (fun t => popc (mskK dk t st.2.1)) (wLk dk.1 st.1 (tn y)) (fct dk.1)) (10 ^ tn y) z else -3) else -2

