/-! all rows in their order, by what lies in front -/
def usd (n R : Nat) : Nat → Nat
  | 0 => 0
  | d + 1 => usd n R d ||| 2 ^ nm n R d
def cun (u : Nat) : Nat → Nat
  | 0 => 0
  | j + 1 => cun u j + (if u / 2 ^ j % 2 = 1 then 0 else 1)
def gaJ (n d r u j : Nat) : Bool := if u / 2 ^ j % 2 = 1 then true else decide ((r * (n - d) + cun u j) * fct (n - d - 1) < fct n) && decide (nm n ((r * (n - d) + cun u j) * fct (n - d - 1)) d = j) && (List.range d).all (fun i => decide (nm n ((r * (n - d) + cun u j) * fct (n - d - 1)) i = nm n (r * fct (n - d)) i))
def gaB (n d r : Nat) : Bool := decide (cun (usd n (r * fct (n - d)) d) n = n - d) && decide (usd n (r * fct (n - d)) d < 64) && (List.range n).all (fun j => gaJ n d r (usd n (r * fct (n - d)) d) j)
theorem ga_all : ∀ n, n < 7 → ∀ d, d < n → (List.range (fct n / fct (n - d))).all (fun r => gaB n d r) = true := by decide +kernel

