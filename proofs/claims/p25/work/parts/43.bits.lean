
/-! stages in fours, sets in twos -/
def p4 (f : Int) : Int := if f = 0 then 1 else if f = 1 then 4 else if f = 2 then 16 else if f = 3 then 64 else if f = 4 then 256 else 1024
def p2 (f : Int) : Int := if f = 0 then 1 else if f = 1 then 2 else if f = 2 then 4 else if f = 3 then 8 else if f = 4 then 16 else 32
def dg (s f : Int) : Int := s / p4 f % 4
def bt (s f : Int) : Int := s / p2 f % 2
def stp (s : Int) : Int := bt s 0 + 4 * bt s 1 + 16 * bt s 2 + 64 * bt s 3 + 256 * bt s 4 + 1024 * bt s 5
theorem b_dg : ∀ a : Nat, a < 64 → ∀ b : Nat, b < 64 → ∀ f : Nat, f < 6 → iAnd (iShr ((64 * a + b : Nat) : Int) (2 * (f : Int))) 3 = dg ((64 * a + b : Nat) : Int) f := by decide +kernel
theorem b_shl2 : ∀ f : Nat, f < 6 → iShl 1 (2 * (f : Int)) = p4 f := by decide +kernel
theorem b_shl : ∀ f : Nat, f < 6 → iShl 1 (f : Int) = p2 f := by decide +kernel
theorem b_bt : ∀ a : Nat, a < 64 → ∀ f : Nat, f < 6 → iAnd (iShr (a : Int) (f : Int)) 1 = bt a f := by decide +kernel
theorem b_bt2 : ∀ a : Nat, a < 64 → ∀ f : Nat, f < 6 → ((iAnd (a : Int) (p2 f) = 0 ↔ bt a f = 0) ∧ -64 ≤ iAnd (a : Int) (p2 f) ∧ iAnd (a : Int) (p2 f) ≤ 64) := by decide +kernel
theorem b_sub : ∀ a : Nat, a < 64 → ∀ b : Nat, b < 64 → ((iAnd (a : Int) (iXor (b : Int) (-1)) = 0 ↔ ∀ f : Nat, f < 6 → bt a f ≤ bt b f) ∧ -64 ≤ iAnd (a : Int) (iXor (b : Int) (-1)) ∧ iAnd (a : Int) (iXor (b : Int) (-1)) ≤ 64) := by decide +kernel
theorem b_rest : ∀ a : Nat, a < 64 → 1 ≤ a → (0 ≤ iAnd (a : Int) ((a : Int) - 1) ∧ iAnd (a : Int) ((a : Int) - 1) < a) ∧ (1 ≤ iXor (a : Int) (iAnd (a : Int) ((a : Int) - 1)) ∧ iXor (a : Int) (iAnd (a : Int) ((a : Int) - 1)) ≤ a) ∧ (∀ f : Nat, f < 6 → bt a f = bt (iAnd (a : Int) ((a : Int) - 1)) f + bt (iXor (a : Int) (iAnd (a : Int) ((a : Int) - 1))) f) ∧ (∃ f : Nat, f < 6 ∧ iXor (a : Int) (iAnd (a : Int) ((a : Int) - 1)) = p2 f) ∧ (iAnd (a : Int) ((a : Int) - 1) = 0 → iXor (a : Int) (iAnd (a : Int) ((a : Int) - 1)) = a) ∧ (iAnd (a : Int) ((a : Int) - 1) ≠ 0 → iXor (a : Int) (iAnd (a : Int) ((a : Int) - 1)) < a) := by decide +kernel
theorem b_or4 : ∀ f : Nat, f < 6 → ∀ a : Nat, a < 32 → ∀ b : Nat, b < 32 → (32 * a + b : Nat) < p4 f → ∀ w : Nat, w < 4 → iOr ((32 * a + b : Nat) : Int) (iShl (w : Int) (2 * (f : Int))) = ((32 * a + b : Nat) : Int) + w * p4 f := by decide +kernel
theorem b_or2 : ∀ f : Nat, f < 6 → ∀ a : Nat, a < 32 → (a : Int) < p2 f → iOr (a : Int) (p2 f) = (a : Int) + p2 f := by decide +kernel
theorem b_p2 : ∀ f : Nat, f < 6 → ∀ g : Nat, g < 6 → bt (p2 f) g = if g = f then 1 else 0 := by decide +kernel

