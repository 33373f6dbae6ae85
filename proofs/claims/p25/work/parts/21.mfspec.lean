
/-- a row behind a firing -/
def isFire (r : Int → Int) (h lg mn : Int) (r' : Int → Int) : Prop :=
  (∀ j : Int, (j < 37 ∨ (114 ≤ j ∧ j < 117) ∨ j = 119 ∨ j = 120 ∨ 126 ≤ j) → r' j = r j) ∧ r' 117 = r 117 + 1 ∧ r' 118 = r 118 + mn ∧ (∀ x : Int, 0 ≤ x → x < 7 → szR r' x = szR r x) ∧ (∀ x : Int, 0 ≤ x → x < 6 → crR r' x = spC r h lg x) ∧ crR r' 6 = 0 ∧
  (∀ x y : Int, 0 ≤ x → x < 7 → 0 ≤ y → y < szR r x → coR r' x y = coR r x y ∧ stR r' x y = spS r h lg x y ∧ soR r' x y = spO r h x y) ∧ r' 121 = r 121 + sumF r (spU r h lg) 7 ∧ r' 122 = r 122 + sumF r (spD r h) 7 ∧ r' 123 = r 123 + sumF r (spB r h) 7 ∧ r' 124 = r 124 + cntK r h lg 6 ∧ r' 125 = r 125 + cntM r h lg 6

