
/-! the state as a row of numbers: 0 how many colours, 1 + 3 c their heats and expansions, 37 + 11 f a field (layers, crack, then three of each layer), 114 settings, 117 accounts, 126 + 4 f wishes -/
abbrev szR (r : Int → Int) (f : Int) : Int := r (37 + 11 * f)
abbrev crR (r : Int → Int) (f : Int) : Int := r (37 + 11 * f + 1)
abbrev coR (r : Int → Int) (f l : Int) : Int := r (37 + 11 * f + 2 + 3 * l + 0)
abbrev stR (r : Int → Int) (f l : Int) : Int := r (37 + 11 * f + 2 + 3 * l + 1)
abbrev soR (r : Int → Int) (f l : Int) : Int := r (37 + 11 * f + 2 + 3 * l + 2)
abbrev meR (r : Int → Int) (c : Int) : Int := r (1 + 3 * c)
abbrev buR (r : Int → Int) (c : Int) : Int := r (1 + 3 * c + 1)
abbrev exR (r : Int → Int) (c : Int) : Int := r (1 + 3 * c + 2)
def wfC (r : Int → Int) : Prop := (0 ≤ r 0 ∧ r 0 ≤ 12) ∧ ∀ c : Int, 0 ≤ c → c < r 0 → (600 ≤ meR r c ∧ meR r c ≤ 900) ∧ (meR r c + 10 ≤ buR r c ∧ buR r c ≤ meR r c + 200) ∧ (60 ≤ exR r c ∧ exR r c ≤ 160)
def wfP (r : Int → Int) : Prop := (∀ f : Int, 0 ≤ f → f < 7 → (0 ≤ szR r f ∧ szR r f ≤ 3) ∧ (crR r f = 0 ∨ crR r f = 1)) ∧ ∀ f l : Int, 0 ≤ f → f < 7 → 0 ≤ l → l < szR r f → (0 ≤ coR r f l ∧ coR r f l < r 0) ∧ (0 ≤ stR r f l ∧ stR r f l ≤ 4) ∧ (0 ≤ soR r f l ∧ soR r f l ≤ r 117) ∧ (l + 1 < szR r f → stR r f l ≠ 0)
def wfS (r : Int → Int) : Prop := (1 ≤ r 114 ∧ r 114 ≤ 10) ∧ (0 ≤ r 115 ∧ r 115 ≤ 5) ∧ (0 ≤ r 116 ∧ r 116 ≤ 400) ∧ (0 ≤ r 117 ∧ r 117 ≤ 1000) ∧ crR r 6 = 0
def wfW (r : Int → Int) : Prop := ∀ f : Int, 0 ≤ f → f < 6 → (0 ≤ r (126 + 4 * f) ∧ r (126 + 4 * f) ≤ 3) ∧ ∀ k : Int, 0 ≤ k → k < r (126 + 4 * f) → 0 ≤ r (126 + 4 * f + 1 + k) ∧ r (126 + 4 * f + 1 + k) < r 0
def wfR (r : Int → Int) : Prop := wfC r ∧ wfP r ∧ wfS r ∧ wfW r
/-- a plate's cells hold what the row says -/
def agP (sz co st so cr : Nat) (r : Int → Int) (m : AM) : Prop := (∀ f : Int, 0 ≤ f → f < 7 → m sz f = szR r f) ∧ (∀ f l : Int, 0 ≤ f → f < 7 → 0 ≤ l → l < szR r f → m co (f * 3 + l) = coR r f l ∧ m st (f * 3 + l) = stR r f l ∧ m so (f * 3 + l) = soR r f l) ∧ ∀ f : Int, 0 ≤ f → f < 6 → m cr f = crR r f
def agC (q me bu ex : Nat) (r : Int → Int) (m : AM) : Prop := m q 3 = r 0 ∧ ∀ c : Int, 0 ≤ c → c < r 0 → m me c = meR r c ∧ m bu c = buR r c ∧ m ex c = exR r c
def agS (s a : Nat) (r : Int → Int) (m : AM) : Prop := (∀ k : Int, 0 ≤ k → k < 3 → m s k = r (114 + k)) ∧ ∀ k : Int, 0 ≤ k → k < 9 → m a k = r (117 + k)
def agW (n c : Nat) (r : Int → Int) (m : AM) : Prop := ∀ f : Int, 0 ≤ f → f < 6 → m n f = r (126 + 4 * f) ∧ ∀ k : Int, 0 ≤ k → k < r (126 + 4 * f) → m c (f * 3 + k) = r (126 + 4 * f + 1 + k)
/-- a bench at b -/
def agB (b : Nat) (r : Int → Int) (m : AM) : Prop := agC (b + 1) (b + 2) (b + 3) (b + 4) r m ∧ agP (b + 6) (b + 7) (b + 8) (b + 9) (b + 10) r m ∧ agS (b + 14) (b + 15) r m ∧ agW (b + 12) (b + 13) r m
/-! what a firing does to the row -/
def spS (r : Int → Int) (h lg f l : Int) : Int := fSt h lg (r 115) (meR r (coR r f l)) (buR r (coR r f l)) (stR r f l) (soR r f l)
def spO (r : Int → Int) (h f l : Int) : Int := fSo h (meR r (coR r f l)) (buR r (coR r f l)) (stR r f l) (soR r f l)
def spG (r : Int → Int) (h lg f l : Int) : Int := fGv h lg (meR r (coR r f l)) (buR r (coR r f l)) (stR r f l)
def spU (r : Int → Int) (h lg f l : Int) : Int := fdS h lg (meR r (coR r f l)) (buR r (coR r f l)) (stR r f l)
def spB (r : Int → Int) (h f l : Int) : Int := fdB h (buR r (coR r f l)) (stR r f l)
def spD (r : Int → Int) (h f l : Int) : Int := fdD h (r 115) (meR r (coR r f l)) (buR r (coR r f l)) (stR r f l) (soR r f l)
def sumF (r : Int → Int) (g : Int → Int → Int) (f : Nat) : Int := sumL (fun x => sumL (g x) (szR r x).toNat) f
/-- the pull of a field behind the firing -/
def spP (r : Int → Int) (h lg f : Int) : Int := pullS (szR r f) (fun l => spS r h lg f l) (fun l => exR r (coR r f l))
def iab (x : Int) : Int := if 0 ≤ x then x else -x
def spM (r : Int → Int) (h lg f : Int) : Prop := crR r f = 1 ∧ ∀ l : Int, 0 ≤ l → l < szR r f → spG r h lg f l = 1
def spK (r : Int → Int) (h lg f : Int) : Prop := (crR r f = 0 ∨ spM r h lg f) ∧ (∃ l : Int, 0 ≤ l ∧ l < szR r f ∧ holds (spS r h lg f l)) ∧ iab (spP r h lg f - spP r h lg 6) > r 116
/-- the crack of a field behind the firing -/
noncomputable def spC (r : Int → Int) (h lg f : Int) : Int := by
  classical exact if spK r h lg f then 1 else if spM r h lg f then 0 else crR r f
noncomputable def cntM (r : Int → Int) (h lg : Int) (n : Nat) : Int := by
  classical exact sumL (fun f => if spM r h lg f then 1 else 0) n
noncomputable def cntK (r : Int → Int) (h lg : Int) (n : Nat) : Int := by
  classical exact sumL (fun f => if spK r h lg f then 1 else 0) n
theorem fGv_01 (h lg M B s : Int) : fGv h lg M B s = 0 ∨ fGv h lg M B s = 1 := by unfold fGv; split <;> omega
theorem fSt_bd {h lg a M B s so : Int} (h0 : 0 ≤ s ∧ s ≤ 4) : 0 ≤ fSt h lg a M B s so ∧ fSt h lg a M B s so ≤ 4 := by
  unfold fSt
  (repeat' split) <;> omega

