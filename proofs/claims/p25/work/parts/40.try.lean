
theorem sumL_b01 {g : Int → Int} {k : Nat} (h : ∀ i : Nat, i < k → g i = 0 ∨ g i = 1) : 0 ≤ sumL g k ∧ sumL g k ≤ k := by
  induction k with
  | zero => exact ⟨Int.le_refl _, Int.le_refl _⟩
  | succ k ih =>
    have h1 := ih (fun i hi => h i (by omega))
    have h2 := h k (by omega)
    rw [sumL_succ]; omega
theorem sumL_b3 {g : Int → Int} {k : Nat} (h : ∀ i : Nat, i < k → 0 ≤ g i ∧ g i ≤ 3) : 0 ≤ sumL g k ∧ sumL g k ≤ 3 * k := by
  induction k with
  | zero => exact ⟨Int.le_refl _, Int.le_refl _⟩
  | succ k ih =>
    have h1 := ih (fun i hi => h i (by omega))
    have h2 := h k (by omega)
    rw [sumL_succ]; omega
theorem sumL_mono {g g' : Int → Int} {k : Nat} (h : ∀ i : Nat, i < k → g i ≤ g' i) : sumL g k ≤ sumL g' k := by
  induction k with
  | zero => exact Int.le_refl _
  | succ k ih =>
    have h1 := ih (fun i hi => h i (by omega))
    have h2 := h k (by omega)
    rw [sumL_succ, sumL_succ]; omega
theorem sumL_nn {g : Int → Int} {k : Nat} (h : ∀ i : Nat, i < k → 0 ≤ g i) : 0 ≤ sumL g k := by
  induction k with
  | zero => exact Int.le_refl _
  | succ k ih =>
    have h1 := ih (fun i hi => h i (by omega))
    have h2 := h k (by omega)
    rw [sumL_succ]; omega
theorem sumL_z {g : Int → Int} {k : Nat} (h : ∀ i : Nat, i < k → 0 ≤ g i) (z : sumL g k = 0) : ∀ i : Nat, i < k → g i = 0 := by
  induction k with
  | zero => intro i hi; omega
  | succ k ih =>
    have h1 := sumL_nn (g := g) (k := k) (fun i hi => h i (by omega))
    have h2 := h k (by omega)
    rw [sumL_succ] at z
    intro i hi
    by_cases e : i = k
    · subst e; omega
    · exact ih (fun i hi => h i (by omega)) (by omega) i (by omega)
theorem sumF_bd {r : Int → Int} {g : Int → Int → Int} (wP : wfP r) (h : ∀ x l : Int, g x l = 0 ∨ g x l = 1) : 0 ≤ sumF r g 7 ∧ sumF r g 7 ≤ 21 := by
  have := sumL_b3 (g := fun x => sumL (g x) (szR r x).toNat) (k := 7) (fun i hi => by
    have q := (wP.1 i (by omega) (by omega)).1
    have := sumL_b01 (g := g i) (k := (szR r i).toNat) (fun _ _ => h _ _)
    show 0 ≤ sumL (g i) (szR r i).toNat ∧ sumL (g i) (szR r i).toNat ≤ 3
    omega)
  unfold sumF; omega
theorem sumF_congr {r : Int → Int} {g g' : Int → Int → Int} (h : ∀ x l : Int, 0 ≤ x → x < 7 → 0 ≤ l → l < szR r x → g x l = g' x l) : sumF r g 7 = sumF r g' 7 := by
  unfold sumF
  refine sumL_congr (fun i hi => ?_)
  exact sumL_congr (fun j hj => h i j (by omega) (by omega) (by omega) (by omega))
theorem sumF_mono {r : Int → Int} {g g' : Int → Int → Int} (h : ∀ x l : Int, 0 ≤ x → x < 7 → 0 ≤ l → l < szR r x → g x l ≤ g' x l) : sumF r g 7 ≤ sumF r g' 7 := by
  unfold sumF
  refine sumL_mono (fun i hi => ?_)
  exact sumL_mono (fun j hj => h i j (by omega) (by omega) (by omega) (by omega))
theorem sumF_z {r : Int → Int} {g : Int → Int → Int} (h : ∀ x l : Int, 0 ≤ g x l) (z : sumF r g 7 = 0) : ∀ x l : Int, 0 ≤ x → x < 7 → 0 ≤ l → l < szR r x → g x l = 0 := by
  intro x l x0 x7 l0 l1
  have h1 := sumL_z (fun i _ => sumL_nn (fun j _ => h _ _)) z x.toNat (by omega)
  have e : ((x.toNat : Nat) : Int) = x := by omega
  have h2 := sumL_z (fun j _ => h _ _) h1 l.toNat (by rw [e]; omega)
  have e2 : ((l.toNat : Nat) : Int) = l := by omega
  rw [e, e2] at h2; exact h2
/-- what a trial of a heat tells: smooth, burnt, dull -/
def tU (r : Int → Int) (h : Int) : Int := sumF r (spU r h 1) 7
def tB (r : Int → Int) (h : Int) : Int := sumF r (spB r h) 7
def tD (r : Int → Int) (h : Int) : Int := sumF r (spD r h) 7
noncomputable def tV (r : Int → Int) (h w : Int) : Int := if w = 0 then tU r h else if w = 1 then tB r h else if w = 2 then tD r h else if w = 3 then cntK r h 1 6 else cntM r h 1 6
noncomputable def vIF (r : Int → Int) (h w : Int) : Int := if (500 ≤ h ∧ h ≤ 1200) ∧ 0 ≤ w ∧ w ≤ 4 then tV r h w else -1
theorem tU_bd {r : Int → Int} (wP : wfP r) (h : Int) : 0 ≤ tU r h ∧ tU r h ≤ 21 := sumF_bd wP (fun x l => by unfold spU fdS; split <;> omega)
theorem tB_bd {r : Int → Int} (wP : wfP r) (h : Int) : 0 ≤ tB r h ∧ tB r h ≤ 21 := sumF_bd wP (fun x l => by unfold spB fdB; split <;> omega)
theorem tD_bd {r : Int → Int} (wP : wfP r) (h : Int) : 0 ≤ tD r h ∧ tD r h ≤ 21 := sumF_bd wP (fun x l => by unfold spD fdD; split <;> omega)
theorem tB_0 {r : Int → Int} {h : Int} (z : tB r h = 0) : ∀ x l : Int, 0 ≤ x → x < 7 → 0 ≤ l → l < szR r x → stR r x l = 4 ∨ h ≤ buR r (coR r x l) := by
  intro x l a b c d
  have q := sumF_z (r := r) (g := spB r h) (fun x l => by unfold spB fdB; split <;> omega) z x l a b c d
  unfold spB fdB at q
  by_cases e : stR r x l = 4
  · exact Or.inl e
  · right
    by_cases e2 : h > buR r (coR r x l)
    · rw [if_pos ⟨e, e2⟩] at q; omega
    · omega
theorem tB_mono {r : Int → Int} (wP : wfP r) {h h' : Int} (hh : h' ≤ h) (z : tB r h = 0) : tB r h' = 0 := by
  have a := tB_bd wP h'
  have b : tB r h' ≤ tB r h := sumF_mono (fun x l _ _ _ _ => by
    unfold spB fdB
    by_cases e : stR r x l ≠ 4 ∧ h' > buR r (coR r x l)
    · rw [if_pos e, if_pos ⟨e.1, by omega⟩]; exact Int.le_refl _
    · rw [if_neg e]; split <;> omega)
  omega
theorem tD_mono {r : Int → Int} {h h' : Int} (hh : h' ≤ h) (z : tB r h = 0) : tD r h' ≤ tD r h := by
  have hb := tB_0 z
  refine sumF_mono (fun x l a b c d => ?_)
  have hb' := hb x l a b c d
  unfold spD fdD
  by_cases e : stR r x l ≠ 4 ∧ h' ≤ buR r (coR r x l) ∧ holds (stR r x l) ∧ h' ≥ meR r (coR r x l) - 20 ∧ soR r x l + 1 > r 115 ∧ stR r x l ≠ 3
  · rw [if_pos e, if_pos ⟨e.1, hb'.resolve_left e.1, e.2.2.1, by omega, e.2.2.2.2⟩]; exact Int.le_refl _
  · rw [if_neg e]; split <;> omega
theorem tB_500 {r : Int → Int} (wR : wfR r) : tB r 500 = 0 := by
  have e : tB r 500 = sumF r (fun _ _ => 0) 7 := sumF_congr (fun x l a b c d => by
    have h1 := (wR.2.1.2 x l a b c d).1
    have h2 := wR.1.2 _ h1.1 h1.2
    unfold spB fdB
    exact if_neg (fun q => by omega))
  rw [e]
  have : ∀ k : Nat, sumL (fun _ => (0 : Int)) k = 0 := by
    intro k; induction k with
    | zero => rfl
    | succ k ih => rw [sumL_succ, ih]; rfl
  unfold sumF
  have e2 : (fun x : Int => sumL (fun _ : Int => (0 : Int)) (szR r x).toNat) = fun _ => 0 := funext fun x => this _
  show sumL (fun x : Int => sumL (fun _ : Int => (0 : Int)) (szR r x).toNat) 7 = 0
  rw [e2]; exact this 7
theorem bst {a u u' b b' k : Int} (h : a < u ∨ (a = u ∧ b ≤ k)) (c : u < u' ∨ (u' = u ∧ b' < b)) : a < u' ∨ (a = u' ∧ b' ≤ k) := by omega
def good (r : Int → Int) (h : Int) : Prop := (500 ≤ h ∧ h ≤ 1200) ∧ tB r h = 0
def isBest (r : Int → Int) (b : Int) : Prop := good r b ∧ ∀ h : Int, good r h → tU r h < tU r b ∨ (tU r h = tU r b ∧ b ≤ h)
theorem best_one {r : Int → Int} {b c : Int} (hb : isBest r b) (hc : isBest r c) : b = c := by
  have h1 := hb.2 c hc.1
  have h2 := hc.2 b hb.1
  omega
/-- the greatest melting heat up to a heat -/
theorem maxM (r : Int → Int) (h : Int) (h5 : 500 ≤ h) (n : Nat) : ∃ k : Int, (k = 500 ∨ ∃ c : Int, (0 ≤ c ∧ c < n) ∧ k = meR r c) ∧ k ≤ h ∧ ∀ c : Int, 0 ≤ c → c < n → meR r c ≤ h → meR r c ≤ k := by
  induction n with
  | zero => exact ⟨500, Or.inl rfl, h5, fun c a b => by omega⟩
  | succ n ih =>
    obtain ⟨k, k1, k2, k3⟩ := ih
    by_cases e : meR r n ≤ h ∧ k < meR r n
    · refine ⟨meR r n, Or.inr ⟨n, ⟨by omega, by omega⟩, rfl⟩, e.1, fun c a b z => ?_⟩
      by_cases ec : c = n
      · subst ec; exact Int.le_refl _
      · have := k3 c a (by omega) z
        omega
    · refine ⟨k, k1.imp id (fun ⟨c, a, b⟩ => ⟨c, ⟨a.1, by omega⟩, b⟩), k2, fun c a b z => ?_⟩
      by_cases ec : c = n
      · subst ec; omega
      · exact k3 c a (by omega) z
theorem cand {r : Int → Int} (wR : wfR r) {h : Int} (g : good r h) : ∃ k : Int, (k = 500 ∨ ∃ c : Int, (0 ≤ c ∧ c < r 0) ∧ k = meR r c) ∧ k ≤ h ∧ good r k ∧ tU r k = tU r h := by
  have h12 := wR.1.1
  obtain ⟨k, k1, k2, k3⟩ := maxM r h g.1.1 (r 0).toNat
  have e0 : (((r 0).toNat : Nat) : Int) = r 0 := by omega
  rw [e0] at k1 k3
  have kr : 500 ≤ k ∧ k ≤ 1200 := by
    rcases k1 with z | ⟨c, a, b⟩
    · omega
    · have := (wR.1.2 c a.1 a.2).1; omega
  have kB := tB_mono wR.2.1 k2 g.2
  refine ⟨k, k1, k2, ⟨kr, kB⟩, sumF_congr (fun x l a b c d => ?_)⟩
  have h1 := (wR.2.1.2 x l a b c d).1
  have hb := tB_0 g.2 x l a b c d
  have hb2 := tB_0 kB x l a b c d
  have hm : meR r (coR r x l) ≤ h ↔ meR r (coR r x l) ≤ k := ⟨fun z => k3 _ h1.1 h1.2 z, fun z => by omega⟩
  unfold spU fdS
  by_cases e4 : stR r x l = 4
  · rw [if_neg (fun q => q.1 e4), if_neg (fun q => q.1 e4)]
  · have b1 := hb.resolve_left e4
    have b2 := hb2.resolve_left e4
    by_cases e : ¬ holds (stR r x l) ∧ h ≥ meR r (coR r x l)
    · rw [if_pos ⟨e4, b2, e.1, hm.1 e.2, rfl⟩, if_pos ⟨e4, b1, e.1, e.2, rfl⟩]
    · rw [if_neg (fun q => e ⟨q.2.2.1, hm.2 q.2.2.2.1⟩), if_neg (fun q => e ⟨q.2.2.1, q.2.2.2.1⟩)]
theorem cntK_bd (r : Int → Int) (h lg : Int) : 0 ≤ cntK r h lg 6 ∧ cntK r h lg 6 ≤ 6 := by
  classical
  unfold cntK
  exact sumL_b01 (fun i _ => by split <;> simp)
theorem cntM_bd (r : Int → Int) (h lg : Int) : 0 ≤ cntM r h lg 6 ∧ cntM r h lg 6 ≤ 6 := by
  classical
  unfold cntM
  exact sumL_b01 (fun i _ => by split <;> simp)
theorem agP_copy {r : Int → Int} {m m2 : AM} (wP : wfP r) (g : agP 7 8 9 10 11 r m) (s1 : same m m2 86 7 7) (s2 : same m m2 87 8 21) (s3 : same m m2 88 9 21) (s4 : same m m2 89 10 21) (s5 : same m m2 90 11 6) : agP 86 87 88 89 90 r m2 := by
  refine ⟨fun f a b => by rw [s1 f a b]; exact g.1 f a b, fun f l a b c d => ?_, fun f a b => by rw [s5 f a b]; exact g.2.2 f a b⟩
  have h3 := (wP.1 f a b).1
  rw [s2 _ (by omega) (by omega), s3 _ (by omega) (by omega), s4 _ (by omega) (by omega)]
  exact g.2.1 f l a b c d

