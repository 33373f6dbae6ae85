
/-- the model's firing underway: the heating (f, l), cracks mended before field f -/
def mI (r : Int → Int) (h lg mn : Int) (m : AM) (f l : Int) (mi : AM) : Prop :=
  (∀ (k : Nat) (j : Int), k ≠ 101 → mi k j = m k j) ∧ (∀ j : Int, (j < 37 ∨ (114 ≤ j ∧ j < 117) ∨ j = 119 ∨ j = 120 ∨ j = 124 ∨ 126 ≤ j) → mi 101 j = r j) ∧ mi 101 117 = r 117 + 1 ∧ mi 101 118 = r 118 + mn ∧
  (∀ x : Int, 0 ≤ x → x < 7 → szR (mi 101) x = szR r x) ∧
  (∀ x y : Int, 0 ≤ x → x < 7 → 0 ≤ y → y < szR r x → coR (mi 101) x y = coR r x y ∧ ((x < f ∨ (x = f ∧ y < l)) → stR (mi 101) x y = spS r h lg x y ∧ soR (mi 101) x y = spO r h x y) ∧ (¬ (x < f ∨ (x = f ∧ y < l)) → stR (mi 101) x y = stR r x y ∧ soR (mi 101) x y = soR r x y)) ∧
  (∀ x : Int, 0 ≤ x → x < 7 → (x < f → (spM r h lg x → crR (mi 101) x = 0) ∧ (¬ spM r h lg x → crR (mi 101) x = crR r x)) ∧ (¬ x < f → crR (mi 101) x = crR r x)) ∧
  mi 101 121 = r 121 + (sumF r (spU r h lg) f.toNat + sumL (spU r h lg f) l.toNat) ∧ mi 101 123 = r 123 + (sumF r (spB r h) f.toNat + sumL (spB r h f) l.toNat) ∧ mi 101 122 = r 122 + (sumF r (spD r h) f.toNat + sumL (spD r h f) l.toNat) ∧ mi 101 125 = r 125 + cntM r h lg f.toNat
theorem bc_at {m : AM} {a ns no ds db dd : Int} : (∀ (k : Nat) (j : Int), k ≠ 101 → bcM m a ns no ds db dd k j = m k j) ∧ (∀ j : Int, j ≠ a + 1 → j ≠ a + 2 → j ≠ 121 → j ≠ 123 → j ≠ 122 → bcM m a ns no ds db dd 101 j = m 101 j) := by
  refine ⟨fun k j hk => ?_, fun j a b c d e => ?_⟩
  · simp [bcM, hk]
  · simp [bcM, a, b, c, d, e]
theorem mI_step {r : Int → Int} {h lg mn : Int} {m mi m' : AM} {f l : Nat} (wP : wfP r) (hf : (f : Int) < 7) (hl : (l : Int) < szR r f) (hi : mI r h lg mn m f l mi)
    (e : m' = bcM mi (37 + 11 * f + 2 + 3 * l) (fSt h lg (mi 101 115) (meR (mi 101) (mi 101 (37 + 11 * f + 2 + 3 * l))) (buR (mi 101) (mi 101 (37 + 11 * f + 2 + 3 * l))) (mi 101 (37 + 11 * f + 2 + 3 * l + 1)) (mi 101 (37 + 11 * f + 2 + 3 * l + 2))) (fSo h (meR (mi 101) (mi 101 (37 + 11 * f + 2 + 3 * l))) (buR (mi 101) (mi 101 (37 + 11 * f + 2 + 3 * l))) (mi 101 (37 + 11 * f + 2 + 3 * l + 1)) (mi 101 (37 + 11 * f + 2 + 3 * l + 2))) (fdS h lg (meR (mi 101) (mi 101 (37 + 11 * f + 2 + 3 * l))) (buR (mi 101) (mi 101 (37 + 11 * f + 2 + 3 * l))) (mi 101 (37 + 11 * f + 2 + 3 * l + 1))) (fdB h (buR (mi 101) (mi 101 (37 + 11 * f + 2 + 3 * l))) (mi 101 (37 + 11 * f + 2 + 3 * l + 1))) (fdD h (mi 101 115) (meR (mi 101) (mi 101 (37 + 11 * f + 2 + 3 * l))) (buR (mi 101) (mi 101 (37 + 11 * f + 2 + 3 * l))) (mi 101 (37 + 11 * f + 2 + 3 * l + 1)) (mi 101 (37 + 11 * f + 2 + 3 * l + 2))))
    (wC : wfC r) : mI r h lg mn m f ((l : Int) + 1) m' := by
  obtain ⟨i1, i2, i3, i4, i5, i6, i7, i8, i9, i10, i11⟩ := hi
  have hL := wP.2 f l (by omega) hf (by omega) hl
  have hz := (wP.1 f (by omega) hf).1
  have h6 := i6 f l (by omega) hf (by omega) hl
  have h62 := h6.2.2 (by omega)
  have hc12 := wC.1
  have ec : mi 101 (37 + 11 * f + 2 + 3 * l) = coR r f l := by rw [← h6.1]; simp only [coR, Int.add_zero]
  have es : mi 101 (37 + 11 * f + 2 + 3 * l + 1) = stR r f l := h62.1
  have eo : mi 101 (37 + 11 * f + 2 + 3 * l + 2) = soR r f l := h62.2
  have eM : meR (mi 101) (coR r f l) = meR r (coR r f l) := i2 _ (Or.inl (by omega))
  have eB : buR (mi 101) (coR r f l) = buR r (coR r f l) := i2 _ (Or.inl (by omega))
  have ea : mi 101 115 = r 115 := i2 _ (Or.inr (Or.inl ⟨by omega, by omega⟩))
  rw [ec, es, eo, eM, eB, ea] at e
  have e' : m' = bcM mi (37 + 11 * f + 2 + 3 * l) (spS r h lg f l) (spO r h f l) (spU r h lg f l) (spB r h f l) (spD r h f l) := e
  clear e
  have t1 : ((l : Int) + 1).toNat = l + 1 := by omega
  have t0 : ((l : Int)).toNat = l := by omega
  have B := bc_at (m := mi) (a := 37 + 11 * f + 2 + 3 * l) (ns := spS r h lg f l) (no := spO r h f l) (ds := spU r h lg f l) (db := spB r h f l) (dd := spD r h f l)
  rw [← e'] at B
  refine ⟨fun k j hk => (B.1 k j hk).trans (i1 k j hk), fun j hj => (B.2 j (by omega) (by omega) (by omega) (by omega) (by omega)).trans (i2 j hj), (B.2 117 (by omega) (by omega) (by omega) (by omega) (by omega)).trans i3, (B.2 118 (by omega) (by omega) (by omega) (by omega) (by omega)).trans i4, fun x x0 x7 => ?_, fun x y x0 x7 y0 yl => ?_, fun x x0 x7 => ?_, ?_, ?_, ?_, ?_⟩
  · exact (B.2 (37 + 11 * x) (by omega) (by omega) (by omega) (by omega) (by omega)).trans (i5 x x0 x7)
  · have hzx := (wP.1 x x0 x7).1
    have h6x := i6 x y x0 x7 y0 yl
    refine ⟨(B.2 (37 + 11 * x + 2 + 3 * y + 0) (by omega) (by omega) (by omega) (by omega) (by omega)).trans h6x.1, fun hd => ?_, fun hd => ?_⟩
    · by_cases hxy : x = f ∧ y = l
      · obtain ⟨rfl, rfl⟩ := hxy
        rw [e']
        constructor <;> simp (disch := omega) only [stR, soR, bcM, if_pos, if_neg, and_self, if_true]
      · have h6y := h6x.2.1 (by omega)
        refine ⟨(B.2 (37 + 11 * x + 2 + 3 * y + 1) (by omega) (by omega) (by omega) (by omega) (by omega)).trans h6y.1, (B.2 (37 + 11 * x + 2 + 3 * y + 2) (by omega) (by omega) (by omega) (by omega) (by omega)).trans h6y.2⟩
    · have h6y := h6x.2.2 (by omega)
      refine ⟨(B.2 (37 + 11 * x + 2 + 3 * y + 1) (by omega) (by omega) (by omega) (by omega) (by omega)).trans h6y.1, (B.2 (37 + 11 * x + 2 + 3 * y + 2) (by omega) (by omega) (by omega) (by omega) (by omega)).trans h6y.2⟩
  · have hq : crR (m' 101) x = crR (mi 101) x := B.2 (37 + 11 * x + 1) (by omega) (by omega) (by omega) (by omega) (by omega)
    rw [hq]; exact i7 x x0 x7
  · rw [t1, sumL_succ, e']; simp (disch := omega) only [bcM, if_pos, if_neg, and_self, if_true]; rw [i8, t0]; simp only [Int.add_assoc]
  · rw [t1, sumL_succ, e']; simp (disch := omega) only [bcM, if_pos, if_neg, and_self, if_true]; rw [i9, t0]; simp only [Int.add_assoc]
  · rw [t1, sumL_succ, e']; simp (disch := omega) only [bcM, if_pos, if_neg, and_self, if_true]; rw [i10, t0]; simp only [Int.add_assoc]
  · exact (B.2 125 (by omega) (by omega) (by omega) (by omega) (by omega)).trans i11
theorem mI_next {r : Int → Int} {h lg mn : Int} {m mi m' : AM} {f : Nat} (wP : wfP r) (hf : (f : Int) < 7) (hi : mI r h lg mn m f (szR r f) mi)
    (e : (spM r h lg f ∧ m' = am_up (am_up mi 101 (37 + 11 * f + 1) 0) 101 125 (mi 101 125 + 1)) ∨ (¬ spM r h lg f ∧ m' = mi)) : mI r h lg mn m ((f : Int) + 1) 0 m' := by
  obtain ⟨i1, i2, i3, i4, i5, i6, i7, i8, i9, i10, i11⟩ := hi
  have t1 : ((f : Int) + 1).toNat = f + 1 := by omega
  have t0 : ((f : Int)).toNat = f := by omega
  have hcr := (i7 f (by omega) hf).2 (by omega)
  have hO : (∀ (k : Nat) (j : Int), k ≠ 101 → m' k j = mi k j) ∧ (∀ j : Int, j ≠ 37 + 11 * f + 1 → j ≠ 125 → m' 101 j = mi 101 j) ∧ (spM r h lg f → m' 101 (37 + 11 * f + 1) = 0) ∧ (¬ spM r h lg f → m' 101 (37 + 11 * f + 1) = crR r f) ∧ m' 101 125 = r 125 + cntM r h lg (f + 1) := by
    rcases e with ⟨z, rfl⟩ | ⟨z, rfl⟩
    · refine ⟨fun k j hk => by rw [am_k hk, am_k hk], fun j a b => by rw [am_j b, am_j a], fun _ => by rw [am_j (by omega), am_same], fun y => absurd z y, ?_⟩
      rw [am_same, i11, t0, (cntM_succ r h lg f).1 z, Int.add_assoc]
    · refine ⟨fun _ _ _ => rfl, fun _ _ _ => rfl, fun y => absurd y z, fun _ => hcr, ?_⟩
      rw [i11, t0, (cntM_succ r h lg f).2 z]
  obtain ⟨o1, o2, o3, o4, o5⟩ := hO
  refine ⟨fun k j hk => (o1 k j hk).trans (i1 k j hk), fun j hj => (o2 j (by omega) (by omega)).trans (i2 j hj), (o2 _ (by omega) (by omega)).trans i3, (o2 _ (by omega) (by omega)).trans i4, fun x x0 x7 => (o2 _ (by omega) (by omega)).trans (i5 x x0 x7), fun x y x0 x7 y0 yl => ?_, fun x x0 x7 => ?_, ?_, ?_, ?_, ?_⟩
  · have hzx := (wP.1 x x0 x7).1
    have h6x := i6 x y x0 x7 y0 yl
    refine ⟨(o2 _ (by omega) (by omega)).trans h6x.1, fun hd => ?_, fun hd => ?_⟩
    · have h6y := h6x.2.1 (by
        rcases (by omega : x < (f : Int) ∨ x = (f : Int)) with z | z
        · exact Or.inl z
        · exact Or.inr ⟨z, by rw [← z]; exact yl⟩)
      exact ⟨(o2 _ (by omega) (by omega)).trans h6y.1, (o2 _ (by omega) (by omega)).trans h6y.2⟩
    · have h6y := h6x.2.2 (by omega)
      exact ⟨(o2 _ (by omega) (by omega)).trans h6y.1, (o2 _ (by omega) (by omega)).trans h6y.2⟩
  · by_cases hx : x = f
    · subst hx
      exact ⟨fun _ => ⟨o3, o4⟩, fun z => absurd z (by omega)⟩
    · have hq : crR (m' 101) x = crR (mi 101) x := o2 _ (by omega) (by omega)
      rw [hq]
      exact ⟨fun z => (i7 x x0 x7).1 (by omega), fun z => (i7 x x0 x7).2 (by omega)⟩
  · rw [o2 _ (by omega) (by omega), i8, t1, t0, sumF_succ]; simp only [Int.toNat_zero, sumL, Int.add_zero]
  · rw [o2 _ (by omega) (by omega), i9, t1, t0, sumF_succ]; simp only [Int.toNat_zero, sumL, Int.add_zero]
  · rw [o2 _ (by omega) (by omega), i10, t1, t0, sumF_succ]; simp only [Int.toNat_zero, sumL, Int.add_zero]
  · rw [o5, t1]
/-- a row behind a firing -/
def isFire (r : Int → Int) (h lg mn : Int) (r' : Int → Int) : Prop :=
  (∀ j : Int, (j < 37 ∨ (114 ≤ j ∧ j < 117) ∨ j = 119 ∨ j = 120 ∨ 126 ≤ j) → r' j = r j) ∧ r' 117 = r 117 + 1 ∧ r' 118 = r 118 + mn ∧ (∀ x : Int, 0 ≤ x → x < 7 → szR r' x = szR r x) ∧ (∀ x : Int, 0 ≤ x → x < 6 → crR r' x = spC r h lg x) ∧ crR r' 6 = 0 ∧
  (∀ x y : Int, 0 ≤ x → x < 7 → 0 ≤ y → y < szR r x → coR r' x y = coR r x y ∧ stR r' x y = spS r h lg x y ∧ soR r' x y = spO r h x y) ∧ r' 121 = r 121 + sumF r (spU r h lg) 7 ∧ r' 122 = r 122 + sumF r (spD r h) 7 ∧ r' 123 = r 123 + sumF r (spB r h) 7 ∧ r' 124 = r 124 + cntK r h lg 6 ∧ r' 125 = r 125 + cntM r h lg 6

theorem mI_g {r : Int → Int} {h lg mn : Int} {m mi : AM} {f l : Nat} (wC : wfC r) (wP : wfP r) (wS : wfS r) (hf : (f : Int) < 7) (hl : (l : Int) < szR r f) (hi : mI r h lg mn m f l mi) :
    fGv h lg (meR (mi 101) (mi 101 (37 + 11 * f + 2 + 3 * l))) (buR (mi 101) (mi 101 (37 + 11 * f + 2 + 3 * l))) (mi 101 (37 + 11 * f + 2 + 3 * l + 1)) = spG r h lg f l ∧
    (0 ≤ mi 101 (37 + 11 * f + 2 + 3 * l + 1) ∧ mi 101 (37 + 11 * f + 2 + 3 * l + 1) ≤ 4) ∧ (0 ≤ mi 101 (37 + 11 * f + 2 + 3 * l + 2) ∧ mi 101 (37 + 11 * f + 2 + 3 * l + 2) ≤ 1999) ∧ (0 ≤ mi 101 115 ∧ mi 101 115 ≤ 5) ∧ (1 ≤ mi 101 114 ∧ mi 101 114 ≤ 10) ∧ mi 101 114 = r 114 ∧ (0 ≤ mi 101 (37 + 11 * f + 2 + 3 * l) ∧ mi 101 (37 + 11 * f + 2 + 3 * l) < 12) ∧
    (600 ≤ meR (mi 101) (mi 101 (37 + 11 * f + 2 + 3 * l)) ∧ meR (mi 101) (mi 101 (37 + 11 * f + 2 + 3 * l)) ≤ 900) ∧ (meR (mi 101) (mi 101 (37 + 11 * f + 2 + 3 * l)) + 10 ≤ buR (mi 101) (mi 101 (37 + 11 * f + 2 + 3 * l)) ∧ buR (mi 101) (mi 101 (37 + 11 * f + 2 + 3 * l)) ≤ meR (mi 101) (mi 101 (37 + 11 * f + 2 + 3 * l)) + 200) := by
  obtain ⟨i1, i2, i3, i4, i5, i6, i7, i8, i9, i10, i11⟩ := hi
  have hL := wP.2 f l (by omega) hf (by omega) hl
  have hz := (wP.1 f (by omega) hf).1
  have h6 := i6 f l (by omega) hf (by omega) hl
  have h62 := h6.2.2 (by omega)
  have hc12 := wC.1
  have hcc := wC.2 _ hL.1.1 hL.1.2
  have h17 := wS.2.2.2.1
  have ec : mi 101 (37 + 11 * f + 2 + 3 * l) = coR r f l := by rw [← h6.1]; simp only [coR, Int.add_zero]
  have es : mi 101 (37 + 11 * f + 2 + 3 * l + 1) = stR r f l := h62.1
  have eo : mi 101 (37 + 11 * f + 2 + 3 * l + 2) = soR r f l := h62.2
  have eM : meR (mi 101) (coR r f l) = meR r (coR r f l) := i2 _ (Or.inl (by omega))
  have eB : buR (mi 101) (coR r f l) = buR r (coR r f l) := i2 _ (Or.inl (by omega))
  have ea : mi 101 115 = r 115 := i2 _ (Or.inr (Or.inl ⟨by omega, by omega⟩))
  have e4 : mi 101 114 = r 114 := i2 _ (Or.inr (Or.inl ⟨by omega, by omega⟩))
  rw [ec, es, eo, eM, eB, ea, e4]
  exact ⟨rfl, hL.2.1, ⟨hL.2.2.1.1, by omega⟩, wS.2.1, wS.1, rfl, ⟨hL.1.1, by omega⟩, hcc.1, hcc.2.1⟩
/-- the model's cooling underway -/
def mC (r : Int → Int) (h lg mn : Int) (m : AM) (f : Nat) (mi : AM) : Prop :=
  (∀ (k : Nat) (j : Int), k ≠ 101 → mi k j = m k j) ∧ (∀ j : Int, (j < 37 ∨ (114 ≤ j ∧ j < 117) ∨ j = 119 ∨ j = 120 ∨ 126 ≤ j) → mi 101 j = r j) ∧ mi 101 117 = r 117 + 1 ∧ mi 101 118 = r 118 + mn ∧ (∀ x : Int, 0 ≤ x → x < 7 → szR (mi 101) x = szR r x) ∧
  (∀ x : Int, 0 ≤ x → x < 6 → (x < f → crR (mi 101) x = spC r h lg x) ∧ (¬ x < f → (spM r h lg x → crR (mi 101) x = 0) ∧ (¬ spM r h lg x → crR (mi 101) x = crR r x))) ∧ crR (mi 101) 6 = 0 ∧
  (∀ x y : Int, 0 ≤ x → x < 7 → 0 ≤ y → y < szR r x → coR (mi 101) x y = coR r x y ∧ stR (mi 101) x y = spS r h lg x y ∧ soR (mi 101) x y = spO r h x y) ∧ mi 101 121 = r 121 + sumF r (spU r h lg) 7 ∧ mi 101 122 = r 122 + sumF r (spD r h) 7 ∧ mi 101 123 = r 123 + sumF r (spB r h) 7 ∧ mi 101 124 = r 124 + cntK r h lg f ∧ mi 101 125 = r 125 + cntM r h lg 6
theorem mC_facts {r : Int → Int} {h lg mn : Int} {m mi : AM} {f : Nat} (wC : wfC r) (wP : wfP r) (wS : wfS r) (hi : mC r h lg mn m f mi) :
    (∀ f : Int, 0 ≤ f → f < 7 → 0 ≤ mi 101 (37 + 11 * f) ∧ mi 101 (37 + 11 * f) ≤ 3) ∧ (∀ f l : Int, 0 ≤ f → f < 7 → 0 ≤ l → l < mi 101 (37 + 11 * f) → (0 ≤ coR (mi 101) f l ∧ coR (mi 101) f l < 12) ∧ (0 ≤ stR (mi 101) f l ∧ stR (mi 101) f l ≤ 4)) ∧ (∀ f l : Int, 0 ≤ f → f < 7 → 0 ≤ l → l < mi 101 (37 + 11 * f) → 60 ≤ exR (mi 101) (coR (mi 101) f l) ∧ exR (mi 101) (coR (mi 101) f l) ≤ 160) ∧ (∀ f : Int, 0 ≤ f → f < 7 → pullS (szR (mi 101) f) (fun l => stR (mi 101) f l) (fun l => exR (mi 101) (coR (mi 101) f l)) = spP r h lg f) ∧ mi 101 116 = r 116 ∧ (∀ f : Int, 0 ≤ f → f < 7 → 0 ≤ spP r h lg f ∧ spP r h lg f ≤ 330) := by
  obtain ⟨i1, i2, i3, i4, i5, i6, i66, i7, -⟩ := hi
  have hex : ∀ x y : Int, 0 ≤ x → x < 7 → 0 ≤ y → y < szR r x → exR (mi 101) (coR r x y) = exR r (coR r x y) := fun x y a b c d => by
    have h1 := (wP.2 x y a b c d).1
    have h12 := wC.1
    exact i2 _ (Or.inl (by omega))
  refine ⟨fun f a b => ?_, fun f l a b c d => ?_, fun f l a b c d => ?_, fun f a b => ?_, i2 _ (Or.inr (Or.inl ⟨by omega, by omega⟩)), fun f a b => ?_⟩
  · have q : mi 101 (37 + 11 * f) = szR r f := i5 f a b
    rw [q]; exact (wP.1 f a b).1
  · rw [show mi 101 (37 + 11 * f) = szR r f from i5 f a b] at d
    have h1 := wP.2 f l a b c d
    have h12 := wC.1
    have h7 := i7 f l a b c d
    rw [h7.1, h7.2.1]
    exact ⟨⟨h1.1.1, by omega⟩, fSt_bd h1.2.1⟩
  · rw [show mi 101 (37 + 11 * f) = szR r f from i5 f a b] at d
    have h1 := wP.2 f l a b c d
    rw [(i7 f l a b c d).1, hex f l a b c d]
    exact (wC.2 _ h1.1.1 h1.1.2).2.2
  · refine pullS_congr (i5 f a b) (fun l c d => ?_)
    rw [i5 f a b] at d
    have h7 := i7 f l a b c d
    exact ⟨h7.2.1, by rw [h7.1, hex f l a b c d]⟩
  · refine pullS_bd (wP.1 f a b).1.2 (fun l c d => ?_)
    have h1 := wP.2 f l a b c d
    exact (wC.2 _ h1.1.1 h1.1.2).2.2
theorem mC_step {r : Int → Int} {h lg mn : Int} {m mi m' : AM} {f : Nat} (hf : (f : Int) < 6) (wP : wfP r) (hi : mC r h lg mn m f mi)
    (e : (spK r h lg f ∧ m' = am_up (am_up mi 101 (37 + 11 * f + 1) 1) 101 124 (mi 101 124 + 1)) ∨ (¬ spK r h lg f ∧ m' = mi)) : mC r h lg mn m (f + 1) m' := by
  obtain ⟨i1, i2, i3, i4, i5, i6, i66, i7, i8, i9, i10, i11, i12⟩ := hi
  have sC := spC_cases r h lg f
  have hcr := (i6 f (by omega) hf).2 (by omega)
  have hO : (∀ (k : Nat) (j : Int), k ≠ 101 → m' k j = mi k j) ∧ (∀ j : Int, j ≠ 37 + 11 * f + 1 → j ≠ 124 → m' 101 j = mi 101 j) ∧ m' 101 (37 + 11 * f + 1) = spC r h lg f ∧ m' 101 124 = r 124 + cntK r h lg (f + 1) := by
    rcases e with ⟨z, rfl⟩ | ⟨z, rfl⟩
    · refine ⟨fun k j hk => by rw [am_k hk, am_k hk], fun j a b => by rw [am_j b, am_j a], by rw [am_j (by omega), am_same, sC.1 z], ?_⟩
      rw [am_same, i11, (cntK_succ r h lg f).1 z, Int.add_assoc]
    · refine ⟨fun _ _ _ => rfl, fun _ _ _ => rfl, ?_, ?_⟩
      · by_cases hm : spM r h lg f
        · rw [sC.2.1 z hm]; exact hcr.1 hm
        · rw [sC.2.2 z hm]; exact hcr.2 hm
      · rw [i11, (cntK_succ r h lg f).2 z]
  obtain ⟨o1, o2, o3, o4⟩ := hO
  refine ⟨fun k j hk => (o1 k j hk).trans (i1 k j hk), fun j hj => (o2 j (by omega) (by omega)).trans (i2 j hj), (o2 _ (by omega) (by omega)).trans i3, (o2 _ (by omega) (by omega)).trans i4, fun x x0 x7 => (o2 _ (by omega) (by omega)).trans (i5 x x0 x7), fun x x0 x6 => ?_, (o2 _ (by omega) (by omega)).trans i66, fun x y x0 x7 y0 yl => ?_, (o2 _ (by omega) (by omega)).trans i8, (o2 _ (by omega) (by omega)).trans i9, (o2 _ (by omega) (by omega)).trans i10, o4, (o2 _ (by omega) (by omega)).trans i12⟩
  · by_cases hx : x = f
    · subst hx
      exact ⟨fun _ => o3, fun z => absurd z (by omega)⟩
    · have hq : crR (m' 101) x = crR (mi 101) x := o2 _ (by omega) (by omega)
      rw [hq]
      exact ⟨fun z => (i6 x x0 x6).1 (by omega), fun z => (i6 x x0 x6).2 (by omega)⟩
  · have hzx := (wP.1 x x0 x7).1
    have h7 := i7 x y x0 x7 y0 yl
    exact ⟨(o2 _ (by omega) (by omega)).trans h7.1, (o2 _ (by omega) (by omega)).trans h7.2.1, (o2 _ (by omega) (by omega)).trans h7.2.2⟩
theorem mC_done {r : Int → Int} {h lg mn : Int} {m mi : AM} (hi : mC r h lg mn m 6 mi) : isFire r h lg mn (mi 101) ∧ ∀ (k : Nat) (j : Int), k ≠ 101 → mi k j = m k j := by
  obtain ⟨i1, i2, i3, i4, i5, i6, i66, i7, i8, i9, i10, i11, i12⟩ := hi
  exact ⟨⟨i2, i3, i4, i5, fun x x0 x6 => (i6 x x0 x6).1 x6, i66, i7, i8, i9, i10, i11, i12⟩, i1⟩
