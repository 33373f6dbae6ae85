
theorem pullS_congr {n n' : Int} {S S' X X' : Int → Int} (hn : n = n') (h : ∀ l : Int, 0 ≤ l → l < n → S l = S' l ∧ X l = X' l) : pullS n S X = pullS n' S' X' := by
  subst hn
  unfold pullS
  refine sumL_congr (fun i hi => ?_)
  have := h (i : Int) (by omega) (by omega)
  simp only [this.1, this.2]
def gI (sz co st so cr : Nat) (r : Int → Int) (h lg : Int) (m mi : AM) : Prop :=
  (∀ (k : Nat) (j : Int), k ≠ st → k ≠ so → k ≠ 83 → k ≠ 84 → k ≠ cr → mi k j = m k j) ∧ ∀ x y : Int, 0 ≤ x → x < 7 → 0 ≤ y → y < szR r x → mi st (x * 3 + y) = spS r h lg x y ∧ mi so (x * 3 + y) = spO r h x y ∧ mi 84 (x * 3 + y) = spG r h lg x y
theorem gI_up {sz co st so cr p : Nat} (hp : isPlate p sz co st so cr) (hpp : p + 5 < 83 ∨ 84 < p) {r : Int → Int} {h lg : Int} {m mi : AM} (g : gI sz co st so cr r h lg m mi) {k : Nat} {j v : Int} (hk : k = cr ∨ k = 83) : gI sz co st so cr r h lg m (am_up mi k j v) := by
  have hpn := hp.n
  refine ⟨fun k' j' a b c d e => ?_, fun x y x0 x7 y0 yl => ?_⟩
  · rw [am_k (by omega)]; exact g.1 k' j' a b c d e
  · rw [am_k (by omega), am_k (by omega), am_k (by omega)]; exact g.2 x y x0 x7 y0 yl
theorem gI_facts {sz co st so cr p : Nat} (hp : isPlate p sz co st so cr) (hpp : p + 5 < 83 ∨ 84 < p) (hp1 : 16 < p ∨ p = 6) {r : Int → Int} {h lg : Int} {m mi : AM} (wC : wfC r) (wP : wfP r) (wS : wfS r) (aP : agP sz co st so cr r m) (aC : agC 2 3 4 5 r m) (aS : agS 15 16 r m) (g : gI sz co st so cr r h lg m mi) :
    (∀ f : Int, 0 ≤ f → f < 7 → mi sz f = szR r f) ∧ (∀ f : Int, 0 ≤ f → f < 7 → 0 ≤ mi sz f ∧ mi sz f ≤ 3) ∧ (∀ f l : Int, 0 ≤ f → f < 7 → 0 ≤ l → l < mi sz f → (0 ≤ mi co (f * 3 + l) ∧ mi co (f * 3 + l) < 12) ∧ (0 ≤ mi st (f * 3 + l) ∧ mi st (f * 3 + l) ≤ 4)) ∧ (∀ f l : Int, 0 ≤ f → f < 7 → 0 ≤ l → l < mi sz f → 60 ≤ mi 5 (mi co (f * 3 + l)) ∧ mi 5 (mi co (f * 3 + l)) ≤ 160) ∧ (∀ f : Int, 0 ≤ f → f < 7 → pullS (mi sz f) (fun l => mi st (f * 3 + l)) (fun l => mi 5 (mi co (f * 3 + l))) = spP r h lg f) ∧ mi 15 2 = r 116 := by
  have hpn := hp.n
  have hz : ∀ f : Int, 0 ≤ f → f < 7 → mi sz f = szR r f := fun f a b => by rw [g.1 sz f (by omega) (by omega) (by omega) (by omega) (by omega)]; exact aP.1 f a b
  have hco : ∀ f l : Int, 0 ≤ f → f < 7 → 0 ≤ l → l < szR r f → mi co (f * 3 + l) = coR r f l := fun f l a b c d => by rw [g.1 co _ (by omega) (by omega) (by omega) (by omega) (by omega)]; exact (aP.2.1 f l a b c d).1
  have hex : ∀ f l : Int, 0 ≤ f → f < 7 → 0 ≤ l → l < szR r f → mi 5 (coR r f l) = exR r (coR r f l) := fun f l a b c d => by
    have h1 := (wP.2 f l a b c d).1
    rw [g.1 5 _ (by omega) (by omega) (by omega) (by omega) (by omega)]; exact (aC.2 _ h1.1 h1.2).2.2
  refine ⟨hz, fun f a b => ?_, fun f l a b c d => ?_, fun f l a b c d => ?_, fun f a b => ?_, ?_⟩
  · rw [hz f a b]; exact (wP.1 f a b).1
  · rw [hz f a b] at d
    have h1 := wP.2 f l a b c d
    have h12 := wC.1
    rw [hco f l a b c d, (g.2 f l a b c d).1]
    exact ⟨⟨h1.1.1, by omega⟩, fSt_bd h1.2.1⟩
  · rw [hz f a b] at d
    have h1 := wP.2 f l a b c d
    rw [hco f l a b c d, hex f l a b c d]
    exact (wC.2 _ h1.1.1 h1.1.2).2.2
  · refine pullS_congr (hz f a b) (fun l c d => ?_)
    rw [hz f a b] at d
    exact ⟨(g.2 f l a b c d).1, by rw [hco f l a b c d, hex f l a b c d]⟩
  · rw [g.1 15 2 (by omega) (by omega) (by omega) (by omega) (by omega)]; exact aS.1 2 (by omega) (by omega)
/-- the cooling of the class underway: fields before f are looked at -/
def cI (sz co st so cr : Nat) (r : Int → Int) (h lg : Int) (m : AM) (f : Nat) (mi : AM) : Prop :=
  gI sz co st so cr r h lg m mi ∧ (∀ x : Int, 0 ≤ x → x < 6 → (x < f → mi cr x = spC r h lg x) ∧ (¬ x < f → mi cr x = crR r x)) ∧ mi 83 1 = sumF r (spU r h lg) 7 ∧ mi 83 2 = sumF r (spB r h) 7 ∧ mi 83 3 = sumF r (spD r h) 7 ∧ mi 83 4 = cntK r h lg f ∧ mi 83 5 = cntM r h lg f
theorem cntM_succ (r : Int → Int) (h lg : Int) (n : Nat) : (spM r h lg n → cntM r h lg (n + 1) = cntM r h lg n + 1) ∧ (¬ spM r h lg n → cntM r h lg (n + 1) = cntM r h lg n) := by
  refine ⟨fun z => ?_, fun z => ?_⟩
  · simp only [cntM, sumL_succ, if_pos z]
  · simp only [cntM, sumL_succ, if_neg z, Int.add_zero]
theorem cntK_succ (r : Int → Int) (h lg : Int) (n : Nat) : (spK r h lg n → cntK r h lg (n + 1) = cntK r h lg n + 1) ∧ (¬ spK r h lg n → cntK r h lg (n + 1) = cntK r h lg n) := by
  refine ⟨fun z => ?_, fun z => ?_⟩
  · simp only [cntK, sumL_succ, if_pos z]
  · simp only [cntK, sumL_succ, if_neg z, Int.add_zero]
theorem spC_cases (r : Int → Int) (h lg f : Int) : (spK r h lg f → spC r h lg f = 1) ∧ (¬ spK r h lg f → spM r h lg f → spC r h lg f = 0) ∧ (¬ spK r h lg f → ¬ spM r h lg f → spC r h lg f = crR r f) := by
  refine ⟨fun z => ?_, fun z y => ?_, fun z y => ?_⟩
  · simp only [spC, if_pos z]
  · simp only [spC, if_neg z, if_pos y]
  · simp only [spC, if_neg z, if_neg y]
theorem cI_step {sz co st so cr p : Nat} (hp : isPlate p sz co st so cr) (hpp : p + 5 < 83 ∨ 84 < p) (hp1 : 16 < p ∨ p = 6) {r : Int → Int} {h lg : Int} {m mi m1 m2 : AM} {f : Nat} (hf : (f : Int) < 6) (wC : wfC r) (wP : wfP r) (wS : wfS r) (aP : agP sz co st so cr r m) (aC : agC 2 3 4 5 r m) (aS : agS 15 16 r m) (hi : cI sz co st so cr r h lg m f mi)
    (e1 : ((mi cr f = 1 ∧ ∀ l : Int, 0 ≤ l → l < mi sz f → mi 84 (f * 3 + l) = 1) ∧ m1 = am_up (am_up mi cr f 0) 83 5 (mi 83 5 + 1)) ∨ (¬ (mi cr f = 1 ∧ ∀ l : Int, 0 ≤ l → l < mi sz f → mi 84 (f * 3 + l) = 1) ∧ m1 = mi))
    (e2 : ((m1 cr f = 0 ∧ (∃ l : Int, 0 ≤ l ∧ l < m1 sz f ∧ holds (m1 st (f * 3 + l))) ∧ iab (pullS (m1 sz f) (fun l => m1 st (f * 3 + l)) (fun l => m1 5 (m1 co (f * 3 + l))) - pullS (m1 sz 6) (fun l => m1 st (6 * 3 + l)) (fun l => m1 5 (m1 co (6 * 3 + l)))) > m1 15 2) ∧ m2 = am_up (am_up m1 cr f 1) 83 4 (m1 83 4 + 1)) ∨ (¬ (m1 cr f = 0 ∧ (∃ l : Int, 0 ≤ l ∧ l < m1 sz f ∧ holds (m1 st (f * 3 + l))) ∧ iab (pullS (m1 sz f) (fun l => m1 st (f * 3 + l)) (fun l => m1 5 (m1 co (f * 3 + l))) - pullS (m1 sz 6) (fun l => m1 st (6 * 3 + l)) (fun l => m1 5 (m1 co (6 * 3 + l)))) > m1 15 2) ∧ m2 = m1)) : cI sz co st so cr r h lg m (f + 1) m2 := by
  have hpn := hp.n
  obtain ⟨g, i2, i3, i4, i5, i6, i7⟩ := hi
  have F0 := gI_facts hp hpp hp1 wC wP wS aP aC aS g
  have hcr := (i2 f (by omega) hf).2 (by omega)
  have hM : (mi cr f = 1 ∧ ∀ l : Int, 0 ≤ l → l < mi sz f → mi 84 (f * 3 + l) = 1) ↔ spM r h lg f := by
    unfold spM
    rw [hcr, F0.1 f (by omega) (by omega)]
    refine and_congr Iff.rfl ⟨fun z l a b => ?_, fun z l a b => ?_⟩
    · rw [← (g.2 f l (by omega) (by omega) a b).2.2]; exact z l a b
    · rw [(g.2 f l (by omega) (by omega) a b).2.2]; exact z l a b
  rw [hM] at e1
  have hone := (wP.1 f (by omega) (by omega)).2
  -- behind the mending
  have G1 : gI sz co st so cr r h lg m m1 ∧ (m1 cr f = 0 ↔ (crR r f = 0 ∨ spM r h lg f)) ∧ (∀ x : Int, x ≠ f → m1 cr x = mi cr x) ∧ m1 83 1 = mi 83 1 ∧ m1 83 2 = mi 83 2 ∧ m1 83 3 = mi 83 3 ∧ m1 83 4 = mi 83 4 ∧ m1 83 5 = cntM r h lg (f + 1) ∧ (spM r h lg f → m1 cr f = 0) ∧ (¬ spM r h lg f → m1 cr f = crR r f) := by
    clear e2
    rcases e1 with ⟨z, rfl⟩ | ⟨z, rfl⟩
    · refine ⟨gI_up hp hpp (gI_up hp hpp g (Or.inl rfl)) (Or.inr rfl), ?_, fun x hx => ?_, ?_, ?_, ?_, ?_, ?_, fun _ => ?_, fun y => absurd z y⟩
      · rw [am_k (by omega), am_same]; exact ⟨fun _ => Or.inr z, fun _ => rfl⟩
      · rw [am_k (by omega), am_j hx]
      · rw [am_j (by omega), am_k (by omega)]
      · rw [am_j (by omega), am_k (by omega)]
      · rw [am_j (by omega), am_k (by omega)]
      · rw [am_j (by omega), am_k (by omega)]
      · rw [am_same, i7]; exact ((cntM_succ r h lg f).1 z).symm
      · rw [am_k (by omega), am_same]
    · refine ⟨g, ?_, fun x hx => rfl, rfl, rfl, rfl, rfl, ?_, fun y => absurd y z, fun _ => hcr⟩
      · rw [hcr]; exact ⟨fun y => Or.inl y, fun y => y.elim id (fun q => absurd q z)⟩
      · rw [i7]; exact ((cntM_succ r h lg f).2 z).symm
  obtain ⟨g1, k0, kx, k1, k2, k3, k4, k5, kM, kN⟩ := G1
  have F1 := gI_facts hp hpp hp1 wC wP wS aP aC aS g1
  have hK : (m1 cr f = 0 ∧ (∃ l : Int, 0 ≤ l ∧ l < m1 sz f ∧ holds (m1 st (f * 3 + l))) ∧ iab (pullS (m1 sz f) (fun l => m1 st (f * 3 + l)) (fun l => m1 5 (m1 co (f * 3 + l))) - pullS (m1 sz 6) (fun l => m1 st (6 * 3 + l)) (fun l => m1 5 (m1 co (6 * 3 + l)))) > m1 15 2) ↔ spK r h lg f := by
    unfold spK
    rw [F1.2.2.2.2.1 f (by omega) (by omega), F1.2.2.2.2.1 6 (by omega) (by omega), F1.2.2.2.2.2, k0, F1.1 f (by omega) (by omega)]
    refine and_congr Iff.rfl (and_congr ⟨fun ⟨l, a, b, c⟩ => ⟨l, a, b, ?_⟩, fun ⟨l, a, b, c⟩ => ⟨l, a, b, ?_⟩⟩ Iff.rfl)
    · rw [← (g1.2 f l (by omega) (by omega) a b).1]; exact c
    · rw [(g1.2 f l (by omega) (by omega) a b).1]; exact c
  rw [hK] at e2
  have sC := spC_cases r h lg f
  rcases e2 with ⟨z, rfl⟩ | ⟨z, rfl⟩
  · refine ⟨gI_up hp hpp (gI_up hp hpp g1 (Or.inl rfl)) (Or.inr rfl), fun x x0 x6 => ?_, ?_, ?_, ?_, ?_, ?_⟩
    · rw [am_k (by omega)]
      by_cases hx : x = f
      · subst hx
        rw [am_same]
        exact ⟨fun _ => (sC.1 z).symm, fun q => absurd q (by omega)⟩
      · rw [am_j hx, kx x hx]
        exact ⟨fun q => (i2 x x0 x6).1 (by omega), fun q => (i2 x x0 x6).2 (by omega)⟩
    · rw [am_j (by omega), am_k (by omega), k1]; exact i3
    · rw [am_j (by omega), am_k (by omega), k2]; exact i4
    · rw [am_j (by omega), am_k (by omega), k3]; exact i5
    · rw [am_same, k4, i6]; exact ((cntK_succ r h lg f).1 z).symm
    · rw [am_j (by omega), am_k (by omega)]; exact k5
  · refine ⟨g1, fun x x0 x6 => ?_, k1.trans i3, k2.trans i4, k3.trans i5, ?_, k5⟩
    · by_cases hx : x = f
      · subst hx
        refine ⟨fun _ => ?_, fun q => absurd q (by omega)⟩
        by_cases hm : spM r h lg f
        · rw [sC.2.1 z hm]; exact kM hm
        · rw [sC.2.2 z hm]; exact kN hm
      · rw [kx x hx]
        exact ⟨fun q => (i2 x x0 x6).1 (by omega), fun q => (i2 x x0 x6).2 (by omega)⟩
    · rw [k4, i6]; exact ((cntK_succ r h lg f).2 z).symm

