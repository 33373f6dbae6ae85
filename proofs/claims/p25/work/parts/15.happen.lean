
/-- the firing of the class underway: what the plate holds behind field f and layer l of it -/
def hI (sz co st so cr : Nat) (r : Int → Int) (h lg : Int) (m : AM) (f l : Int) (mi : AM) : Prop :=
  (∀ (k : Nat) (j : Int), k ≠ st → k ≠ so → k ≠ 83 → k ≠ 84 → mi k j = m k j) ∧ mi 83 4 = 0 ∧ mi 83 5 = 0 ∧ (∀ x y : Int, 0 ≤ x → x < 7 → 0 ≤ y → y < szR r x → ((x < f ∨ (x = f ∧ y < l)) → mi st (x * 3 + y) = spS r h lg x y ∧ mi so (x * 3 + y) = spO r h x y ∧ mi 84 (x * 3 + y) = spG r h lg x y) ∧ (¬ (x < f ∨ (x = f ∧ y < l)) → mi st (x * 3 + y) = stR r x y ∧ mi so (x * 3 + y) = soR r x y)) ∧
  mi 83 1 = sumF r (spU r h lg) f.toNat + sumL (spU r h lg f) l.toNat ∧ mi 83 2 = sumF r (spB r h) f.toNat + sumL (spB r h f) l.toNat ∧ mi 83 3 = sumF r (spD r h) f.toNat + sumL (spD r h f) l.toNat
theorem hI_step {sz co st so cr p : Nat} (hp : isPlate p sz co st so cr) (hpp : p + 5 < 83 ∨ 84 < p) (hp1 : 16 < p ∨ p = 6) {r : Int → Int} {h lg : Int} {m mi m' : AM} {f l : Nat} (wP : wfP r) (aP : agP sz co st so cr r m) (aC : agC 2 3 4 5 r m) (aS : agS 15 16 r m) (hf : (f : Int) < 7) (hl : (l : Int) < szR r f) (hi : hI sz co st so cr r h lg m f l mi)
    (e : m' = hlM mi st so ((f : Int) * 3 + l) (fSt h lg (mi 15 1) (mi 3 (mi co ((f : Int) * 3 + l))) (mi 4 (mi co ((f : Int) * 3 + l))) (mi st ((f : Int) * 3 + l)) (mi so ((f : Int) * 3 + l))) (fSo h (mi 3 (mi co ((f : Int) * 3 + l))) (mi 4 (mi co ((f : Int) * 3 + l))) (mi st ((f : Int) * 3 + l)) (mi so ((f : Int) * 3 + l))) (fGv h lg (mi 3 (mi co ((f : Int) * 3 + l))) (mi 4 (mi co ((f : Int) * 3 + l))) (mi st ((f : Int) * 3 + l))) (fdS h lg (mi 3 (mi co ((f : Int) * 3 + l))) (mi 4 (mi co ((f : Int) * 3 + l))) (mi st ((f : Int) * 3 + l))) (fdB h (mi 4 (mi co ((f : Int) * 3 + l))) (mi st ((f : Int) * 3 + l))) (fdD h (mi 15 1) (mi 3 (mi co ((f : Int) * 3 + l))) (mi 4 (mi co ((f : Int) * 3 + l))) (mi st ((f : Int) * 3 + l)) (mi so ((f : Int) * 3 + l)))) : hI sz co st so cr r h lg m f ((l : Int) + 1) m' := by
  have hpn := hp.n
  obtain ⟨i1, i2, i3, i4, i5, i6, i7⟩ := hi
  have hz := (wP.1 f (by omega) hf).1
  have hL := wP.2 f l (by omega) hf (by omega) hl
  have hA := aP.2.1 f l (by omega) hf (by omega) hl
  have hc1 : mi co ((f : Int) * 3 + l) = coR r f l := by rw [i1 co _ (by omega) (by omega) (by omega) (by omega)]; exact hA.1
  have hcc := aC.2 (coR r f l) hL.1.1 hL.1.2
  have hM : mi 3 (coR r f l) = meR r (coR r f l) := by rw [i1 3 _ (by omega) (by omega) (by omega) (by omega)]; exact hcc.1
  have hB : mi 4 (coR r f l) = buR r (coR r f l) := by rw [i1 4 _ (by omega) (by omega) (by omega) (by omega)]; exact hcc.2.1
  have ha : mi 15 1 = r 115 := by rw [i1 15 _ (by omega) (by omega) (by omega) (by omega)]; exact aS.1 1 (by omega) (by omega)
  have h4 := (i4 f l (by omega) hf (by omega) hl).2 (by omega)
  rw [hc1, hM, hB, ha, h4.1, h4.2] at e
  have e' : m' = hlM mi st so ((f : Int) * 3 + l) (spS r h lg f l) (spO r h f l) (spG r h lg f l) (spU r h lg f l) (spB r h f l) (spD r h f l) := e
  clear e
  have t1 : ((l : Int) + 1).toNat = l + 1 := by omega
  have t0 : ((l : Int)).toNat = l := by omega
  refine ⟨fun k j a b c d => ?_, ?_, ?_, fun x y x0 x7 y0 yl => ⟨fun hd => ?_, fun hd => ?_⟩, ?_, ?_, ?_⟩
  · rw [e', ← i1 k j a b c d]; simp [hlM, a, b, c, d]
  · rw [e', ← i2]; simp (disch := omega) only [hlM, if_neg]
  · rw [e', ← i3]; simp (disch := omega) only [hlM, if_neg]
  · by_cases hxy : x = f ∧ y = l
    · obtain ⟨rfl, rfl⟩ := hxy
      rw [e']
      refine ⟨?_, ?_, ?_⟩ <;> simp (disch := omega) only [hlM, if_pos, if_neg, and_self, if_true]
    · have h5 := (i4 x y x0 x7 y0 yl).1 (by omega)
      have hz2 := (wP.1 x x0 x7).1
      have hne : ¬ x * 3 + y = (f : Int) * 3 + l := by omega
      rw [e']
      refine ⟨?_, ?_, ?_⟩ <;> simp (disch := omega) only [hlM, if_neg]
      · exact h5.1
      · exact h5.2.1
      · exact h5.2.2
  · have h5 := (i4 x y x0 x7 y0 yl).2 (by omega)
    have hz2 := (wP.1 x x0 x7).1
    have hne : ¬ x * 3 + y = (f : Int) * 3 + l := by omega
    rw [e']
    refine ⟨?_, ?_⟩ <;> simp (disch := omega) only [hlM, if_neg]
    · exact h5.1
    · exact h5.2
  · rw [t1, sumL_succ, e']; simp (disch := omega) only [hlM, if_pos, if_neg, and_self, if_true]; rw [i5, t0, Int.add_assoc]
  · rw [t1, sumL_succ, e']; simp (disch := omega) only [hlM, if_pos, if_neg, and_self, if_true]; rw [i6, t0, Int.add_assoc]
  · rw [t1, sumL_succ, e']; simp (disch := omega) only [hlM, if_pos, if_neg, and_self, if_true]; rw [i7, t0, Int.add_assoc]

def agC' (r : Int → Int) (m : AM) : Prop := agC 2 3 4 5 r m ∧ agS 15 16 r m
theorem sumF_succ (r : Int → Int) (g : Int → Int → Int) (f : Nat) : sumF r g (f + 1) = sumF r g f + sumL (g f) (szR r f).toNat := rfl
theorem hI_next {sz co st so cr : Nat} {r : Int → Int} {h lg : Int} {m mi : AM} {f : Nat} (wP : wfP r) (hf : (f : Int) < 7) (hi : hI sz co st so cr r h lg m f (szR r f) mi) : hI sz co st so cr r h lg m ((f : Int) + 1) 0 mi := by
  obtain ⟨i1, i2, i3, i4, i5, i6, i7⟩ := hi
  have t1 : ((f : Int) + 1).toNat = f + 1 := by omega
  have t0 : ((f : Int)).toNat = f := by omega
  refine ⟨i1, i2, i3, fun x y x0 x7 y0 yl => ⟨fun hd => (i4 x y x0 x7 y0 yl).1 ?_, fun hd => (i4 x y x0 x7 y0 yl).2 ?_⟩, ?_, ?_, ?_⟩
  · rcases (by omega : x < (f : Int) ∨ x = (f : Int)) with z | z
    · exact Or.inl z
    · exact Or.inr ⟨z, by rw [← z]; exact yl⟩
  · intro z
    omega
  · rw [i5, t1, t0, sumF_succ]; exact (Int.add_zero _).symm
  · rw [i6, t1, t0, sumF_succ]; exact (Int.add_zero _).symm
  · rw [i7, t1, t0, sumF_succ]; exact (Int.add_zero _).symm

