
def rup (r : Int → Int) (i v : Int) : Int → Int := fun j => if j = i then v else r j
theorem rup_same {r : Int → Int} {i v : Int} : rup r i v i = v := if_pos rfl
theorem rup_ne {r : Int → Int} {i j v : Int} (h : j ≠ i) : rup r i v j = r j := if_neg h
theorem am_row {m : AM} {k : Nat} {i v j : Int} : am_up m k i v k j = rup (m k) i v j := by
  unfold am_up rup
  by_cases h : j = i
  · rw [if_pos ⟨rfl, h⟩, if_pos h]
  · rw [if_neg (fun z => h z.2), if_neg h]
theorem agC_frame {q me bu ex : Nat} {r r' : Int → Int} {m m' : AM} (hr : ∀ j : Int, 0 ≤ j → j < 37 → r' j = r j) (hm : ∀ (k : Nat) (j : Int), (k = q ∨ k = me ∨ k = bu ∨ k = ex) → m' k j = m k j) (h12 : r 0 ≤ 12) (g : agC q me bu ex r m) : agC q me bu ex r' m' := by
  refine ⟨by rw [hm _ _ (by omega), hr 0 (by omega) (by omega)]; exact g.1, fun c c0 c1 => ?_⟩
  rw [hr 0 (by omega) (by omega)] at c1
  simp only [meR, buR, exR]
  rw [hm _ _ (by omega), hm _ _ (by omega), hm _ _ (by omega), hr _ (by omega) (by omega), hr _ (by omega) (by omega), hr _ (by omega) (by omega)]
  exact g.2 c c0 c1
theorem agP_frame {sz co st so cr : Nat} {r r' : Int → Int} {m m' : AM} (hr : ∀ j : Int, 37 ≤ j → j < 114 → r' j = r j) (hm : ∀ (k : Nat) (j : Int), (k = sz ∨ k = co ∨ k = st ∨ k = so ∨ k = cr) → m' k j = m k j) (h3 : ∀ f : Int, 0 ≤ f → f < 7 → szR r f ≤ 3) (g : agP sz co st so cr r m) : agP sz co st so cr r' m' := by
  have hz : ∀ f : Int, 0 ≤ f → f < 7 → szR r' f = szR r f := fun f a b => hr _ (by omega) (by omega)
  refine ⟨fun f a b => ?_, fun f l a b c d => ?_, fun f a b => ?_⟩
  · rw [hm _ _ (by omega), hz f a b]; exact g.1 f a b
  · rw [hz f a b] at d
    have h4 := h3 f a b
    simp only [coR, stR, soR]
    rw [hm _ _ (by omega), hm _ _ (by omega), hm _ _ (by omega), hr _ (by omega) (by omega), hr _ (by omega) (by omega), hr _ (by omega) (by omega)]
    exact g.2.1 f l a b c d
  · simp only [crR]
    rw [hm _ _ (by omega), hr _ (by omega) (by omega)]; exact g.2.2 f a b
theorem agS_frame {s a : Nat} {r r' : Int → Int} {m m' : AM} (hr : ∀ j : Int, 114 ≤ j → j < 126 → r' j = r j) (hm : ∀ (k : Nat) (j : Int), (k = s ∨ k = a) → m' k j = m k j) (g : agS s a r m) : agS s a r' m' := by
  refine ⟨fun k x y => ?_, fun k x y => ?_⟩
  · rw [hm _ _ (by omega), hr _ (by omega) (by omega)]; exact g.1 k x y
  · rw [hm _ _ (by omega), hr _ (by omega) (by omega)]; exact g.2 k x y
theorem agW_frame {n c : Nat} {r r' : Int → Int} {m m' : AM} (hr : ∀ j : Int, 126 ≤ j → j < 150 → r' j = r j) (hm : ∀ (k : Nat) (j : Int), (k = n ∨ k = c) → m' k j = m k j) (h3 : ∀ f : Int, 0 ≤ f → f < 6 → r (126 + 4 * f) ≤ 3) (g : agW n c r m) : agW n c r' m' := by
  intro f a b
  have h4 := h3 f a b
  refine ⟨?_, fun k x y => ?_⟩
  · rw [hm _ _ (by omega), hr _ (by omega) (by omega)]; exact (g f a b).1
  · rw [hr (126 + 4 * f) (by omega) (by omega)] at y
    rw [hm _ _ (by omega), hr _ (by omega) (by omega)]; exact (g f a b).2 k x y
theorem wfC_frame {r r' : Int → Int} (hr : ∀ j : Int, 0 ≤ j → j < 37 → r' j = r j) (w : wfC r) : wfC r' := by
  have h12 := w.1
  refine ⟨by rw [hr 0 (by omega) (by omega)]; exact w.1, fun c c0 c1 => ?_⟩
  rw [hr 0 (by omega) (by omega)] at c1
  simp only [meR, buR, exR]
  rw [hr _ (by omega) (by omega), hr _ (by omega) (by omega), hr _ (by omega) (by omega)]
  exact w.2 c c0 c1
theorem wfP_frame {r r' : Int → Int} (hr : ∀ j : Int, 37 ≤ j → j < 114 → r' j = r j) (h0 : r 0 ≤ r' 0) (h17 : r 117 ≤ r' 117) (w : wfP r) : wfP r' := by
  have hz : ∀ f : Int, 0 ≤ f → f < 7 → szR r' f = szR r f := fun f a b => hr _ (by omega) (by omega)
  refine ⟨fun f a b => ?_, fun f l a b c d => ?_⟩
  · rw [hz f a b]; simp only [crR]; rw [hr _ (by omega) (by omega)]; exact w.1 f a b
  · rw [hz f a b] at d ⊢
    have h4 := (w.1 f a b).1
    have h5 := w.2 f l a b c d
    have e0 : coR r' f l = coR r f l := hr _ (by omega) (by omega)
    have e1 : stR r' f l = stR r f l := hr _ (by omega) (by omega)
    have e2 : soR r' f l = soR r f l := hr _ (by omega) (by omega)
    rw [e0, e1, e2]
    exact ⟨⟨h5.1.1, by omega⟩, h5.2.1, ⟨h5.2.2.1.1, by omega⟩, fun q => by
      have e3 : stR r' f (l + 1) = stR r f (l + 1) := hr _ (by omega) (by omega)
      first | exact h5.2.2.2 q | (rw [e3]; exact h5.2.2.2 q)⟩
theorem wfS_frame {r r' : Int → Int} (hr : ∀ j : Int, 114 ≤ j → j < 118 → r' j = r j) (hc : r' 104 = r 104) (w : wfS r) : wfS r' := by
  obtain ⟨a, b, c, d, e⟩ := w
  refine ⟨?_, ?_, ?_, ?_, ?_⟩
  · rw [hr 114 (by omega) (by omega)]; exact a
  · rw [hr 115 (by omega) (by omega)]; exact b
  · rw [hr 116 (by omega) (by omega)]; exact c
  · rw [hr 117 (by omega) (by omega)]; exact d
  · exact hc.trans e
theorem wfW_frame {r r' : Int → Int} (hr : ∀ j : Int, 126 ≤ j → j < 150 → r' j = r j) (h0 : r 0 ≤ r' 0) (w : wfW r) : wfW r' := by
  intro f a b
  have h1 := w f a b
  refine ⟨by rw [hr _ (by omega) (by omega)]; exact h1.1, fun k x y => ?_⟩
  rw [hr (126 + 4 * f) (by omega) (by omega)] at y
  rw [hr _ (by omega) (by omega)]
  have := h1.2 k x y
  omega
/-! what each change does to the row, and when -/
def okColor (r : Int → Int) (a b c : Int) : Prop := ((600 ≤ a ∧ a ≤ 900) ∧ (a + 10 ≤ b ∧ b ≤ a + 200) ∧ 60 ≤ c ∧ c ≤ 160) ∧ r 0 < 12
def rColor (r : Int → Int) (a b c : Int) : Int → Int := rup (rup (rup (rup r (1 + 3 * r 0) a) (1 + 3 * r 0 + 1) b) (1 + 3 * r 0 + 2) c) 0 (r 0 + 1)
def vColor (r : Int → Int) (a b c : Int) : Int := if (600 ≤ a ∧ a ≤ 900) ∧ (a + 10 ≤ b ∧ b ≤ a + 200) ∧ 60 ≤ c ∧ c ≤ 160 then (if r 0 < 12 then r 0 else -3) else -1
def rawR (r : Int → Int) (f : Int) : Prop := 0 < szR r f ∧ stR r f (szR r f - 1) = 0
def okPut (r : Int → Int) (f c : Int) : Prop := (0 ≤ f ∧ f ≤ 6) ∧ (0 ≤ c ∧ c < r 0) ∧ ¬ rawR r f ∧ szR r f < 3
def rPut (r : Int → Int) (f c : Int) : Int → Int := rup (rup (rup (rup (rup r (37 + 11 * f + 2 + 3 * szR r f) c) (37 + 11 * f + 2 + 3 * szR r f + 1) 0) (37 + 11 * f + 2 + 3 * szR r f + 2) 0) (37 + 11 * f) (szR r f + 1)) 119 (r 119 + 1)
def isPutV (r : Int → Int) (f c v : Int) : Prop := (okPut r f c → v = szR r f) ∧ (¬ ((0 ≤ f ∧ f ≤ 6) ∧ 0 ≤ c ∧ c < r 0) → v = -1) ∧ (((0 ≤ f ∧ f ≤ 6) ∧ 0 ≤ c ∧ c < r 0) → rawR r f → v = -2) ∧ (((0 ≤ f ∧ f ≤ 6) ∧ 0 ≤ c ∧ c < r 0) → ¬ rawR r f → ¬ szR r f < 3 → v = -3)
theorem raw_cnt {r : Int → Int} (wR : wfR r) {f : Int} (f0 : 0 ≤ f) (f7 : f < 7) : 0 < cntR r f 0 0 ↔ rawR r f := by
  rw [cnt_pos.2]
  have hz := (wR.2.1.1 f f0 f7).1
  refine ⟨fun ⟨l, a, b, c, d⟩ => ⟨by omega, ?_⟩, fun ⟨a, b⟩ => ⟨szR r f - 1, by omega, by omega, by omega, by omega⟩⟩
  have h1 := (wR.2.1.2 f l f0 f7 a b).2.2.2
  by_cases e : l + 1 < szR r f
  · exact absurd (by omega) (h1 e)
  · have e2 : szR r f - 1 = l := by omega
    rw [e2]; omega
def okTake (r : Int → Int) (f : Int) : Prop := (0 ≤ f ∧ f ≤ 6) ∧ rawR r f
def rTake (r : Int → Int) (f : Int) : Int → Int := rup (rup r (37 + 11 * f) (szR r f - 1)) 120 (r 120 + 1)
def okSet (w v : Int) : Prop := (w = 0 ∧ 1 ≤ v ∧ v ≤ 10) ∨ (w = 1 ∧ 0 ≤ v ∧ v ≤ 5) ∨ (w = 2 ∧ 0 ≤ v ∧ v ≤ 400)
def rSet (r : Int → Int) (w v : Int) : Int → Int := rup r (114 + w) v
/-- a row behind the cleaning -/
def isClean (r r' : Int → Int) : Prop := (∀ j : Int, (j < 37 ∨ (114 ≤ j ∧ j ≠ 119 ∧ j ≠ 120)) → r' j = r j) ∧ r' 119 = 0 ∧ r' 120 = 0 ∧ ∀ f : Int, 0 ≤ f → f < 7 → szR r' f = 0 ∧ crR r' f = 0
def okWish (r : Int → Int) (f c : Int) : Prop := (0 ≤ f ∧ f ≤ 5) ∧ (c = -1 ∨ ((0 ≤ c ∧ c < r 0) ∧ r (126 + 4 * f) < 3))
def rWish (r : Int → Int) (f c : Int) : Int → Int := if c = -1 then rup r (126 + 4 * f) 0 else rup (rup r (126 + 4 * f + 1 + r (126 + 4 * f)) c) (126 + 4 * f) (r (126 + 4 * f) + 1)
/-- what a change of the class leaves: the history, and all that is not the bench's -/
def cOK (p n : Int) (H : Int → Int → Int) (r : Int → Int) (m m' : AM) : Prop := HC (min (n + 1) 4) (hH n H r) m' ∧ (∀ (k : Nat) (j : Int), 85 ≤ k → m' k j = m k j) ∧ m' 0 6 = p
theorem HC_frame {n : Int} {H : Int → Int → Int} {m m' : AM} (h : ∀ (k : Nat) (j : Int), 17 ≤ k → k < 83 → m' k j = m k j) (g : HC n H m) : HC n H m' := by
  obtain ⟨a, b, c, d⟩ := g
  refine ⟨by rw [h 17 2 (by omega) (by omega)]; exact a, b, by rw [h 17 1 (by omega) (by omega)]; exact c, fun k x y => ?_⟩
  rw [h 17 1 (by omega) (by omega)]
  exact agB_frame (fun i j p q => h i j (by unfold ringB at p; omega) (by unfold ringB at q; omega)) (d k x y)

/-! each change: the class's cells behind it hold what the row behind it says -/
theorem gColor {r : Int → Int} {m : AM} {a b c : Int} (wR : wfR r) (g : agB 1 r m) (hlt : r 0 < 12) : agB 1 (rColor r a b c) (am_up (am_up (am_up (am_up m 3 (r 0) a) 4 (r 0) b) 5 (r 0) c) 2 3 (r 0 + 1)) := by
  obtain ⟨gC, gP, gS, gW⟩ := ag1 g
  have h12 := wR.1.1
  have h3 : ∀ f : Int, 0 ≤ f → f < 7 → szR r f ≤ 3 := fun f p q => (wR.2.1.1 f p q).1.2
  have h3w : ∀ f : Int, 0 ≤ f → f < 6 → r (126 + 4 * f) ≤ 3 := fun f p q => (wR.2.2.2 f p q).1.2
  
  refine ⟨⟨?_, fun x x0 x1 => ?_⟩, agP_frame (fun j p q => ?_) (fun k j hk => ?_) h3 gP, agS_frame (fun j p q => ?_) (fun k j hk => ?_) gS, agW_frame (fun j p q => ?_) (fun k j hk => ?_) h3w gW⟩
  · show am_up _ 2 3 _ 2 3 = rColor r a b c 0
    rw [am_same]; unfold rColor; rw [rup_same]
  · have e0 : rColor r a b c 0 = r 0 + 1 := by unfold rColor; rw [rup_same]
    rw [e0] at x1
    simp only [meR, buR, exR, rColor]
    show am_up _ 2 3 _ 3 x = _ ∧ am_up _ 2 3 _ 4 x = _ ∧ am_up _ 2 3 _ 5 x = _
    by_cases e : x = r 0
    · subst e
      simp (disch := omega) only [am_same, am_k, am_j, rup_same, rup_ne, and_self]
    · simp (disch := omega) only [am_same, am_k, am_j, rup_same, rup_ne]
      exact gC.2 x x0 (by omega)
  · unfold rColor; (try split) <;> simp (disch := omega) only [szR, rup_ne]
  · simp (disch := omega) only [am_k, am_j]
  · unfold rColor; (try split) <;> simp (disch := omega) only [szR, rup_ne]
  · simp (disch := omega) only [am_k, am_j]
  · unfold rColor; (try split) <;> simp (disch := omega) only [szR, rup_ne]
  · simp (disch := omega) only [am_k, am_j]
theorem gPut {r : Int → Int} {m : AM} {f c : Int} (wR : wfR r) (g : agB 1 r m) (f0 : 0 ≤ f) (f7 : f < 7) (hz : szR r f < 3) : agB 1 (rPut r f c) (am_up (am_up (am_up (am_up (am_up m 16 2 (r 119 + 1)) 8 (f * 3 + szR r f) c) 9 (f * 3 + szR r f) 0) 10 (f * 3 + szR r f) 0) 7 f (szR r f + 1)) := by
  obtain ⟨gC, gP, gS, gW⟩ := ag1 g
  have h12 := wR.1.1
  have h3 : ∀ f : Int, 0 ≤ f → f < 7 → szR r f ≤ 3 := fun f p q => (wR.2.1.1 f p q).1.2
  have h3w : ∀ f : Int, 0 ≤ f → f < 6 → r (126 + 4 * f) ≤ 3 := fun f p q => (wR.2.2.2 f p q).1.2
  have hz0 := (wR.2.1.1 f f0 f7).1
  simp only [szR] at hz hz0
  refine ⟨agC_frame (fun j p q => ?_) (fun k j hk => ?_) h12.2 gC, ⟨fun x x0 x7 => ?_, fun x y x0 x7 y0 y1 => ?_, fun x x0 x6 => ?_⟩, ⟨fun k k0 k3 => ?_, fun k k0 k9 => ?_⟩, agW_frame (fun j p q => ?_) (fun k j hk => ?_) h3w gW⟩
  · unfold rPut; (try split) <;> simp (disch := omega) only [szR, rup_ne]
  · simp (disch := omega) only [am_k, am_j]
  · show am_up _ 7 f _ 7 x = _
    by_cases e : x = f
    · subst e
      unfold rPut; simp (disch := omega) only [szR, am_same, rup_same, rup_ne]
    · unfold rPut; simp (disch := omega) only [szR, am_same, am_k, am_j, rup_same, rup_ne]
      exact gP.1 x x0 x7
  · have hzx := (wR.2.1.1 x x0 x7).1
    simp only [szR] at hzx
    show am_up _ 7 f _ 8 (x * 3 + y) = _ ∧ am_up _ 7 f _ 9 (x * 3 + y) = _ ∧ am_up _ 7 f _ 10 (x * 3 + y) = _
    by_cases e : x = f
    · subst e
      have e0 : szR (rPut r x c) x = szR r x + 1 := by unfold rPut; simp (disch := omega) only [szR, rup_same, rup_ne]
      rw [e0] at y1
      simp only [szR] at y1
      by_cases ey : y = r (37 + 11 * x)
      · subst ey
        unfold rPut; simp (disch := omega) only [szR, coR, stR, soR, am_same, am_k, am_j, rup_same, rup_ne, Int.add_zero, and_self]
      · have hh := gP.2.1 x y x0 x7 y0 (by simp only [szR]; omega)
        unfold rPut; simp (disch := omega) only [szR, coR, stR, soR, am_same, am_k, am_j, rup_same, rup_ne]
        exact hh
    · have e0 : szR (rPut r f c) x = szR r x := by unfold rPut; simp (disch := omega) only [szR, rup_same, rup_ne]
      rw [e0] at y1
      have hh := gP.2.1 x y x0 x7 y0 y1
      simp only [szR] at y1
      unfold rPut; simp (disch := omega) only [szR, coR, stR, soR, am_same, am_k, am_j, rup_same, rup_ne]
      exact hh
  · show am_up _ 7 f _ 11 x = _
    unfold rPut; simp (disch := omega) only [szR, crR, am_k, rup_ne]
    exact gP.2.2 x x0 x6
  · show am_up _ 7 f _ 15 k = _
    unfold rPut; simp (disch := omega) only [szR, am_k, rup_ne]
    exact gS.1 k k0 k3
  · show am_up _ 7 f _ 16 k = _
    by_cases e : k = 2
    · subst e
      unfold rPut; simp (disch := omega) only [am_same, am_k, rup_same]
      show _ = rup _ 119 _ 119
      rw [rup_same]
    · unfold rPut; simp (disch := omega) only [szR, am_same, am_k, am_j, rup_ne]
      exact gS.2 k k0 k9
  · unfold rPut; (try split) <;> simp (disch := omega) only [szR, rup_ne]
  · simp (disch := omega) only [am_k, am_j]
theorem gTake {r : Int → Int} {m : AM} {f : Int} (wR : wfR r) (g : agB 1 r m) (f0 : 0 ≤ f) (f7 : f < 7) (hz : 1 ≤ szR r f) : agB 1 (rTake r f) (am_up (am_up m 16 3 (r 120 + 1)) 7 f (szR r f - 1)) := by
  obtain ⟨gC, gP, gS, gW⟩ := ag1 g
  have h12 := wR.1.1
  have h3 : ∀ f : Int, 0 ≤ f → f < 7 → szR r f ≤ 3 := fun f p q => (wR.2.1.1 f p q).1.2
  have h3w : ∀ f : Int, 0 ≤ f → f < 6 → r (126 + 4 * f) ≤ 3 := fun f p q => (wR.2.2.2 f p q).1.2
  have hz0 := (wR.2.1.1 f f0 f7).1
  simp only [szR] at hz hz0
  refine ⟨agC_frame (fun j p q => ?_) (fun k j hk => ?_) h12.2 gC, ⟨fun x x0 x7 => ?_, fun x y x0 x7 y0 y1 => ?_, fun x x0 x6 => ?_⟩, ⟨fun k k0 k3 => ?_, fun k k0 k9 => ?_⟩, agW_frame (fun j p q => ?_) (fun k j hk => ?_) h3w gW⟩
  · unfold rTake; (try split) <;> simp (disch := omega) only [szR, rup_ne]
  · simp (disch := omega) only [am_k, am_j]
  · show am_up _ 7 f _ 7 x = _
    by_cases e : x = f
    · subst e
      unfold rTake; simp (disch := omega) only [szR, am_same, rup_same, rup_ne]
    · unfold rTake; simp (disch := omega) only [szR, am_same, am_k, am_j, rup_same, rup_ne]
      exact gP.1 x x0 x7
  · have hzx := (wR.2.1.1 x x0 x7).1
    simp only [szR] at hzx
    show am_up _ 7 f _ 8 (x * 3 + y) = _ ∧ am_up _ 7 f _ 9 (x * 3 + y) = _ ∧ am_up _ 7 f _ 10 (x * 3 + y) = _
    have y2 : y < szR r x := by
      by_cases e : x = f
      · subst e
        have e0 : szR (rTake r x) x = szR r x - 1 := by unfold rTake; simp (disch := omega) only [szR, rup_same, rup_ne]
        rw [e0] at y1
        omega
      · have e0 : szR (rTake r f) x = szR r x := by unfold rTake; simp (disch := omega) only [szR, rup_same, rup_ne]
        rw [e0] at y1
        exact y1
    have hh := gP.2.1 x y x0 x7 y0 y2
    simp only [szR] at y2
    unfold rTake; simp (disch := omega) only [szR, coR, stR, soR, am_same, am_k, am_j, rup_same, rup_ne]
    exact hh
  · show am_up _ 7 f _ 11 x = _
    unfold rTake; simp (disch := omega) only [szR, crR, am_k, rup_ne]
    exact gP.2.2 x x0 x6
  · show am_up _ 7 f _ 15 k = _
    unfold rTake; simp (disch := omega) only [szR, am_k, rup_ne]
    exact gS.1 k k0 k3
  · show am_up _ 7 f _ 16 k = _
    by_cases e : k = 3
    · subst e
      unfold rTake; simp (disch := omega) only [am_same, am_k, rup_same]
      show _ = rup _ 120 _ 120
      rw [rup_same]
    · unfold rTake; simp (disch := omega) only [szR, am_same, am_k, am_j, rup_ne]
      exact gS.2 k k0 k9
  · unfold rTake; (try split) <;> simp (disch := omega) only [szR, rup_ne]
  · simp (disch := omega) only [am_k, am_j]
theorem gSet {r : Int → Int} {m : AM} {w v : Int} (wR : wfR r) (g : agB 1 r m) (w0 : 0 ≤ w) (w3 : w < 3) : agB 1 (rSet r w v) (am_up m 15 w v) := by
  obtain ⟨gC, gP, gS, gW⟩ := ag1 g
  have h12 := wR.1.1
  have h3 : ∀ f : Int, 0 ≤ f → f < 7 → szR r f ≤ 3 := fun f p q => (wR.2.1.1 f p q).1.2
  have h3w : ∀ f : Int, 0 ≤ f → f < 6 → r (126 + 4 * f) ≤ 3 := fun f p q => (wR.2.2.2 f p q).1.2
  
  refine ⟨agC_frame (fun j p q => ?_) (fun k j hk => ?_) h12.2 gC, agP_frame (fun j p q => ?_) (fun k j hk => ?_) h3 gP, ⟨fun k k0 k3 => ?_, fun k k0 k9 => ?_⟩, agW_frame (fun j p q => ?_) (fun k j hk => ?_) h3w gW⟩
  · unfold rSet; (try split) <;> simp (disch := omega) only [szR, rup_ne]
  · simp (disch := omega) only [am_k, am_j]
  · unfold rSet; (try split) <;> simp (disch := omega) only [szR, rup_ne]
  · simp (disch := omega) only [am_k, am_j]
  · show am_up _ 15 w _ 15 k = _
    by_cases e : k = w
    · subst e
      unfold rSet; simp (disch := omega) only [am_same, rup_same]
    · unfold rSet; simp (disch := omega) only [am_j, rup_ne]
      exact gS.1 k k0 k3
  · show am_up _ 15 w _ 16 k = _
    unfold rSet; simp (disch := omega) only [am_k, rup_ne]
    exact gS.2 k k0 k9
  · unfold rSet; (try split) <;> simp (disch := omega) only [szR, rup_ne]
  · simp (disch := omega) only [am_k, am_j]
theorem gWish0 {r : Int → Int} {m : AM} {f : Int} {p : Int} (wR : wfR r) (g : agB 1 r m) (f0 : 0 ≤ f) (f6 : f < 6) : agB 1 (rWish r f (-1)) (am_up (am_up m 0 6 p) 13 f 0) := by
  obtain ⟨gC, gP, gS, gW⟩ := ag1 g
  have h12 := wR.1.1
  have h3 : ∀ f : Int, 0 ≤ f → f < 7 → szR r f ≤ 3 := fun f p q => (wR.2.1.1 f p q).1.2
  have h3w : ∀ f : Int, 0 ≤ f → f < 6 → r (126 + 4 * f) ≤ 3 := fun f p q => (wR.2.2.2 f p q).1.2
  
  refine ⟨agC_frame (fun j p q => ?_) (fun k j hk => ?_) h12.2 gC, agP_frame (fun j p q => ?_) (fun k j hk => ?_) h3 gP, agS_frame (fun j p q => ?_) (fun k j hk => ?_) gS, fun x x0 x6 => ?_⟩
  · unfold rWish; (try split) <;> simp (disch := omega) only [szR, rup_ne]
  · simp (disch := omega) only [am_k, am_j]
  · unfold rWish; (try split) <;> simp (disch := omega) only [szR, rup_ne]
  · simp (disch := omega) only [am_k, am_j]
  · unfold rWish; (try split) <;> simp (disch := omega) only [szR, rup_ne]
  · simp (disch := omega) only [am_k, am_j]
  · have hw := (wR.2.2.2 x x0 x6).1
    show am_up _ 13 f _ 13 x = _ ∧ ∀ k : Int, 0 ≤ k → k < rWish r f (-1) (126 + 4 * x) → am_up _ 13 f _ 14 (x * 3 + k) = _
    unfold rWish; rw [if_pos rfl]
    by_cases e : x = f
    · subst e
      refine ⟨by rw [am_same, rup_same], fun k k0 k1 => ?_⟩
      rw [rup_same] at k1; omega
    · refine ⟨by simp (disch := omega) only [am_k, am_j, rup_ne]; exact (gW x x0 x6).1, fun k k0 k1 => ?_⟩
      rw [rup_ne (by omega)] at k1
      simp (disch := omega) only [am_k, am_j, rup_ne]
      exact (gW x x0 x6).2 k k0 k1
theorem gWish1 {r : Int → Int} {m : AM} {f c : Int} {p : Int} (wR : wfR r) (g : agB 1 r m) (f0 : 0 ≤ f) (f6 : f < 6) (c0 : 0 ≤ c) (hz : r (126 + 4 * f) < 3) : agB 1 (rWish r f c) (am_up (am_up (am_up m 0 6 p) 14 (f * 3 + r (126 + 4 * f)) c) 13 f (r (126 + 4 * f) + 1)) := by
  obtain ⟨gC, gP, gS, gW⟩ := ag1 g
  have h12 := wR.1.1
  have h3 : ∀ f : Int, 0 ≤ f → f < 7 → szR r f ≤ 3 := fun f p q => (wR.2.1.1 f p q).1.2
  have h3w : ∀ f : Int, 0 ≤ f → f < 6 → r (126 + 4 * f) ≤ 3 := fun f p q => (wR.2.2.2 f p q).1.2
  have hz0 := (wR.2.2.2 f f0 f6).1
  refine ⟨agC_frame (fun j p q => ?_) (fun k j hk => ?_) h12.2 gC, agP_frame (fun j p q => ?_) (fun k j hk => ?_) h3 gP, agS_frame (fun j p q => ?_) (fun k j hk => ?_) gS, fun x x0 x6 => ?_⟩
  · unfold rWish; (try split) <;> simp (disch := omega) only [szR, rup_ne]
  · simp (disch := omega) only [am_k, am_j]
  · unfold rWish; (try split) <;> simp (disch := omega) only [szR, rup_ne]
  · simp (disch := omega) only [am_k, am_j]
  · unfold rWish; (try split) <;> simp (disch := omega) only [szR, rup_ne]
  · simp (disch := omega) only [am_k, am_j]
  · have hw := (wR.2.2.2 x x0 x6).1
    show am_up _ 13 f _ 13 x = _ ∧ ∀ k : Int, 0 ≤ k → k < rWish r f c (126 + 4 * x) → am_up _ 13 f _ 14 (x * 3 + k) = _
    unfold rWish; rw [if_neg (by omega)]
    by_cases e : x = f
    · subst e
      refine ⟨by rw [am_same, rup_same], fun k k0 k1 => ?_⟩
      rw [rup_same] at k1
      by_cases ek : k = r (126 + 4 * x)
      · subst ek
        simp (disch := omega) only [am_same, am_k, rup_same, rup_ne]
      · simp (disch := omega) only [am_same, am_k, am_j, rup_same, rup_ne]
        exact (gW x x0 x6).2 k k0 (by omega)
    · refine ⟨by simp (disch := omega) only [am_k, am_j, rup_ne]; exact (gW x x0 x6).1, fun k k0 k1 => ?_⟩
      rw [rup_ne (by omega), rup_ne (by omega)] at k1
      simp (disch := omega) only [am_k, am_j, rup_ne]
      exact (gW x x0 x6).2 k k0 k1

theorem gClean {r r' : Int → Int} {m m1 : AM} (wR : wfR r) (g : agB 1 r m) (h7 : ∀ x : Int, 0 ≤ x → x < 7 → m1 7 x = 0) (h11 : ∀ x : Int, 0 ≤ x → x < 6 → m1 11 x = 0) (h2 : m1 16 2 = 0) (h3' : m1 16 3 = 0) (hf : ∀ (k : Nat) (j : Int), k ≠ 7 → k ≠ 11 → (k = 16 → j ≠ 2 ∧ j ≠ 3) → m1 k j = m k j) (hc : isClean r r') : agB 1 r' m1 := by
  obtain ⟨gC, gP, gS, gW⟩ := ag1 g
  have h12 := wR.1.1
  have h3w : ∀ f : Int, 0 ≤ f → f < 6 → r (126 + 4 * f) ≤ 3 := fun f p q => (wR.2.2.2 f p q).1.2
  obtain ⟨c1, c2, c3, c4⟩ := hc
  refine ⟨agC_frame (fun j p q => c1 j (by omega)) (fun k j hk => hf k j (by omega) (by omega) (by omega)) h12.2 gC, ⟨fun x x0 x7 => ?_, fun x y x0 x7 y0 y1 => ?_, fun x x0 x6 => ?_⟩, ⟨fun k k0 k3 => ?_, fun k k0 k9 => ?_⟩, agW_frame (fun j p q => c1 j (by omega)) (fun k j hk => hf k j (by omega) (by omega) (by omega)) h3w gW⟩
  · rw [(c4 x x0 x7).1]; exact h7 x x0 x7
  · rw [(c4 x x0 x7).1] at y1; omega
  · rw [(c4 x x0 (by omega)).2]; exact h11 x x0 x6
  · rw [c1 _ (by omega)]; show m1 15 k = _; rw [hf 15 k (by omega) (by omega) (by omega)]; exact gS.1 k k0 k3
  · show m1 16 k = _
    by_cases e : k = 2
    · subst e; rw [h2]; exact c2.symm
    · by_cases e3 : k = 3
      · subst e3; rw [h3']; exact c3.symm
      · rw [c1 _ (by omega), hf 16 k (by omega) (by omega) (by omega)]; exact gS.2 k k0 k9
theorem gFire {r r' : Int → Int} {m m1 m2 : AM} {h lg mn : Int} (wR : wfR r) (g : agB 1 r m) (hc : cI 7 8 9 10 11 r h lg m 6 m1) (hf : ∀ (k : Nat) (j : Int), k ≠ 16 → m2 k j = m1 k j) (ha : ∀ k : Int, 0 ≤ k → k < 9 → m2 16 k = (if k = 0 then r 117 + 1 else if k = 1 then r 118 + mn else if k = 4 then r 121 + m1 83 1 else if k = 5 then r 122 + m1 83 3 else if k = 6 then r 123 + m1 83 2 else if k = 7 then r 124 + m1 83 4 else if k = 8 then r 125 + m1 83 5 else r (117 + k))) (hx : isFire r h lg mn r') : agB 1 r' m2 := by
  obtain ⟨gC, gP, gS, gW⟩ := ag1 g
  have h12 := wR.1.1
  have h3w : ∀ f : Int, 0 ≤ f → f < 6 → r (126 + 4 * f) ≤ 3 := fun f p q => (wR.2.2.2 f p q).1.2
  obtain ⟨⟨g1, g2⟩, c2, c3, c4, c5, c6, c7⟩ := hc
  obtain ⟨x1, x2, x3, x4, x5, x6, x7, x8, x9, x10, x11, x12⟩ := hx
  have hm : ∀ (k : Nat) (j : Int), k ≠ 9 → k ≠ 10 → k ≠ 83 → k ≠ 84 → k ≠ 11 → k ≠ 16 → m2 k j = m k j := fun k j a b c d e f => by rw [hf k j f]; exact g1 k j a b c d e
  refine ⟨agC_frame (fun j p q => x1 j (by omega)) (fun k j hk => hm k j (by omega) (by omega) (by omega) (by omega) (by omega) (by omega)) h12.2 gC, ⟨fun x x0 x7 => ?_, fun x y x0 x7' y0 y1 => ?_, fun x x0 x6 => ?_⟩, ⟨fun k k0 k3 => ?_, fun k k0 k9 => ?_⟩, agW_frame (fun j p q => x1 j (by omega)) (fun k j hk => hm k j (by omega) (by omega) (by omega) (by omega) (by omega) (by omega)) h3w gW⟩
  · rw [x4 x x0 x7]; show m2 7 x = _; rw [hm 7 x (by omega) (by omega) (by omega) (by omega) (by omega) (by omega)]; exact gP.1 x x0 x7
  · rw [x4 x x0 x7'] at y1
    have a1 := x7 x y x0 x7' y0 y1
    have a2 := g2 x y x0 x7' y0 y1
    rw [a1.1, a1.2.1, a1.2.2]
    show m2 8 _ = _ ∧ m2 9 _ = _ ∧ m2 10 _ = _
    rw [hm 8 _ (by omega) (by omega) (by omega) (by omega) (by omega) (by omega), hf 9 _ (by omega), hf 10 _ (by omega)]
    exact ⟨(gP.2.1 x y x0 x7' y0 y1).1, a2.1, a2.2.1⟩
  · rw [x5 x x0 x6]; show m2 11 x = _; rw [hf 11 x (by omega)]; exact (c2 x x0 x6).1 (by omega)
  · rw [x1 _ (by omega)]; show m2 15 k = _; rw [hm 15 k (by omega) (by omega) (by omega) (by omega) (by omega) (by omega)]; exact gS.1 k k0 k3
  · show m2 16 k = _
    rw [ha k k0 k9]
    rcases (by omega : k = 0 ∨ k = 1 ∨ k = 2 ∨ k = 3 ∨ k = 4 ∨ k = 5 ∨ k = 6 ∨ k = 7 ∨ k = 8) with rfl | rfl | rfl | rfl | rfl | rfl | rfl | rfl | rfl
    · exact x2.symm
    · exact x3.symm
    · exact (x1 119 (by omega)).symm
    · exact (x1 120 (by omega)).symm
    · rw [c3]; exact x8.symm
    · rw [c5]; exact x9.symm
    · rw [c4]; exact x10.symm
    · rw [c6]; exact x11.symm
    · rw [c7]; exact x12.symm

noncomputable def vPut (r : Int → Int) (f c : Int) : Int := by
  classical exact if (0 ≤ f ∧ f ≤ 6) ∧ 0 ≤ c ∧ c < r 0 then (if rawR r f then -2 else if szR r f < 3 then szR r f else -3) else -1
noncomputable def vTake (r : Int → Int) (f : Int) : Int := by
  classical exact if 0 ≤ f ∧ f ≤ 6 then (if rawR r f then coR r f (szR r f - 1) else -2) else -1
theorem vPut_1 {r : Int → Int} {f c : Int} (h : ¬ ((0 ≤ f ∧ f ≤ 6) ∧ 0 ≤ c ∧ c < r 0)) : vPut r f c = -1 ∧ ¬ okPut r f c := by
  refine ⟨by simp only [vPut, if_neg h], fun z => h ⟨z.1, z.2.1⟩⟩
theorem vPut_2 {r : Int → Int} {f c : Int} (h : (0 ≤ f ∧ f ≤ 6) ∧ 0 ≤ c ∧ c < r 0) (w : rawR r f) : vPut r f c = -2 ∧ ¬ okPut r f c := by
  refine ⟨by simp only [vPut, if_pos h, if_pos w], fun z => z.2.2.1 w⟩
theorem vPut_3 {r : Int → Int} {f c : Int} (h : (0 ≤ f ∧ f ≤ 6) ∧ 0 ≤ c ∧ c < r 0) (w : ¬ rawR r f) (q : ¬ szR r f < 3) : vPut r f c = -3 ∧ ¬ okPut r f c := by
  refine ⟨by simp only [vPut, if_pos h, if_neg w, if_neg q], fun z => q z.2.2.2⟩
theorem vPut_4 {r : Int → Int} {f c : Int} (h : (0 ≤ f ∧ f ≤ 6) ∧ 0 ≤ c ∧ c < r 0) (w : ¬ rawR r f) (q : szR r f < 3) : vPut r f c = szR r f ∧ okPut r f c := by
  refine ⟨by simp only [vPut, if_pos h, if_neg w, if_pos q], h.1, h.2, w, q⟩
theorem vTake_1 {r : Int → Int} {f : Int} (h : ¬ (0 ≤ f ∧ f ≤ 6)) : vTake r f = -1 ∧ ¬ okTake r f := by
  refine ⟨by simp only [vTake, if_neg h], fun z => h z.1⟩
theorem vTake_2 {r : Int → Int} {f : Int} (h : 0 ≤ f ∧ f ≤ 6) (w : ¬ rawR r f) : vTake r f = -2 ∧ ¬ okTake r f := by
  refine ⟨by simp only [vTake, if_pos h, if_neg w], fun z => w z.2⟩
theorem vTake_3 {r : Int → Int} {f : Int} (h : 0 ≤ f ∧ f ≤ 6) (w : rawR r f) : vTake r f = coR r f (szR r f - 1) ∧ okTake r f := by
  refine ⟨by simp only [vTake, if_pos h, if_pos w], h, w⟩
def vSet (r : Int → Int) (w v : Int) : Int := if (w = 0 ∧ 1 ≤ v ∧ v ≤ 10) ∨ (w = 1 ∧ 0 ≤ v ∧ v ≤ 5) ∨ (w = 2 ∧ 0 ≤ v ∧ v ≤ 400) then r (114 + w) else -1
def vWish (r : Int → Int) (f c : Int) : Int := if (0 ≤ f ∧ f ≤ 5) ∧ (c = -1 ∨ (0 ≤ c ∧ c < r 0)) then (if c = -1 then 0 else if r (126 + 4 * f) < 3 then r (126 + 4 * f) + 1 else -3) else -1
def okFire (r : Int → Int) (h t : Int) : Prop := (500 ≤ h ∧ h ≤ 1200) ∧ (1 ≤ t ∧ t ≤ 20) ∧ r 117 < 1000
def lgR (r : Int → Int) (t : Int) : Int := if t ≥ r 114 then 1 else 0
def vFire (r : Int → Int) (h t : Int) : Int := if (500 ≤ h ∧ h ≤ 1200) ∧ 1 ≤ t ∧ t ≤ 20 then (if r 117 < 1000 then sumF r (spU r h (lgR r t)) 7 else -3) else -1

