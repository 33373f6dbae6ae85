
theorem sumL_upd {g g' : Int → Int} {k : Nat} {f d : Int} (f0 : 0 ≤ f) (fk : f < k) (h : ∀ i : Nat, i < k → (i : Int) ≠ f → g' i = g i) (hf : g' f = g f + d) : sumL g' k = sumL g k + d := by
  induction k with
  | zero => omega
  | succ k ih =>
    rw [sumL_succ, sumL_succ]
    by_cases e : f = (k : Int)
    · rw [sumL_congr (g := g') (g' := g) (k := k) (fun i hi => h i (by omega) (by omega)), ← e, hf]; omega
    · rw [ih (by omega) (fun i hi => h i (by omega)), h k (by omega) (fun z => e z.symm)]; omega
theorem sumL_zero {g : Int → Int} {k : Nat} (h : ∀ i : Nat, i < k → g i = 0) : sumL g k = 0 := by
  induction k with
  | zero => rfl
  | succ k ih => rw [sumL_succ, ih (fun i hi => h i (by omega)), h k (by omega)]; rfl
theorem sumL_add {g g1 g2 : Int → Int} {k : Nat} (h : ∀ i : Nat, i < k → g i = g1 i + g2 i) : sumL g k = sumL g1 k + sumL g2 k := by
  induction k with
  | zero => rfl
  | succ k ih => rw [sumL_succ, sumL_succ, sumL_succ, ih (fun i hi => h i (by omega)), h k (by omega)]; omega
def JJ (r : Int → Int) : Prop := layN r = r 119 - r 120 ∧ (crkN r ≤ r 124 - r 125 ∧ 0 ≤ r 125 ∧ r 124 ≤ 6 * r 117) ∧ (∀ f l : Int, 0 ≤ f → f < 7 → 0 ≤ l → l < szR r f → (stR r f l = 2 → soR r f l ≤ 5) ∧ (stR r f l ≤ 1 → soR r f l = 0)) ∧ ∀ f : Int, 0 ≤ f → f < 6 → crR r f = 1 → 0 < szR r f ∧ stR r f 0 ≠ 0
theorem lay_bd {r : Int → Int} (w : wfR r) : 0 ≤ layN r ∧ layN r ≤ 21 := by
  have := sumL_b3 (g := szR r) (k := 7) (fun i hi => (w.2.1.1 i (by omega) (by omega)).1)
  unfold layN; omega
theorem crk_bd {r : Int → Int} (w : wfR r) : 0 ≤ crkN r ∧ crkN r ≤ 6 := by
  have := sumL_b01 (g := crR r) (k := 6) (fun i hi => (w.2.1.1 i (by omega) (by omega)).2)
  unfold crkN; omega
theorem J_frame {r r' : Int → Int} (w : wfR r) (h : ∀ j : Int, 37 ≤ j → j < 114 → r' j = r j) (h2 : ∀ j : Int, 117 ≤ j → j < 126 → r' j = r j) (J : JJ r) : JJ r' := by
  obtain ⟨a, ⟨b1, b2, b3⟩, c, d⟩ := J
  have hz : ∀ f : Int, 0 ≤ f → f < 7 → szR r' f = szR r f := fun f p q => h _ (by omega) (by omega)
  have hc : ∀ f : Int, 0 ≤ f → f < 7 → crR r' f = crR r f := fun f p q => h _ (by omega) (by omega)
  have e1 : layN r' = layN r := sumL_congr (fun i hi => hz i (by omega) (by omega))
  have e2 : crkN r' = crkN r := sumL_congr (fun i hi => hc i (by omega) (by omega))
  refine ⟨by rw [e1, h2 119 (by omega) (by omega), h2 120 (by omega) (by omega)]; exact a, by rw [e2, h2 124 (by omega) (by omega), h2 125 (by omega) (by omega), h2 117 (by omega) (by omega)]; exact ⟨b1, b2, b3⟩, fun f l p q x y => ?_, fun f p q x => ?_⟩
  · rw [hz f p q] at y
    have h3 := (w.2.1.1 f p q).1
    have e3 : stR r' f l = stR r f l := h _ (by omega) (by omega)
    have e4 : soR r' f l = soR r f l := h _ (by omega) (by omega)
    rw [e3, e4]; exact c f l p q x y
  · rw [hc f p (by omega)] at x
    rw [hz f p (by omega)]
    have e3 : stR r' f 0 = stR r f 0 := h _ (by omega) (by omega)
    rw [e3]; exact d f p q x
theorem J_color {r : Int → Int} {a b c : Int} (w : wfR r) (ok : okColor r a b c) (J : JJ r) : JJ (rColor r a b c) := by
  have h0 := w.1.1
  have h1 := ok.2
  refine J_frame w (fun j p q => ?_) (fun j p q => ?_) J
  · unfold rColor; simp (disch := omega) only [rup_ne]
  · unfold rColor; simp (disch := omega) only [rup_ne]
theorem J_set {r : Int → Int} {x v : Int} (w : wfR r) (ok : okSet x v) (J : JJ r) : JJ (rSet r x v) := by
  have h1 : 0 ≤ x ∧ x ≤ 2 := by unfold okSet at ok; omega
  refine J_frame w (fun j p q => ?_) (fun j p q => ?_) J
  · unfold rSet; simp (disch := omega) only [rup_ne]
  · unfold rSet; simp (disch := omega) only [rup_ne]
theorem J_wish {r : Int → Int} {f c : Int} (w : wfR r) (ok : okWish r f c) (J : JJ r) : JJ (rWish r f c) := by
  obtain ⟨hf, -⟩ := ok
  have hw := (w.2.2.2 f hf.1 (by omega)).1
  refine J_frame w (fun j p q => ?_) (fun j p q => ?_) J
  · unfold rWish; split <;> simp (disch := omega) only [rup_ne]
  · unfold rWish; split <;> simp (disch := omega) only [rup_ne]
theorem J_put {r : Int → Int} {f c : Int} (w : wfR r) (ok : okPut r f c) (J : JJ r) : JJ (rPut r f c) := by
  obtain ⟨hf, hc, hr, hz⟩ := ok
  clear hr
  have hz0 := (w.2.1.1 f (by omega) (by omega)).1
  obtain ⟨a, ⟨b1, b2, b3⟩, cc, d⟩ := J
  simp only [szR] at hz hz0
  have zs : ∀ x : Int, 0 ≤ x → x < 7 → x ≠ f → szR (rPut r f c) x = szR r x := fun x p q e => by unfold rPut; simp (disch := omega) only [szR, rup_ne]
  have zf : szR (rPut r f c) f = szR r f + 1 := by unfold rPut; simp (disch := omega) only [szR, rup_same, rup_ne]
  have cs : ∀ x : Int, 0 ≤ x → x < 7 → crR (rPut r f c) x = crR r x := fun x p q => by unfold rPut; simp (disch := omega) only [szR, crR, rup_ne]
  have e1 : layN (rPut r f c) = layN r + 1 := sumL_upd (f := f) (by omega) (by omega) (fun i hi e => zs i (by omega) (by omega) e) zf
  have e2 : crkN (rPut r f c) = crkN r := sumL_congr (fun i hi => cs i (by omega) (by omega))
  have old : ∀ x l : Int, 0 ≤ x → x < 7 → 0 ≤ l → l < szR r x → stR (rPut r f c) x l = stR r x l ∧ soR (rPut r f c) x l = soR r x l := fun x l p q u v => by
    have h3 := (w.2.1.1 x p q).1
    simp only [szR] at v h3
    by_cases e : x = f
    · subst e
      unfold rPut; simp (disch := omega) only [szR, stR, soR, rup_ne, and_self]
    · unfold rPut; simp (disch := omega) only [szR, stR, soR, rup_ne, and_self]
  refine ⟨?_, ?_, fun x l p q u v => ?_, fun x p q u => ?_⟩
  · have e3 : rPut r f c 119 = r 119 + 1 := by unfold rPut; rw [rup_same]
    have e4 : rPut r f c 120 = r 120 := by unfold rPut; simp (disch := omega) only [szR, rup_ne]
    rw [e1, e3, e4]; omega
  · have e3 : rPut r f c 124 = r 124 := by unfold rPut; simp (disch := omega) only [szR, rup_ne]
    have e4 : rPut r f c 125 = r 125 := by unfold rPut; simp (disch := omega) only [szR, rup_ne]
    have e5 : rPut r f c 117 = r 117 := by unfold rPut; simp (disch := omega) only [szR, rup_ne]
    rw [e2, e3, e4, e5]; exact ⟨b1, b2, b3⟩
  · by_cases h : l < szR r x
    · obtain ⟨o1, o2⟩ := old x l p q u h
      rw [o1, o2]; exact cc x l p q u h
    · have ex : x = f := by
        by_cases e : x = f
        · exact e
        · rw [zs x p q e] at v; exact absurd v h
      subst ex
      rw [zf] at v
      have el : l = szR r x := by omega
      subst el
      have o1 : stR (rPut r x c) x (szR r x) = 0 := by unfold rPut; simp (disch := omega) only [szR, stR, rup_ne, rup_same]
      have o2 : soR (rPut r x c) x (szR r x) = 0 := by unfold rPut; simp (disch := omega) only [szR, soR, rup_ne, rup_same]
      rw [o1, o2]; exact ⟨fun z => by omega, fun _ => rfl⟩
  · rw [cs x p (by omega)] at u
    have h4 := d x p q u
    rw [(old x 0 p (by omega) (by omega) h4.1).1]
    refine ⟨?_, h4.2⟩
    by_cases e : x = f
    · subst e; rw [zf]; omega
    · rw [zs x p (by omega) e]; exact h4.1
theorem J_take {r : Int → Int} {f : Int} (w : wfR r) (ok : okTake r f) (J : JJ r) : JJ (rTake r f) := by
  obtain ⟨hf, hr1, hr2⟩ := ok
  have hz0 := (w.2.1.1 f (by omega) (by omega)).1
  obtain ⟨a, ⟨b1, b2, b3⟩, cc, d⟩ := J
  have zs : ∀ x : Int, 0 ≤ x → x < 7 → x ≠ f → szR (rTake r f) x = szR r x := fun x p q e => by unfold rTake; simp (disch := omega) only [szR, rup_ne]
  have zf : szR (rTake r f) f = szR r f + (-1) := by unfold rTake; simp (disch := omega) only [szR, rup_same, rup_ne]; omega
  have cs : ∀ x : Int, 0 ≤ x → x < 7 → crR (rTake r f) x = crR r x := fun x p q => by unfold rTake; simp (disch := omega) only [crR, rup_ne]
  have e1 : layN (rTake r f) = layN r + (-1) := sumL_upd (f := f) (by omega) (by omega) (fun i hi e => zs i (by omega) (by omega) e) zf
  have e2 : crkN (rTake r f) = crkN r := sumL_congr (fun i hi => cs i (by omega) (by omega))
  have old : ∀ x l : Int, 0 ≤ x → x < 7 → 0 ≤ l → l < 3 → stR (rTake r f) x l = stR r x l ∧ soR (rTake r f) x l = soR r x l := fun x l p q u v => by
    unfold rTake; simp (disch := omega) only [stR, soR, rup_ne, and_self]
  refine ⟨?_, ?_, fun x l p q u v => ?_, fun x p q u => ?_⟩
  · have e3 : rTake r f 119 = r 119 := by unfold rTake; simp (disch := omega) only [rup_ne]
    have e4 : rTake r f 120 = r 120 + 1 := by unfold rTake; rw [rup_same]
    rw [e1, e3, e4]; omega
  · have e3 : rTake r f 124 = r 124 := by unfold rTake; simp (disch := omega) only [rup_ne]
    have e4 : rTake r f 125 = r 125 := by unfold rTake; simp (disch := omega) only [rup_ne]
    have e5 : rTake r f 117 = r 117 := by unfold rTake; simp (disch := omega) only [rup_ne]
    rw [e2, e3, e4, e5]; exact ⟨b1, b2, b3⟩
  · have hx := (w.2.1.1 x p q).1
    have v2 : l < szR r x := by
      by_cases e : x = f
      · subst e; rw [zf] at v; omega
      · rw [zs x p q e] at v; exact v
    obtain ⟨o1, o2⟩ := old x l p q u (by omega)
    rw [o1, o2]; exact cc x l p q u v2
  · rw [cs x p (by omega)] at u
    have h4 := d x p q u
    rw [(old x 0 p (by omega) (by omega) (by omega)).1]
    refine ⟨?_, h4.2⟩
    by_cases e : x = f
    · subst e; rw [zf]
      by_cases e1 : szR r x = 1
      · rw [e1] at hr2; exact absurd hr2 h4.2
      · omega
    · rw [zs x p (by omega) e]; exact h4.1
theorem J_clean {r : Int → Int} (w : wfR r) (J : JJ r) : JJ (rClean r) := by
  obtain ⟨a, ⟨b1, b2, b3⟩, cc, d⟩ := J
  obtain ⟨c1, c2, c3, c4⟩ := isClean_r r
  have e1 : layN (rClean r) = 0 := sumL_zero (fun i hi => (c4 i (by omega) (by omega)).1)
  have e2 : crkN (rClean r) = 0 := sumL_zero (fun i hi => (c4 i (by omega) (by omega)).2)
  have hk := crk_bd w
  refine ⟨by rw [e1, c2, c3]; rfl, by rw [e2, c1 124 (by omega), c1 125 (by omega), c1 117 (by omega)]; exact ⟨by omega, b2, b3⟩, fun x l p q u v => ?_, fun x p q u => ?_⟩
  · rw [(c4 x p q).1] at v; omega
  · rw [(c4 x p (by omega)).2] at u; omega
theorem crk_fire {r : Int → Int} (w : wfR r) (h lg : Int) : sumL (fun f => spC r h lg f) 6 = crkN r + cntK r h lg 6 - cntM r h lg 6 := by
  classical
  have e1 : sumL (fun f => spC r h lg f + (if spM r h lg f then 1 else 0)) 6 = sumL (fun f => spC r h lg f) 6 + cntM r h lg 6 := by
    unfold cntM
    exact sumL_add (fun i hi => rfl)
  have e2 : sumL (fun f => spC r h lg f + (if spM r h lg f then 1 else 0)) 6 = crkN r + cntK r h lg 6 := by
    unfold cntK crkN
    refine sumL_add (fun i hi => ?_)
    have hc := (w.2.1.1 i (by omega) (by omega)).2
    unfold spC
    by_cases c1 : spK r h lg i
    · by_cases c2 : spM r h lg i
      · rw [if_pos c1, if_pos c2, if_pos c1, c2.1]
      · rw [if_pos c1, if_neg c2, if_pos c1]
        have := c1.1.resolve_right c2
        omega
    · by_cases c2 : spM r h lg i
      · rw [if_neg c1, if_pos c2, if_pos c2, if_neg c1, c2.1]; rfl
      · rw [if_neg c1, if_neg c2, if_neg c2, if_neg c1]
  omega
theorem cK_bd (r : Int → Int) (h lg : Int) : 0 ≤ cntK r h lg 6 ∧ cntK r h lg 6 ≤ 6 := by
  classical
  have := sumL_b01 (g := fun f => if spK r h lg f then 1 else 0) (k := 6) (fun i hi => by by_cases c : spK r h lg i <;> simp [c])
  unfold cntK; exact ⟨this.1, by have := this.2; omega⟩
theorem cM_bd (r : Int → Int) (h lg : Int) : 0 ≤ cntM r h lg 6 ∧ cntM r h lg 6 ≤ 6 := by
  classical
  have := sumL_b01 (g := fun f => if spM r h lg f then 1 else 0) (k := 6) (fun i hi => by by_cases c : spM r h lg i <;> simp [c])
  unfold cntM; exact ⟨this.1, by have := this.2; omega⟩
theorem fSt_2 {h lg a M B s so : Int} (ha : a ≤ 5) (hs : 0 ≤ s ∧ s ≤ 4) (j1 : s = 2 → so ≤ 5) (j2 : s ≤ 1 → so = 0) : (fSt h lg a M B s so = 2 → fSo h M B s so ≤ 5) ∧ (fSt h lg a M B s so ≤ 1 → fSo h M B s so = 0) ∧ (s ≠ 0 → fSt h lg a M B s so ≠ 0) := by
  unfold fSt fSo holds
  refine ⟨fun z => ?_, fun z => ?_, fun z y => ?_⟩ <;> (repeat' split at *) <;> omega
theorem J_fire {r r' : Int → Int} {h lg mn : Int} (w : wfR r) (hx : isFire r h lg mn r') (J : JJ r) : JJ r' := by
  obtain ⟨a, ⟨b1, b2, b3⟩, cc, d⟩ := J
  obtain ⟨x1, x2, x3, x4, x5, x6, x7, x8, x9, x10, x11, x12⟩ := hx
  have e1 : layN r' = layN r := sumL_congr (fun i hi => x4 i (by omega) (by omega))
  have e2 : crkN r' = crkN r + cntK r h lg 6 - cntM r h lg 6 := by
    rw [← crk_fire w h lg]
    exact sumL_congr (fun i hi => x5 i (by omega) (by omega))
  have hK := cK_bd r h lg
  have hM := cM_bd r h lg
  have hS := w.2.2.1
  have st : ∀ x l : Int, 0 ≤ x → x < 7 → 0 ≤ l → l < szR r x → (stR r' x l = 2 → soR r' x l ≤ 5) ∧ (stR r' x l ≤ 1 → soR r' x l = 0) ∧ (stR r x l ≠ 0 → stR r' x l ≠ 0) := fun x l p q u v => by
    have a2 := x7 x l p q u v
    have j := cc x l p q u v
    have hl := w.2.1.2 x l p q u v
    rw [a2.2.1, a2.2.2]
    exact fSt_2 hS.2.1.2 hl.2.1 j.1 j.2
  refine ⟨by rw [e1, x1 119 (by omega), x1 120 (by omega)]; exact a, by rw [e2, x11, x12, x2]; omega, fun x l p q u v => ?_, fun x p q u => ?_⟩
  · rw [x4 x p q] at v
    have z := st x l p q u v
    exact ⟨z.1, z.2.1⟩
  · rw [x5 x p q] at u
    rw [x4 x p (by omega)]
    have old : crR r x = 1 → 0 < szR r x ∧ stR r' x 0 ≠ 0 := fun e => by
      have h4 := d x p q e
      exact ⟨h4.1, (st x 0 p (by omega) (by omega) h4.1).2.2 h4.2⟩
    by_cases k : spK r h lg x
    · obtain ⟨l, l0, l1, hh⟩ := k.2.1
      refine ⟨by omega, ?_⟩
      have h0 : 0 < szR r x := by omega
      by_cases e : l = 0
      · subst e
        rw [(x7 x 0 p (by omega) (by omega) h0).2.1]
        unfold holds at hh
        omega
      · have := (w.2.1.2 x 0 p (by omega) (by omega) h0).2.2.2 (by omega)
        exact (st x 0 p (by omega) (by omega) h0).2.2 this
    · by_cases c2 : spM r h lg x
      · exact old c2.1
      · refine old ?_
        unfold spC at u
        rw [if_neg k, if_neg c2] at u
        exact u
