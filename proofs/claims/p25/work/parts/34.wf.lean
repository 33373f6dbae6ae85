
theorem wfR_eq {r r' : Int → Int} (h : ∀ j : Int, 0 ≤ j → j < 150 → r' j = r j) (w : wfR r) : wfR r' := by
  obtain ⟨wC, wP, wS, wW⟩ := w
  refine ⟨wfC_frame (fun j a b => h j (by omega) (by omega)) wC, wfP_frame (fun j a b => h j (by omega) (by omega)) (by rw [h 0 (by omega) (by omega)]; exact Int.le_refl _) (by rw [h 117 (by omega) (by omega)]; exact Int.le_refl _) wP, wfS_frame (fun j a b => h j (by omega) (by omega)) (h 104 (by omega) (by omega)) wS, wfW_frame (fun j a b => h j (by omega) (by omega)) (by rw [h 0 (by omega) (by omega)]; exact Int.le_refl _) wW⟩
theorem agB_eq {b : Nat} {r r' : Int → Int} {m : AM} (h : ∀ j : Int, 0 ≤ j → j < 150 → r' j = r j) (w : wfR r) (g : agB b r m) : agB b r' m := by
  obtain ⟨gC, gP, gS, gW⟩ := g
  have h3 : ∀ f : Int, 0 ≤ f → f < 7 → szR r f ≤ 3 := fun f p q => (w.2.1.1 f p q).1.2
  have h3w : ∀ f : Int, 0 ≤ f → f < 6 → r (126 + 4 * f) ≤ 3 := fun f p q => (w.2.2.2 f p q).1.2
  exact ⟨agC_frame (fun j a b => h j (by omega) (by omega)) (fun _ _ _ => rfl) w.1.1.2 gC, agP_frame (fun j a b => h j (by omega) (by omega)) (fun _ _ _ => rfl) h3 gP, agS_frame (fun j a b => h j (by omega) (by omega)) (fun _ _ _ => rfl) gS, agW_frame (fun j a b => h j (by omega) (by omega)) (fun _ _ _ => rfl) h3w gW⟩
theorem wColor {r : Int → Int} {a b c : Int} (w : wfR r) (ok : okColor r a b c) : wfR (rColor r a b c) := by
  obtain ⟨wC, wP, wS, wW⟩ := w
  have h12 := wC.1
  obtain ⟨⟨oa, ob, oc⟩, ol⟩ := ok
  have e0 : rColor r a b c 0 = r 0 + 1 := by unfold rColor; rw [rup_same]
  refine ⟨⟨by rw [e0]; omega, fun x x0 x1 => ?_⟩, wfP_frame (fun j p q => ?_) (by rw [e0]; omega) (by unfold rColor; simp (disch := omega) only [rup_ne, Int.le_refl]) wP, wfS_frame (fun j p q => ?_) ?_ wS, wfW_frame (fun j p q => ?_) (by rw [e0]; omega) wW⟩
  · rw [e0] at x1
    by_cases e : x = r 0
    · subst e
      unfold rColor; simp (disch := omega) only [meR, buR, exR, rup_same, rup_ne]
      omega
    · have hx := wC.2 x x0 (by omega)
      unfold rColor; simp (disch := omega) only [meR, buR, exR, rup_ne]
      exact hx
  · unfold rColor; simp (disch := omega) only [rup_ne]
  · unfold rColor; simp (disch := omega) only [rup_ne]
  · unfold rColor; simp (disch := omega) only [rup_ne]
  · unfold rColor; simp (disch := omega) only [rup_ne]
theorem wPut {r : Int → Int} {f c : Int} (w : wfR r) (ok : okPut r f c) : wfR (rPut r f c) := by
  obtain ⟨wC, wP, wS, wW⟩ := w
  have h12 := wC.1
  obtain ⟨⟨f0, f6⟩, ⟨c0, c1⟩, nr, hz⟩ := ok
  have hz0 := (wP.1 f f0 (by omega)).1
  simp only [szR] at hz hz0
  have e0 : rPut r f c 0 = r 0 := by unfold rPut; simp (disch := omega) only [szR, rup_ne]
  have e17 : rPut r f c 117 = r 117 := by unfold rPut; simp (disch := omega) only [szR, rup_ne]
  have esz : ∀ x : Int, 0 ≤ x → x < 7 → szR (rPut r f c) x = if x = f then szR r f + 1 else szR r x := fun x a b => by
    by_cases e : x = f
    · subst e; rw [if_pos rfl]; unfold rPut; simp (disch := omega) only [szR, rup_same, rup_ne]
    · rw [if_neg e]; unfold rPut; simp (disch := omega) only [szR, rup_ne]
  refine ⟨wfC_frame (fun j p q => ?_) wC, ⟨fun x x0 x7 => ?_, fun x l x0 x7 l0 l1 => ?_⟩, wfS_frame (fun j p q => ?_) ?_ wS, wfW_frame (fun j p q => ?_) (by rw [e0]; omega) wW⟩
  · unfold rPut; simp (disch := omega) only [szR, rup_ne]
  · have hx := wP.1 x x0 x7
    rw [esz x x0 x7]
    refine ⟨by split <;> simp only [szR] at hx ⊢ <;> omega, ?_⟩
    have hx2 := hx.2
    unfold rPut; simp (disch := omega) only [szR, crR, rup_ne]
    exact hx2
  · rw [esz x x0 x7] at l1 ⊢
    have hzx := (wP.1 x x0 x7).1
    simp only [szR] at hzx
    rw [e0, e17]
    by_cases e : x = f
    · subst e
      rw [if_pos rfl] at l1 ⊢
      simp only [szR] at l1
      by_cases el : l = r (37 + 11 * x)
      · subst el
        unfold rPut; simp (disch := omega) only [szR, coR, stR, soR, rup_same, rup_ne, Int.add_zero]
        have h117 := wS.2.2.2.1
        refine ⟨⟨c0, c1⟩, by omega, by omega, fun z => by omega⟩
      · have hl := wP.2 x l x0 x7 l0 (by simp only [szR]; omega)
        have hst : stR r x l ≠ 0 := by
          intro z
          by_cases e2 : l + 1 < szR r x
          · exact hl.2.2.2 e2 z
          · have e3 : szR r x - 1 = l := by simp only [szR] at e2 ⊢; omega
            exact nr ⟨by simp only [szR]; omega, by rw [e3]; exact z⟩
        have ec : coR (rPut r x c) x l = coR r x l := by unfold rPut; simp (disch := omega) only [szR, coR, rup_ne]
        have es : stR (rPut r x c) x l = stR r x l := by unfold rPut; simp (disch := omega) only [szR, stR, rup_ne]
        have eo : soR (rPut r x c) x l = soR r x l := by unfold rPut; simp (disch := omega) only [szR, soR, rup_ne]
        rw [ec, es, eo]
        exact ⟨hl.1, hl.2.1, hl.2.2.1, fun _ => hst⟩
    · rw [if_neg e] at l1 ⊢
      have hl := wP.2 x l x0 x7 l0 l1
      simp only [szR] at l1
      have ec : coR (rPut r f c) x l = coR r x l := by unfold rPut; simp (disch := omega) only [szR, coR, rup_ne]
      have es : stR (rPut r f c) x l = stR r x l := by unfold rPut; simp (disch := omega) only [szR, stR, rup_ne]
      have eo : soR (rPut r f c) x l = soR r x l := by unfold rPut; simp (disch := omega) only [szR, soR, rup_ne]
      rw [ec, es, eo]
      exact hl
  · unfold rPut; simp (disch := omega) only [szR, rup_ne]
  · unfold rPut; simp (disch := omega) only [szR, rup_ne]
  · unfold rPut; simp (disch := omega) only [szR, rup_ne]
theorem wTake {r : Int → Int} {f : Int} (w : wfR r) (ok : okTake r f) : wfR (rTake r f) := by
  obtain ⟨wC, wP, wS, wW⟩ := w
  have h12 := wC.1
  obtain ⟨⟨f0, f6⟩, rw1⟩ := ok
  have hz := rw1.1
  have hz0 := (wP.1 f f0 (by omega)).1
  simp only [szR] at hz hz0
  have e0 : rTake r f 0 = r 0 := by unfold rTake; simp (disch := omega) only [szR, rup_ne]
  have e17 : rTake r f 117 = r 117 := by unfold rTake; simp (disch := omega) only [szR, rup_ne]
  have esz : ∀ x : Int, 0 ≤ x → x < 7 → szR (rTake r f) x = if x = f then szR r f - 1 else szR r x := fun x a b => by
    by_cases e : x = f
    · subst e; rw [if_pos rfl]; unfold rTake; simp (disch := omega) only [szR, rup_same, rup_ne]
    · rw [if_neg e]; unfold rTake; simp (disch := omega) only [szR, rup_ne]
  refine ⟨wfC_frame (fun j p q => ?_) wC, ⟨fun x x0 x7 => ?_, fun x l x0 x7 l0 l1 => ?_⟩, wfS_frame (fun j p q => ?_) ?_ wS, wfW_frame (fun j p q => ?_) (by rw [e0]; omega) wW⟩
  · unfold rTake; simp (disch := omega) only [szR, rup_ne]
  · have hx := wP.1 x x0 x7
    rw [esz x x0 x7]
    refine ⟨by split <;> simp only [szR] at hx ⊢ <;> omega, ?_⟩
    have hx2 := hx.2
    unfold rTake; simp (disch := omega) only [szR, crR, rup_ne]
    exact hx2
  · rw [esz x x0 x7] at l1 ⊢
    have hzx := (wP.1 x x0 x7).1
    simp only [szR] at hzx
    rw [e0, e17]
    have l2 : l < szR r x := by
      by_cases e : x = f
      · subst e; rw [if_pos rfl] at l1; omega
      · rw [if_neg e] at l1; exact l1
    have hl := wP.2 x l x0 x7 l0 l2
    have l3 := l2
    simp only [szR] at l3
    have ec : coR (rTake r f) x l = coR r x l := by unfold rTake; simp (disch := omega) only [szR, coR, rup_ne]
    have es : stR (rTake r f) x l = stR r x l := by unfold rTake; simp (disch := omega) only [szR, stR, rup_ne]
    have eo : soR (rTake r f) x l = soR r x l := by unfold rTake; simp (disch := omega) only [szR, soR, rup_ne]
    rw [ec, es, eo]
    refine ⟨hl.1, hl.2.1, hl.2.2.1, fun z => hl.2.2.2 ?_⟩
    by_cases e : x = f
    · subst e; rw [if_pos rfl] at z; omega
    · rw [if_neg e] at z; exact z
  · unfold rTake; simp (disch := omega) only [szR, rup_ne]
  · unfold rTake; simp (disch := omega) only [szR, rup_ne]
  · unfold rTake; simp (disch := omega) only [szR, rup_ne]
theorem wClean {r r' : Int → Int} (w : wfR r) (h : isClean r r') : wfR r' := by
  obtain ⟨wC, wP, wS, wW⟩ := w
  obtain ⟨c1, c2, c3, c4⟩ := h
  refine ⟨wfC_frame (fun j p q => c1 j (by omega)) wC, ⟨fun x x0 x7 => ?_, fun x l x0 x7 l0 l1 => ?_⟩, wfS_frame (fun j p q => c1 j (by omega)) ?_ wS, wfW_frame (fun j p q => c1 j (by omega)) (by rw [c1 0 (by omega)]; exact Int.le_refl _) wW⟩
  · rw [(c4 x x0 x7).1, (c4 x x0 x7).2]; omega
  · rw [(c4 x x0 x7).1] at l1; omega
  · have := (c4 6 (by omega) (by omega)).2
    have w6 := wS.2.2.2.2
    exact this.trans w6.symm
theorem wSet {r : Int → Int} {w v : Int} (wR : wfR r) (ok : okSet w v) : wfR (rSet r w v) := by
  obtain ⟨wC, wP, wS, wW⟩ := wR
  have hw : 0 ≤ w ∧ w < 3 := by unfold okSet at ok; omega
  unfold okSet at ok
  have e : ∀ j : Int, j ≠ 114 + w → rSet r w v j = r j := fun j h => by unfold rSet; exact rup_ne h
  refine ⟨wfC_frame (fun j p q => e j (by omega)) wC, wfP_frame (fun j p q => e j (by omega)) (by rw [e 0 (by omega)]; exact Int.le_refl _) (by rw [e 117 (by omega)]; exact Int.le_refl _) wP, ?_, wfW_frame (fun j p q => e j (by omega)) (by rw [e 0 (by omega)]; exact Int.le_refl _) wW⟩
  obtain ⟨a, b, c, d, k⟩ := wS
  refine ⟨?_, ?_, ?_, by rw [e 117 (by omega)]; exact d, (e 104 (by omega)).trans k⟩
  · by_cases z : w = 0
    · subst z; unfold rSet; rw [show (114 + 0 : Int) = 114 from rfl, rup_same]; omega
    · rw [e 114 (by omega)]; exact a
  · by_cases z : w = 1
    · subst z; unfold rSet; rw [show (114 + 1 : Int) = 115 from rfl, rup_same]; omega
    · rw [e 115 (by omega)]; exact b
  · by_cases z : w = 2
    · subst z; unfold rSet; rw [show (114 + 2 : Int) = 116 from rfl, rup_same]; omega
    · rw [e 116 (by omega)]; exact c
theorem wWish {r : Int → Int} {f c : Int} (w : wfR r) (ok : okWish r f c) : wfR (rWish r f c) := by
  obtain ⟨wC, wP, wS, wW⟩ := w
  have h12 := wC.1
  obtain ⟨⟨f0, f5⟩, ok⟩ := ok
  have hz0 := (wW f f0 (by omega)).1
  have e : ∀ j : Int, j < 126 → rWish r f c j = r j := fun j h => by unfold rWish; split <;> simp (disch := omega) only [rup_ne]
  refine ⟨wfC_frame (fun j p q => e j (by omega)) wC, wfP_frame (fun j p q => e j (by omega)) (by rw [e 0 (by omega)]; exact Int.le_refl _) (by rw [e 117 (by omega)]; exact Int.le_refl _) wP, wfS_frame (fun j p q => e j (by omega)) (e 104 (by omega)) wS, fun x x0 x6 => ?_⟩
  have hx := wW x x0 x6
  rw [e 0 (by omega)]
  by_cases z : c = -1
  · unfold rWish; rw [if_pos z]
    by_cases ex : x = f
    · subst ex; rw [rup_same]; exact ⟨by omega, fun k k0 k1 => by omega⟩
    · rw [rup_ne (by omega)]
      refine ⟨hx.1, fun k k0 k1 => ?_⟩
      rw [rup_ne (by omega)]; exact hx.2 k k0 k1
  · have ok2 := ok.resolve_left z
    unfold rWish; rw [if_neg z]
    by_cases ex : x = f
    · subst ex; rw [rup_same]
      refine ⟨by omega, fun k k0 k1 => ?_⟩
      by_cases ek : k = r (126 + 4 * x)
      · subst ek; simp (disch := omega) only [rup_same, rup_ne]; exact ok2.1
      · simp (disch := omega) only [rup_ne]; exact hx.2 k k0 (by omega)
    · rw [rup_ne (by omega), rup_ne (by omega)]
      refine ⟨hx.1, fun k k0 k1 => ?_⟩
      simp (disch := omega) only [rup_ne]; exact hx.2 k k0 k1
theorem spC_01 {r : Int → Int} {h lg f : Int} (w : crR r f = 0 ∨ crR r f = 1) : spC r h lg f = 0 ∨ spC r h lg f = 1 := by
  have c := spC_cases r h lg f
  by_cases a : spK r h lg f
  · exact Or.inr (c.1 a)
  · by_cases b : spM r h lg f
    · exact Or.inl (c.2.1 a b)
    · rw [c.2.2 a b]; exact w
theorem wFire {r r' : Int → Int} {h lg mn : Int} (w : wfR r) (h17 : r 117 < 1000) (hx : isFire r h lg mn r') : wfR r' := by
  obtain ⟨wC, wP, wS, wW⟩ := w
  obtain ⟨x1, x2, x3, x4, x5, x6, x7, x8, x9, x10, x11, x12⟩ := hx
  refine ⟨wfC_frame (fun j p q => x1 j (by omega)) wC, ⟨fun x x0 x7' => ?_, fun x l x0 x7' l0 l1 => ?_⟩, ?_, wfW_frame (fun j p q => x1 j (by omega)) (by rw [x1 0 (by omega)]; exact Int.le_refl _) wW⟩
  · rw [x4 x x0 x7']
    refine ⟨(wP.1 x x0 x7').1, ?_⟩
    by_cases e : x = 6
    · subst e; exact Or.inl x6
    · rw [x5 x x0 (by omega)]; exact spC_01 (wP.1 x x0 x7').2
  · rw [x4 x x0 x7'] at l1 ⊢
    have hl := wP.2 x l x0 x7' l0 l1
    have q := x7 x l x0 x7' l0 l1
    rw [q.1, q.2.1, q.2.2, x1 0 (by omega), x2]
    refine ⟨hl.1, fSt_bd hl.2.1, ?_, fun z => ?_⟩
    · have := hl.2.2.1
      unfold spO fSo; split <;> omega
    · have h1 := hl.2.2.2 z
      unfold spS fSt
      (repeat' split) <;> omega
  · obtain ⟨a, b, c, d, k⟩ := wS
    refine ⟨by rw [x1 114 (by omega)]; exact a, by rw [x1 115 (by omega)]; exact b, by rw [x1 116 (by omega)]; exact c, by rw [x2]; omega, x6⟩

