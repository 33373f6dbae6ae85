theorem planF_frame {W : Int → Int} {M B : Int → Int → Int} {F : Int → Int} {m m' : AM} (h : ∀ (k : Nat) (j : Int), 91 ≤ k → k < 98 → m' k j = m k j) (p : planF W M B F m) : planF W M B F m' := by
  have e6 : m' 96 = m 96 := funext fun j => h 96 j (by omega) (by omega)
  have e7 : m' 97 = m 97 := funext fun j => h 97 j (by omega) (by omega)
  unfold planF at p ⊢
  rw [h 91 7 (by omega) (by omega), h 91 6 (by omega) (by omega), e6, e7]
  exact p
theorem hH_wf {n : Int} {H : Int → Int → Int} {r : Int → Int} (hn : 0 ≤ n ∧ n ≤ 4) (w : wfR r) (hw : ∀ k : Int, 0 ≤ k → k < n → wfR (H k)) : ∀ k : Int, 0 ≤ k → k < min (n + 1) 4 → wfR (hH n H r k) := by
  intro k h0 h1
  have e : hH n H r k = if n < 4 then (if k = n then r else H k) else (if k = 3 then r else H (k + 1)) := by
    unfold hH
    split <;> rfl
  rw [e]
  by_cases c : n < 4
  · rw [if_pos c]
    by_cases d : k = n
    · rw [if_pos d]; exact w
    · rw [if_neg d]; exact hw k h0 (by omega)
  · rw [if_neg c]
    by_cases d : k = 3
    · rw [if_pos d]; exact w
    · rw [if_neg d]; exact hw (k + 1) (by omega) (by omega)
theorem keepX {r r' : Int → Int} (w : wfR r) (h : ∀ j : Int, 126 ≤ j → j < 150 → r' j = r j) (h1 : ∀ j : Int, 1 ≤ j → j ≤ 3 * r 0 → r' j = r j) : wW r' = wW r ∧ wM r' = wM r ∧ wB r' = wB r :=
  wX_eq w h (fun c a b => ⟨h1 _ (by omega) (by omega), h1 _ (by omega) (by omega)⟩)
theorem xColor {r : Int → Int} {a b c : Int} (w : wfR r) (ok : okColor r a b c) : wW (rColor r a b c) = wW r ∧ wM (rColor r a b c) = wM r ∧ wB (rColor r a b c) = wB r := by
  have h0 := w.1.1
  have h1 := ok.2
  refine keepX w (fun j p q => ?_) (fun j p q => ?_)
  · unfold rColor; simp (disch := omega) only [rup_ne]
  · unfold rColor; simp (disch := omega) only [rup_ne]
theorem xPut {r : Int → Int} {f c : Int} (w : wfR r) (ok : okPut r f c) : wW (rPut r f c) = wW r ∧ wM (rPut r f c) = wM r ∧ wB (rPut r f c) = wB r := by
  have h0 := w.1.1
  obtain ⟨hf, hc, hr, hz⟩ := ok
  have h1 := (w.2.1.1 f (by omega) (by omega)).1
  clear hr
  refine keepX w (fun j p q => ?_) (fun j p q => ?_)
  · unfold rPut; simp (disch := omega) only [rup_ne]
  · unfold rPut; simp (disch := omega) only [rup_ne]
theorem xTake {r : Int → Int} {f : Int} (w : wfR r) (ok : okTake r f) : wW (rTake r f) = wW r ∧ wM (rTake r f) = wM r ∧ wB (rTake r f) = wB r := by
  have h0 := w.1.1
  obtain ⟨hf, hr⟩ := ok
  clear hr
  refine keepX w (fun j p q => ?_) (fun j p q => ?_)
  · unfold rTake; simp (disch := omega) only [rup_ne]
  · unfold rTake; simp (disch := omega) only [rup_ne]
theorem xClean {r r' : Int → Int} (w : wfR r) (h : isClean r r') : wW r' = wW r ∧ wM r' = wM r ∧ wB r' = wB r := by
  have h0 := w.1.1
  exact keepX w (fun j p q => h.1 j (by omega)) (fun j p q => h.1 j (by omega))
theorem xSet {r : Int → Int} {x v : Int} (w : wfR r) (ok : okSet x v) : wW (rSet r x v) = wW r ∧ wM (rSet r x v) = wM r ∧ wB (rSet r x v) = wB r := by
  have h0 := w.1.1
  have h1 : 0 ≤ x ∧ x ≤ 2 := by unfold okSet at ok; omega
  refine keepX w (fun j p q => ?_) (fun j p q => ?_)
  · unfold rSet; simp (disch := omega) only [rup_ne]
  · unfold rSet; simp (disch := omega) only [rup_ne]
theorem xFire {r r' : Int → Int} {h lg mn : Int} (w : wfR r) (hx : isFire r h lg mn r') : wW r' = wW r ∧ wM r' = wM r ∧ wB r' = wB r := by
  have h0 := w.1.1
  exact keepX w (fun j p q => hx.1 j (by omega)) (fun j p q => hx.1 j (by omega))
theorem qX8_bring0 (m : AM) (z : m 0 6 = 0) : CS 4 mX8_bringPlanUpToDate [.inr 0] m (fun v m' => v = none ∧ m = m') := by
  refine cs_of (by decide +kernel) (Nat.le_of_ble_eq_true rfl) rfl ?_
  refine ap_ald_0 (pc := 0) dX8_bringPlanUpToDate_0 ?_
  refine ap_getI (pc := 1) (jz := 6) dX8_bringPlanUpToDate_1 fl_RX8_51 sh_0 rfl rfl ?_
  refine ap_if_eq (pc := 4) 33 dX8_bringPlanUpToDate_4 rfl (by constructor <;> omega) (fun c4 => ?_) (fun c4 => absurd z c4)
  exact ap_return (pc := 33) dX8_bringPlanUpToDate_33 rfl ⟨rfl, rfl⟩
set_option maxHeartbeats 4000000 in
theorem qX8_planned0 (i w : Int) (r : Int → Int) {F : Int → Int} (m : AM) (wR : wfR r) (pF : planF (wW r) (wM r) (wB r) F m) (z : m 0 6 = 0) (hi : rng i) (hw : rng w) : CS 5 mX8_planned [.inr 0, .inl i, .inl w] m (an (if 0 ≤ i ∧ 0 ≤ w ∧ w ≤ 1 then (if m 91 7 = 1 ∧ i < m 91 6 then (if w = 0 then m 96 i else m 97 i) else -4) else -1) m) := by
  refine cs_of (by decide +kernel) (Nat.le_of_ble_eq_true rfl) rfl ?_
  refine ap_ild_1 (pc := 0) dX8_planned_0 ?_
  refine ap_if_lt (pc := 1) 13 dX8_planned_1 rfl ⟨by omega, by omega⟩ (fun c1 => ?_) (fun c1 => ?_)
  · skip
    refine ap_const (pc := 13) dX8_planned_13 ?_
    exact ap_ireturn (pc := 14) dX8_planned_14 rfl ⟨by rw [if_neg (by omega)], rfl⟩
  · skip
    refine ap_ild_2 (pc := 4) dX8_planned_4 ?_
    refine ap_const (pc := 5) dX8_planned_5 ?_
    refine ap_const (pc := 6) dX8_planned_6 ?_
    refine ap_invS (pc := 7) dX8_planned_7 ms_RX8_55 (av := [_, _, _]) (rest := []) (qX8_within _ _ _ _ ⟨by omega, by omega⟩ ⟨by omega, by omega⟩ ⟨by omega, by omega⟩) rfl rfl (Nat.le_of_ble_eq_true rfl) (by decide) (by decide) ?_
    rintro _ _ ⟨⟨w7, rfl⟩ | ⟨w7, rfl⟩, rfl⟩
    · skip
      refine ap_if_ne (pc := 10) 15 dX8_planned_10 rfl ⟨by omega, by omega⟩ (fun _ => ?_) (fun c10 => absurd c10 (by decide))
      refine ap_ald_0 (pc := 15) dX8_planned_15 ?_
      refine ap_invV (pc := 16) dX8_planned_16 mv_RX8_214 sh_0 (av := []) (rest := []) (qX8_bring0 _ z) rfl rfl (Nat.le_of_ble_eq_true rfl) (by decide) (by decide) ?_
      rintro _ _ ⟨rfl, rfl⟩
      have hb7 : m 91 7 = 0 ∨ m 91 7 = 1 := pF.2.2.imp (fun q => q.1) (fun q => q.1)
      have hb6 : 0 ≤ m 91 6 ∧ m 91 6 ≤ 18 := by
        have q0 := pF.2.1 0 (by omega) (last_bd (wOK_of wR)).1.1
        rcases pF.2.2 with q | q
        · rw [q.2.2]; omega
        · rw [q.2.2.1]; omega
      refine ap_ald_0 (pc := 19) dX8_planned_19 ?_
      refine ap_getR (pc := 20) dX8_planned_20 fl_RX8_40 sh_0 rfl ?_
      refine ap_getI (pc := 23) (jz := 7) dX8_planned_23 fl_RX8_217 sh_91 rfl rfl ?_
      skip
      refine ap_if_eq (pc := 26) 40 dX8_planned_26 rfl (by constructor <;> omega) (fun c26 => ?_) (fun c26 => ?_)
      · skip
        refine ap_bipush (pc := 40) dX8_planned_40 bp_m4 ?_
        exact ap_ireturn (pc := 42) dX8_planned_42 rfl ⟨by rw [if_pos (by omega), if_neg (by omega)], rfl⟩
      · skip
        refine ap_ild_1 (pc := 29) dX8_planned_29 ?_
        refine ap_ald_0 (pc := 30) dX8_planned_30 ?_
        refine ap_getR (pc := 31) dX8_planned_31 fl_RX8_40 sh_0 rfl ?_
        refine ap_getI (pc := 34) (jz := 6) dX8_planned_34 fl_RX8_220 sh_91 rfl rfl ?_
        skip
        refine ap_icmp_lt (pc := 37) 43 dX8_planned_37 rfl ⟨by omega, by omega⟩ ⟨by omega, by omega⟩ (fun c37 => ?_) (fun c37 => ?_)
        · skip
          refine ap_ild_2 (pc := 43) dX8_planned_43 ?_
          refine ap_if_ne (pc := 44) 59 dX8_planned_44 rfl ⟨by omega, by omega⟩ (fun c44 => ?_) (fun c44 => ?_)
          · skip
            refine ap_ald_0 (pc := 59) dX8_planned_59 ?_
            refine ap_getR (pc := 60) dX8_planned_60 fl_RX8_40 sh_0 rfl ?_
            refine ap_getR (pc := 63) dX8_planned_63 fl_RX8_224 sh_91 rfl ?_
            refine ap_ild_1 (pc := 66) dX8_planned_66 ?_
            refine ap_iaload (pc := 67) dX8_planned_67 sh_97 (by omega) (by omega) (by decide) ?_
            skip
            exact ap_ireturn (pc := 68) dX8_planned_68 rfl ⟨by rw [if_pos (by omega), if_pos (by omega), if_neg (by omega)], rfl⟩
          · skip
            refine ap_ald_0 (pc := 47) dX8_planned_47 ?_
            refine ap_getR (pc := 48) dX8_planned_48 fl_RX8_40 sh_0 rfl ?_
            refine ap_getR (pc := 51) dX8_planned_51 fl_RX8_221 sh_91 rfl ?_
            refine ap_ild_1 (pc := 54) dX8_planned_54 ?_
            refine ap_iaload (pc := 55) dX8_planned_55 sh_96 (by omega) (by omega) (by decide) ?_
            skip
            refine ap_goto (pc := 56) 68 dX8_planned_56 rfl ?_
            exact ap_ireturn (pc := 68) dX8_planned_68 rfl ⟨by rw [if_pos (by omega), if_pos (by omega), if_pos (by omega)], rfl⟩
        · skip
          refine ap_bipush (pc := 40) dX8_planned_40 bp_m4 ?_
          exact ap_ireturn (pc := 42) dX8_planned_42 rfl ⟨by rw [if_pos (by omega), if_neg (by omega)], rfl⟩
    · skip
      refine ap_if_ne (pc := 10) 15 dX8_planned_10 rfl ⟨by omega, by omega⟩ (fun c10 => absurd c10 (by decide)) (fun _ => ?_)
      refine ap_const (pc := 13) dX8_planned_13 ?_
      exact ap_ireturn (pc := 14) dX8_planned_14 rfl ⟨by rw [if_neg (by omega)], rfl⟩
/-! what stands between two calls: the row, the history, no text, the plan -/
def GI (r : Int → Int) (n : Int) (H : Int → Int → Int) (m : AM) : Prop := (wfR r ∧ agB 1 r m) ∧ (HC n H m ∧ ∀ k : Int, 0 ≤ k → k < n → wfR (H k)) ∧ m 98 1 = 0 ∧ (∀ x : Int, 0 ≤ x → x < 64 → m 93 x = stp x) ∧ (m 0 6 = 0 ∨ m 0 6 = 1) ∧ (m 0 6 = 0 → ∃ F : Int → Int, planF (wW r) (wM r) (wB r) F m)
theorem GI_frame {r : Int → Int} {n : Int} {H : Int → Int → Int} {m m' : AM} (h : ∀ (k : Nat) (j : Int), (k < 83 ∨ 91 ≤ k) → k < 100 → (k ≠ 98 ∨ (j ≠ 2 ∧ j ≠ 3)) → m' k j = m k j) (I : GI r n H m) : GI r n H m' := by
  obtain ⟨⟨w, ga⟩, ⟨h1, h2⟩, t, p1, p2, p3⟩ := I
  refine ⟨⟨w, agB_frame (fun k j a b => h k j (by omega) (by omega) (by omega)) ga⟩, ⟨HC_frame (fun k j a b => h k j (by omega) (by omega) (by omega)) h1, h2⟩, by rw [h 98 1 (by omega) (by omega) (by omega)]; exact t, fun x a b => by rw [h 93 x (by omega) (by omega) (by omega)]; exact p1 x a b, by rw [h 0 6 (by omega) (by omega) (by omega)]; exact p2, fun z => ?_⟩
  rw [h 0 6 (by omega) (by omega) (by omega)] at z
  obtain ⟨F, pF⟩ := p3 z
  exact ⟨F, planF_frame (fun k j a b => by
    by_cases e : k = 98
    · omega
    · exact h k j (by omega) (by omega) (by omega)) pF⟩
theorem GI_same {r : Int → Int} {n : Int} {H : Int → Int → Int} {m m' : AM} (h : ∀ (k : Nat) (j : Int), k < 100 → m' k j = m k j) (I : GI r n H m) : GI r n H m' := GI_frame (fun k j _ b _ => h k j b) I
theorem GI_chg {r r' : Int → Int} {n p : Int} {H : Int → Int → Int} {m m' : AM} (I : GI r n H m) (w' : wfR r') (g : agB 1 r' m') (c : cOK p n H r m m') (hp : p = 1 ∨ (p = m 0 6 ∧ wW r' = wW r ∧ wM r' = wM r ∧ wB r' = wB r)) : GI r' (min (n + 1) 4) (hH n H r) m' := by
  obtain ⟨⟨w, ga⟩, ⟨h1, h2⟩, t, p1, p2, p3⟩ := I
  obtain ⟨c1, c2, c3⟩ := c
  refine ⟨⟨w', g⟩, ⟨c1, hH_wf h1.2.1 w h2⟩, by rw [c2 98 1 (by omega)]; exact t, fun x a b => by rw [c2 93 x (by omega)]; exact p1 x a b, ?_, fun z => ?_⟩
  · rw [c3]
    rcases hp with hp | hp
    · exact Or.inr hp
    · rw [hp.1]; exact p2
  · rw [c3] at z
    rcases hp with hp | ⟨hp, e1, e2, e3⟩
    · omega
    · rw [hp] at z
      obtain ⟨F, hF⟩ := p3 z
      refine ⟨F, ?_⟩
      rw [e1, e2, e3]
      exact planF_frame (fun k j a b => c2 k j (by omega)) hF
theorem GI.n {r : Int → Int} {n : Int} {H : Int → Int → Int} {m : AM} (I : GI r n H m) : 0 ≤ n ∧ n ≤ 4 := I.2.1.1.2.1
/-! rows behind the changes that have no formula yet -/
def rClean (r : Int → Int) : Int → Int := fun j => if (37 ≤ j ∧ j < 114) ∧ ((j - 37) % 11 = 0 ∨ (j - 37) % 11 = 1) then 0 else if j = 119 ∨ j = 120 then 0 else r j
theorem isClean_r (r : Int → Int) : isClean r (rClean r) := by
  refine ⟨fun j h => ?_, ?_, ?_, fun f a b => ⟨?_, ?_⟩⟩
  · unfold rClean; rw [if_neg (by omega), if_neg (by omega)]
  · unfold rClean; rw [if_neg (by omega), if_pos (by omega)]
  · unfold rClean; rw [if_neg (by omega), if_pos (by omega)]
  · simp only [szR]; unfold rClean; rw [if_pos (by omega)]
  · simp only [crR]; unfold rClean; rw [if_pos (by omega)]
noncomputable def rFire (r : Int → Int) (h lg mn : Int) : Int → Int := fun j =>
  if 37 ≤ j ∧ j < 114 then (if (j - 37) % 11 = 1 then (if (j - 37) / 11 < 6 then spC r h lg ((j - 37) / 11) else 0) else if (j - 37) % 11 = 0 then r j else if ((j - 37) % 11 - 2) % 3 = 0 then r j else if ((j - 37) % 11 - 2) % 3 = 1 then spS r h lg ((j - 37) / 11) (((j - 37) % 11 - 2) / 3) else spO r h ((j - 37) / 11) (((j - 37) % 11 - 2) / 3))
  else if j = 117 then r 117 + 1 else if j = 118 then r 118 + mn else if j = 121 then r 121 + sumF r (spU r h lg) 7 else if j = 122 then r 122 + sumF r (spD r h) 7 else if j = 123 then r 123 + sumF r (spB r h) 7 else if j = 124 then r 124 + cntK r h lg 6 else if j = 125 then r 125 + cntM r h lg 6 else r j
theorem isFire_r {r : Int → Int} (w : wfR r) (h lg mn : Int) : isFire r h lg mn (rFire r h lg mn) := by
  refine ⟨fun j q => ?_, ?_, ?_, fun x a b => ?_, fun x a b => ?_, ?_, fun x y a b c d => ?_, ?_, ?_, ?_, ?_, ?_⟩
  · unfold rFire; simp (disch := omega) only [if_neg]
  · unfold rFire; simp (disch := omega) only [if_neg, if_pos, if_true]
  · unfold rFire; simp (disch := omega) only [if_neg, if_pos, if_true]
  · simp only [szR]; unfold rFire; simp (disch := omega) only [if_neg, if_pos]
  · simp only [crR]; unfold rFire
    rw [if_pos (by omega), if_pos (by omega), if_pos (by omega), show (37 + 11 * x + 1 - 37) / 11 = x by omega]
  · simp only [crR]; unfold rFire
    simp (disch := omega) only [if_neg, if_pos]
  · have hz := (w.2.1.1 x a b).1
    refine ⟨?_, ?_, ?_⟩
    · simp only [coR]; unfold rFire
      have e : (37 + 11 * x + 2 + 3 * y + 0 - 37) % 11 = 2 + 3 * y := by omega
      rw [if_pos (by omega), e, if_neg (by omega), if_neg (by omega), if_pos (by omega)]
    · simp only [stR]; unfold rFire
      rw [if_pos (by omega), if_neg (by omega), if_neg (by omega), if_neg (by omega), if_pos (by omega), show (37 + 11 * x + 2 + 3 * y + 1 - 37) / 11 = x by omega, show ((37 + 11 * x + 2 + 3 * y + 1 - 37) % 11 - 2) / 3 = y by omega]
    · simp only [soR]; unfold rFire
      rw [if_pos (by omega), if_neg (by omega), if_neg (by omega), if_neg (by omega), if_neg (by omega), show (37 + 11 * x + 2 + 3 * y + 2 - 37) / 11 = x by omega, show ((37 + 11 * x + 2 + 3 * y + 2 - 37) % 11 - 2) / 3 = y by omega]
  · unfold rFire; simp (disch := omega) only [if_neg, if_pos, if_true]
  · unfold rFire; simp (disch := omega) only [if_neg, if_pos, if_true]
  · unfold rFire; simp (disch := omega) only [if_neg, if_pos, if_true]
  · unfold rFire; simp (disch := omega) only [if_neg, if_pos, if_true]
  · unfold rFire; simp (disch := omega) only [if_neg, if_pos, if_true]
section KS
variable {r : Int → Int} {n : Int} {H : Int → Int → Int} {m : AM}
theorem k_colorInfo (I : GI r n H m) {c w : Int} (hc : rng c) (hw : rng w) : CS 3 mX8_colorInfo [.inr 0, .inl c, .inl w] m (an (vCI r c w) m) := qX8_colorInfo c w r m I.1.1 I.1.2 hc hw
theorem k_layer (I : GI r n H m) {f l w : Int} (hf : rng f) (hl : rng l) (hw : rng w) : CS 2 mX8_layer [.inr 0, .inl f, .inl l, .inl w] m (an (vLY r f l w) m) := qX8_layer f l w r m I.1.1 I.1.2 hf hl hw
theorem k_field (I : GI r n H m) {f w : Int} (hf : rng f) (hw : rng w) : CS 3 mX8_field [.inr 0, .inl f, .inl w] m (an (vFD r f w) m) := qX8_field f w r m I.1.1 I.1.2 hf hw
theorem k_count (I : GI r n H m) {w : Int} (hw : rng w) : CS 3 mX8_count [.inr 0, .inl w] m (an (vCN r n 0 w) m) := qX8_count w n 0 r m I.1.1 I.1.2 hw I.2.1.1.1 I.2.2.1
theorem k_wished (I : GI r n H m) {f k : Int} (hf : rng f) (hk : rng k) : CS 2 mX8_wished [.inr 0, .inl f, .inl k] m (an (vWD r f k) m) := qX8_wished f k r m I.1.1 I.1.2 hf hk
theorem k_counter (I : GI r n H m) : CS 3 mX8_counter [.inr 0] m (an (ctR r) m) := qX8_counter r m I.1.1 I.1.2
theorem k_color (I : GI r n H m) {a b c : Int} (ha : rng a) (hb : rng b) (hc : rng c) : CS 5 mX8_color [.inr 0, .inl a, .inl b, .inl c] m (fun v m' => v = some (vColor r a b c) ∧ ((okColor r a b c ∧ GI (rColor r a b c) (min (n + 1) 4) (hH n H r) m') ∨ (¬ okColor r a b c ∧ m' = m))) :=
  (qX8_color a b c r m I.1.1 I.1.2 I.2.1.1 ha hb hc).mono (Nat.le_refl _) (fun v m' h => ⟨h.1, h.2.imp (fun z => ⟨z.1, GI_chg I (wColor I.1.1 z.1) z.2.1 z.2.2 (Or.inr ⟨rfl, xColor I.1.1 z.1⟩)⟩) id⟩)
theorem k_put (I : GI r n H m) {f c : Int} (hf : rng f) (hc : rng c) : CS 5 mX8_put [.inr 0, .inl f, .inl c] m (fun v m' => v = some (vPut r f c) ∧ ((okPut r f c ∧ GI (rPut r f c) (min (n + 1) 4) (hH n H r) m') ∨ (¬ okPut r f c ∧ m' = m))) :=
  (qX8_put f c r m I.1.1 I.1.2 I.2.1.1 hf hc).mono (Nat.le_refl _) (fun v m' h => ⟨h.1, h.2.imp (fun z => ⟨z.1, GI_chg I (wPut I.1.1 z.1) z.2.1 z.2.2 (Or.inr ⟨rfl, xPut I.1.1 z.1⟩)⟩) id⟩)
theorem k_takeOff (I : GI r n H m) {f : Int} (hf : rng f) : CS 5 mX8_takeOff [.inr 0, .inl f] m (fun v m' => v = some (vTake r f) ∧ ((okTake r f ∧ GI (rTake r f) (min (n + 1) 4) (hH n H r) m') ∨ (¬ okTake r f ∧ m' = m))) :=
  (qX8_takeOff f r m I.1.1 I.1.2 I.2.1.1 hf).mono (Nat.le_refl _) (fun v m' h => ⟨h.1, h.2.imp (fun z => ⟨z.1, GI_chg I (wTake I.1.1 z.1) z.2.1 z.2.2 (Or.inr ⟨rfl, xTake I.1.1 z.1⟩)⟩) id⟩)
theorem k_clean (I : GI r n H m) : CS 5 mX8_clean [.inr 0] m (fun v m' => v = some (layN r) ∧ GI (rClean r) (min (n + 1) 4) (hH n H r) m') :=
  (qX8_clean r m I.1.1 I.1.2 I.2.1.1).mono (Nat.le_refl _) (fun v m' h => ⟨h.1, GI_chg I (wClean I.1.1 (isClean_r r)) (h.2.1 _ (isClean_r r)) h.2.2 (Or.inr ⟨rfl, xClean I.1.1 (isClean_r r)⟩)⟩)
theorem k_set (I : GI r n H m) {w x : Int} (hw : rng w) (hx : rng x) : CS 5 mX8_set [.inr 0, .inl w, .inl x] m (fun v m' => v = some (vSet r w x) ∧ ((okSet w x ∧ GI (rSet r w x) (min (n + 1) 4) (hH n H r) m') ∨ (¬ okSet w x ∧ m' = m))) :=
  (qX8_set w x r m I.1.1 I.1.2 I.2.1.1 hw hx).mono (Nat.le_refl _) (fun v m' h => ⟨h.1, h.2.imp (fun z => ⟨z.1, GI_chg I (wSet I.1.1 z.1) z.2.1 z.2.2 (Or.inr ⟨rfl, xSet I.1.1 z.1⟩)⟩) id⟩)
theorem k_wish (I : GI r n H m) {f c : Int} (hf : rng f) (hc : rng c) : CS 5 mX8_wish [.inr 0, .inl f, .inl c] m (fun v m' => v = some (vWish r f c) ∧ ((okWish r f c ∧ GI (rWish r f c) (min (n + 1) 4) (hH n H r) m') ∨ (¬ okWish r f c ∧ m' = m))) :=
  (qX8_wish f c r m I.1.1 I.1.2 I.2.1.1 hf hc).mono (Nat.le_refl _) (fun v m' h => ⟨h.1, h.2.imp (fun z => ⟨z.1, GI_chg I (wWish I.1.1 z.1) z.2.1 z.2.2 (Or.inl rfl)⟩) id⟩)
theorem k_fire (I : GI r n H m) {h t : Int} (hh : rng h) (ht : rng t) : CS 5 mX8_fire [.inr 0, .inl h, .inl t] m (fun v m' => v = some (vFire r h t) ∧ ((okFire r h t ∧ GI (rFire r h (lgR r t) t) (min (n + 1) 4) (hH n H r) m') ∨ (¬ okFire r h t ∧ m' = m))) :=
  (qX8_fire h t r m I.1.1 I.1.2 I.2.1.1 hh ht).mono (Nat.le_refl _) (fun v m' q => ⟨q.1, q.2.imp (fun z => ⟨z.1, GI_chg I (wFire I.1.1 z.1.2.2 (isFire_r I.1.1 _ _ _)) (z.2.1 _ (isFire_r I.1.1 _ _ _)) z.2.2 (Or.inr ⟨rfl, xFire I.1.1 (isFire_r I.1.1 _ _ _)⟩)⟩) id⟩)
theorem k_undo (I : GI r n H m) : CS 5 mX8_undo [.inr 0] m (fun v m' => v = some (if n = 0 then -2 else n - 1) ∧ ((n ≠ 0 ∧ GI (H (n - 1)) (n - 1) H m') ∨ (n = 0 ∧ m' = m))) :=
  (qX8_undo m I.2.1.1 I.2.1.2).mono (Nat.le_refl _) (fun v m' q => ⟨q.1, q.2.imp (fun z => ⟨z.1, by
    obtain ⟨z0, za, zh, zf, z6⟩ := z
    have hn := GI.n I
    refine ⟨⟨I.2.1.2 _ (by omega) (by omega), za⟩, ⟨zh, fun k a b => I.2.1.2 k a (by omega)⟩, by rw [zf 98 1 (by omega)]; exact I.2.2.1, fun x a b => by rw [zf 93 x (by omega)]; exact I.2.2.2.1 x a b, Or.inr z6, fun c => by omega⟩⟩) id⟩)
theorem k_type (I : GI r n H m) {c : Int} (hc : rng c) (h : ¬ (32 ≤ c ∧ c ≤ 126)) : CS 2 mX8_type [.inr 0, .inl c] m (an (-1) m) :=
  (qX8_type c m hc (by rw [I.2.2.1]; decide)).mono (Nat.le_refl _) (fun v m' q => by
    rcases q.2 with z | z
    · exact absurd z.1.1 h
    · exact ⟨by rw [q.1]; unfold vType; rw [if_neg h], z.2.symm⟩)
theorem k_fault (I : GI r n H m) {w : Int} (hw : rng w) (h : ¬ (0 ≤ w ∧ w ≤ 1)) : CS 4 mX8_fault [.inr 0, .inl w] m (fun v m' => v = some (-1) ∧ GI r n H m') :=
  (qX8_fault (fun _ => 0) 0 w r m I.1.1 I.1.2 ⟨by decide, by decide⟩ I.2.2.1 (fun j a b => by omega) hw).mono (Nat.le_refl _) (fun v m' q => ⟨by rw [q.1]; unfold vFault; rw [if_neg h], GI_frame (fun k j _ _ c => q.2 k j c) I⟩)
theorem k_ifFired (I : GI r n H m) {h w : Int} (hh : rng h) (hw : rng w) : CS 6 mX8_ifFired [.inr 0, .inl h, .inl w] m (fun v m' => v = some (vIF r h w) ∧ GI r n H m') :=
  (qX8_ifFired h w r m I.1.1 I.1.2 hh hw).mono (Nat.le_refl _) (fun v m' q => ⟨q.1, GI_frame (fun k j a _ _ => q.2 k j a) I⟩)
theorem k_bestHeat (I : GI r n H m) : CS 6 mX8_bestHeat [.inr 0] m (fun v m' => (∃ b : Int, v = some b ∧ isBest r b) ∧ GI r n H m') :=
  (qX8_bestHeat r m I.1.1 I.1.2).mono (Nat.le_refl _) (fun v m' q => ⟨q.1, GI_frame (fun k j a _ _ => q.2 k j a) I⟩)
theorem GI_plan {m' : AM} (I : GI r n H m) (hF : ∃ F : Int → Int, planF (wW r) (wM r) (wB r) F m') (z : m' 0 6 = 0) (f : ∀ (k : Nat) (j : Int), (k < 91 ∨ 97 < k ∨ k = 93) → ¬ (k = 0 ∧ j = 6) → m' k j = m k j) : GI r n H m' := by
  obtain ⟨⟨w, ga⟩, ⟨h1, h2⟩, t, p1, p2, p3⟩ := I
  refine ⟨⟨w, agB_frame (fun k j a b => f k j (by omega) (by omega)) ga⟩, ⟨HC_frame (fun k j a b => f k j (by omega) (by omega)) h1, h2⟩, by rw [f 98 1 (by omega) (by omega)]; exact t, fun x a b => by rw [f 93 x (by omega) (by omega)]; exact p1 x a b, Or.inl z, fun _ => hF⟩
theorem k_least (I : GI r n H m) : CS 5 mX8_leastFirings [.inr 0] m (fun v m' => v = some (if m' 91 7 = 1 then m' 91 6 else -4) ∧ (∃ F : Int → Int, planF (wW r) (wM r) (wB r) F m') ∧ m' 0 6 = 0 ∧ GI r n H m') :=
  (qX8_leastFirings r m I.1.1 I.1.2 I.2.2.2.1 I.2.2.2.2.1 I.2.2.2.2.2).mono (Nat.le_refl _) (fun v m' q => ⟨q.1, q.2.1, q.2.2.1, GI_plan I q.2.1 q.2.2.1 q.2.2.2⟩)
theorem k_plannedN (I : GI r n H m) {i w : Int} (hi : rng i) (hw : rng w) (h : ¬ (0 ≤ i ∧ 0 ≤ w ∧ w ≤ 1)) : CS 5 mX8_planned [.inr 0, .inl i, .inl w] m (an (-1) m) :=
  (qX8_planned i w r m I.1.1 I.1.2 I.2.2.2.1 I.2.2.2.2.1 I.2.2.2.2.2 hi hw).mono (Nat.le_refl _) (fun v m' q => by
    rcases q with q | q
    · exact ⟨q.2.1, q.2.2.symm⟩
    · exact absurd q.1 h)
end KS
