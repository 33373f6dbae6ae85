
/-- the plan that the class keeps, by any table of what is left -/
theorem planF_L {W : Int → Int} {M B : Int → Int → Int} (w : wOK W M B) {F L : Int → Int} {m : AM} (p : planF W M B F m) (hL : isLF W M B L) : (L 0 < 0 ∧ m 91 7 = 0 ∧ m 91 6 = 0) ∨ (0 ≤ L 0 ∧ m 91 7 = 1 ∧ m 91 6 = L 0 ∧ ∃ S : Int → Int, isWay W M B L (L 0) S (m 96) (m 97)) := by
  obtain ⟨hF, hr, q⟩ := p
  have v0 : valS W 0 := fun f a b => by
    have e : dg 0 f = 0 := by unfold dg; rw [Int.zero_ediv]; rfl
    rw [e]; exact (w f a b).1.1
  have e0 := LF_eq w hL hF (s := 0) (by omega) (by omega) v0
  by_cases l0 : L 0 < 0
  · refine Or.inl ⟨l0, ?_⟩
    have := (e0.1 l0).2
    rcases q with ⟨a, b, c⟩ | ⟨a, b, c, d⟩
    · exact ⟨a, c⟩
    · omega
  · have e1 := e0.2 (by omega)
    rcases q with ⟨a, b, c⟩ | ⟨a, b, c, S, s0, d⟩
    · omega
    · refine Or.inr ⟨by omega, a, by rw [c]; exact e1.1, S, s0, fun k k0 k1 => ?_⟩
      obtain ⟨⟨g1, g2, g3⟩, ⟨h1, h2, h3, h4⟩, i1, i2⟩ := d k k0 (by rw [e1.1]; exact k1)
      have q0 := LF_eq w hL hF g2.1 g2.2 g1
      have nx := op_next w g2.1 g2.2 g1 h2.1
      have q1 := LF_eq w hL hF nx.1.1 nx.1.2 nx.2.2
      have ls : 0 ≤ L (S k) := by
        by_cases z : 0 ≤ L (S k)
        · exact z
        · have := (q0.1 (by omega)).2; omega
      have fs := (q0.2 ls).1
      have ln : 0 ≤ L (S k + stp (m 96 k)) := by
        by_cases z : 0 ≤ L (S k + stp (m 96 k))
        · exact z
        · have := (q1.1 (by omega)).2; omega
      have fn := (q1.2 ln).1
      refine ⟨⟨h1, h2, by omega, fun y hy oy z => ?_⟩, i1, i2⟩
      have ny := op_next w g2.1 g2.2 g1 oy.1
      have q2 := LF_eq w hL hF ny.1.1 ny.1.2 ny.2.2
      have fy := (q2.2 (by omega)).1
      exact h4 y hy oy (by omega)
set_option maxHeartbeats 4000000 in
theorem qX8_bringPlanUpToDate (r : Int → Int) (m : AM) (wR : wfR r) (g : agB 1 r m) (h93 : ∀ x : Int, 0 ≤ x → x < 64 → m 93 x = stp x) (hp : m 0 6 = 0 ∨ m 0 6 = 1) (hpl : m 0 6 = 0 → ∃ F : Int → Int, planF (wW r) (wM r) (wB r) F m) : CS 4 mX8_bringPlanUpToDate [.inr 0] m (fun v m' => v = none ∧ (∃ F : Int → Int, planF (wW r) (wM r) (wB r) F m') ∧ m' 0 6 = 0 ∧ ∀ (k : Nat) (j : Int), (k < 91 ∨ 97 < k ∨ k = 93) → ¬ (k = 0 ∧ j = 6) → m' k j = m k j) := by
  refine cs_of (by decide +kernel) (Nat.le_of_ble_eq_true rfl) rfl ?_
  refine ap_ald_0 (pc := 0) dX8_bringPlanUpToDate_0 ?_
  refine ap_getI (pc := 1) (jz := 6) dX8_bringPlanUpToDate_1 fl_RX8_51 sh_0 rfl rfl ?_
  refine ap_if_eq (pc := 4) 33 dX8_bringPlanUpToDate_4 rfl (by constructor <;> omega) (fun c4 => ?_) (fun c4 => ?_)
  · skip
    exact ap_return (pc := 33) dX8_bringPlanUpToDate_33 rfl ⟨rfl, hpl c4, c4, fun _ _ _ _ => rfl⟩
  · skip
    refine ap_ald_0 (pc := 7) dX8_bringPlanUpToDate_7 ?_
    refine ap_getR (pc := 8) dX8_bringPlanUpToDate_8 fl_RX8_40 sh_0 rfl ?_
    refine ap_ald_0 (pc := 11) dX8_bringPlanUpToDate_11 ?_
    refine ap_getR (pc := 12) dX8_bringPlanUpToDate_12 fl_RX8_10 sh_0 rfl ?_
    refine ap_getR (pc := 15) dX8_bringPlanUpToDate_15 fl_RX8_101 sh_1 rfl ?_
    refine ap_ald_0 (pc := 18) dX8_bringPlanUpToDate_18 ?_
    refine ap_getR (pc := 19) dX8_bringPlanUpToDate_19 fl_RX8_10 sh_0 rfl ?_
    refine ap_getR (pc := 22) dX8_bringPlanUpToDate_22 fl_RX8_59 sh_1 rfl ?_
    refine ap_invV (pc := 25) dX8_bringPlanUpToDate_25 mv_RX8_257 sh_91 (av := [_, _]) (rest := []) (qX4_search _ (wOK_of wR) (clP_of wR g) h93) rfl rfl (Nat.le_of_ble_eq_true rfl) (by decide) (by decide) ?_
    rintro _ m2 ⟨rfl, ⟨F, pF⟩, f2⟩
    refine ap_ald_0 (pc := 28) dX8_bringPlanUpToDate_28 ?_
    refine ap_const (pc := 29) dX8_bringPlanUpToDate_29 ?_
    refine ap_putI (pc := 30) (jz := 6) dX8_bringPlanUpToDate_30 fn_RX8_51 sh_0 rfl rfl (fun _ => by decide) ?_
    exact ap_return (pc := 33) dX8_bringPlanUpToDate_33 rfl ⟨rfl, ⟨F, by obtain ⟨a, b, c⟩ := pF; exact ⟨a, b, by simp (disch := omega) only [am_k, am_kF]; exact c⟩⟩, by rw [am_same], fun k j q q2 => by rw [am_ne q2]; exact f2 k j q⟩

set_option maxHeartbeats 4000000 in
theorem qX8_leastFirings (r : Int → Int) (m : AM) (wR : wfR r) (g : agB 1 r m) (h93 : ∀ x : Int, 0 ≤ x → x < 64 → m 93 x = stp x) (hp : m 0 6 = 0 ∨ m 0 6 = 1) (hpl : m 0 6 = 0 → ∃ F : Int → Int, planF (wW r) (wM r) (wB r) F m) : CS 5 mX8_leastFirings [.inr 0] m (fun v m' => v = some (if m' 91 7 = 1 then m' 91 6 else -4) ∧ (∃ F : Int → Int, planF (wW r) (wM r) (wB r) F m') ∧ m' 0 6 = 0 ∧ ∀ (k : Nat) (j : Int), (k < 91 ∨ 97 < k ∨ k = 93) → ¬ (k = 0 ∧ j = 6) → m' k j = m k j) := by
  refine cs_of (by decide +kernel) (Nat.le_of_ble_eq_true rfl) rfl ?_
  refine ap_ald_0 (pc := 0) dX8_leastFirings_0 ?_
  refine ap_invV (pc := 1) dX8_leastFirings_1 mv_RX8_214 sh_0 (av := []) (rest := []) (qX8_bringPlanUpToDate r _ wR g h93 hp hpl) rfl rfl (Nat.le_of_ble_eq_true rfl) (by decide) (by decide) ?_
  rintro _ m2 ⟨rfl, ⟨F, pF⟩, z2, f2⟩
  have hb7 : m2 91 7 = 0 ∨ m2 91 7 = 1 := pF.2.2.imp (fun q => q.1) (fun q => q.1)
  have hb6 : 0 ≤ m2 91 6 ∧ m2 91 6 ≤ 18 := by
    have q0 := pF.2.1 0 (by omega) (last_bd (wOK_of wR)).1.1
    rcases pF.2.2 with q | q
    · rw [q.2.2]; omega
    · rw [q.2.2.1]; omega
  refine ap_ald_0 (pc := 4) dX8_leastFirings_4 ?_
  refine ap_getR (pc := 5) dX8_leastFirings_5 fl_RX8_40 sh_0 rfl ?_
  refine ap_getI (pc := 8) (jz := 7) dX8_leastFirings_8 fl_RX8_217 sh_91 rfl rfl ?_
  skip
  refine ap_if_eq (pc := 11) 24 dX8_leastFirings_11 rfl (by constructor <;> omega) (fun c11 => ?_) (fun c11 => ?_)
  · skip
    refine ap_bipush (pc := 24) dX8_leastFirings_24 bp_m4 ?_
    exact ap_ireturn (pc := 26) dX8_leastFirings_26 rfl ⟨by rw [if_neg (by omega)], ⟨F, pF⟩, z2, f2⟩
  · skip
    refine ap_ald_0 (pc := 14) dX8_leastFirings_14 ?_
    refine ap_getR (pc := 15) dX8_leastFirings_15 fl_RX8_40 sh_0 rfl ?_
    refine ap_getI (pc := 18) (jz := 6) dX8_leastFirings_18 fl_RX8_220 sh_91 rfl rfl ?_
    skip
    refine ap_goto (pc := 21) 26 dX8_leastFirings_21 rfl ?_
    exact ap_ireturn (pc := 26) dX8_leastFirings_26 rfl ⟨by rw [if_pos (by omega)], ⟨F, pF⟩, z2, f2⟩

set_option maxHeartbeats 4000000 in
theorem qX8_planned (i w : Int) (r : Int → Int) (m : AM) (wR : wfR r) (g : agB 1 r m) (h93 : ∀ x : Int, 0 ≤ x → x < 64 → m 93 x = stp x) (hp : m 0 6 = 0 ∨ m 0 6 = 1) (hpl : m 0 6 = 0 → ∃ F : Int → Int, planF (wW r) (wM r) (wB r) F m) (hi : rng i) (hw : rng w) : CS 5 mX8_planned [.inr 0, .inl i, .inl w] m (fun v m' => (¬ (0 ≤ i ∧ 0 ≤ w ∧ w ≤ 1) ∧ v = some (-1) ∧ m' = m) ∨ ((0 ≤ i ∧ 0 ≤ w ∧ w ≤ 1) ∧ v = some (if m' 91 7 = 1 ∧ i < m' 91 6 then (if w = 0 then m' 96 i else m' 97 i) else -4) ∧ (∃ F : Int → Int, planF (wW r) (wM r) (wB r) F m') ∧ m' 0 6 = 0 ∧ ∀ (k : Nat) (j : Int), (k < 91 ∨ 97 < k ∨ k = 93) → ¬ (k = 0 ∧ j = 6) → m' k j = m k j)) := by
  refine cs_of (by decide +kernel) (Nat.le_of_ble_eq_true rfl) rfl ?_
  refine ap_ild_1 (pc := 0) dX8_planned_0 ?_
  refine ap_if_lt (pc := 1) 13 dX8_planned_1 rfl ⟨by omega, by omega⟩ (fun c1 => ?_) (fun c1 => ?_)
  · skip
    refine ap_const (pc := 13) dX8_planned_13 ?_
    exact ap_ireturn (pc := 14) dX8_planned_14 rfl (Or.inl ⟨by omega, rfl, rfl⟩)
  · skip
    refine ap_ild_2 (pc := 4) dX8_planned_4 ?_
    refine ap_const (pc := 5) dX8_planned_5 ?_
    refine ap_const (pc := 6) dX8_planned_6 ?_
    refine ap_invS (pc := 7) dX8_planned_7 ms_RX8_55 (av := [_, _, _]) (rest := []) (qX8_within _ _ _ _ ⟨by omega, by omega⟩ ⟨by omega, by omega⟩ ⟨by omega, by omega⟩) rfl rfl (Nat.le_of_ble_eq_true rfl) (by decide) (by decide) ?_
    rintro _ _ ⟨⟨w7, rfl⟩ | ⟨w7, rfl⟩, rfl⟩
    · skip
      refine ap_if_ne (pc := 10) 15 dX8_planned_10 rfl ⟨by omega, by omega⟩ (fun _ => ?_) (fun c10 => absurd c10 (by decide))
      refine ap_ald_0 (pc := 15) dX8_planned_15 ?_
      refine ap_invV (pc := 16) dX8_planned_16 mv_RX8_214 sh_0 (av := []) (rest := []) (qX8_bringPlanUpToDate r _ wR g h93 hp hpl) rfl rfl (Nat.le_of_ble_eq_true rfl) (by decide) (by decide) ?_
      rintro _ m2 ⟨rfl, ⟨F, pF⟩, z2, f2⟩
      have hb7 : m2 91 7 = 0 ∨ m2 91 7 = 1 := pF.2.2.imp (fun q => q.1) (fun q => q.1)
      have hb6 : 0 ≤ m2 91 6 ∧ m2 91 6 ≤ 18 := by
        have q0 := pF.2.1 0 (by omega) (last_bd (wOK_of wR)).1.1
        rcases pF.2.2 with q | q
        · rw [q.2.2]; omega
        · rw [q.2.2.1]; omega
      refine ap_ald_0 (pc := 19) dX8_planned_19 ?_
      refine ap_getR (pc := 20) dX8_planned_20 fl_RX8_40 sh_0 rfl ?_
      refine ap_getI (pc := 23) (jz := 7) dX8_planned_23 fl_RX8_217 sh_91 rfl rfl ?_
      skip
      refine ap_if_eq (pc := 26) 40 dX8_planned_26 rfl (by constructor <;> omega) (fun c26 => ?_) (fun c26 => ?_)
      · skip
        refine ap_bipush (pc := 40) dX8_planned_40 bp_m4 ?_
        exact ap_ireturn (pc := 42) dX8_planned_42 rfl (Or.inr ⟨by omega, by rw [if_neg (by omega)], ⟨F, pF⟩, z2, f2⟩)
      · skip
        refine ap_ild_1 (pc := 29) dX8_planned_29 ?_
        refine ap_ald_0 (pc := 30) dX8_planned_30 ?_
        refine ap_getR (pc := 31) dX8_planned_31 fl_RX8_40 sh_0 rfl ?_
        refine ap_getI (pc := 34) (jz := 6) dX8_planned_34 fl_RX8_220 sh_91 rfl rfl ?_
        skip
        refine ap_icmp_lt (pc := 37) 43 dX8_planned_37 rfl ⟨by omega, by omega⟩ ⟨by omega, by omega⟩ (fun c37 => ?_) (fun c37 => ?_)
        · skip
          refine ap_ild_2 (pc := 43) dX8_planned_43 ?_
          refine ap_if_ne (pc := 44) 59 dX8_planned_44 rfl ⟨by omega, by omega⟩ (fun c44 => ?_) (fun c44 => ?_)
          · skip
            refine ap_ald_0 (pc := 59) dX8_planned_59 ?_
            refine ap_getR (pc := 60) dX8_planned_60 fl_RX8_40 sh_0 rfl ?_
            refine ap_getR (pc := 63) dX8_planned_63 fl_RX8_224 sh_91 rfl ?_
            refine ap_ild_1 (pc := 66) dX8_planned_66 ?_
            refine ap_iaload (pc := 67) dX8_planned_67 sh_97 (by omega) (by omega) (by decide) ?_
            skip
            exact ap_ireturn (pc := 68) dX8_planned_68 rfl (Or.inr ⟨by omega, by rw [if_pos (by omega), if_neg (by omega)], ⟨F, pF⟩, z2, f2⟩)
          · skip
            refine ap_ald_0 (pc := 47) dX8_planned_47 ?_
            refine ap_getR (pc := 48) dX8_planned_48 fl_RX8_40 sh_0 rfl ?_
            refine ap_getR (pc := 51) dX8_planned_51 fl_RX8_221 sh_91 rfl ?_
            refine ap_ild_1 (pc := 54) dX8_planned_54 ?_
            refine ap_iaload (pc := 55) dX8_planned_55 sh_96 (by omega) (by omega) (by decide) ?_
            skip
            refine ap_goto (pc := 56) 68 dX8_planned_56 rfl ?_
            exact ap_ireturn (pc := 68) dX8_planned_68 rfl (Or.inr ⟨by omega, by rw [if_pos (by omega), if_pos (by omega)], ⟨F, pF⟩, z2, f2⟩)
        · skip
          refine ap_bipush (pc := 40) dX8_planned_40 bp_m4 ?_
          exact ap_ireturn (pc := 42) dX8_planned_42 rfl (Or.inr ⟨by omega, by rw [if_neg (by omega)], ⟨F, pF⟩, z2, f2⟩)
    · skip
      refine ap_if_ne (pc := 10) 15 dX8_planned_10 rfl ⟨by omega, by omega⟩ (fun c10 => absurd c10 (by decide)) (fun _ => ?_)
      refine ap_const (pc := 13) dX8_planned_13 ?_
      exact ap_ireturn (pc := 14) dX8_planned_14 rfl (Or.inl ⟨by omega, rfl, rfl⟩)

