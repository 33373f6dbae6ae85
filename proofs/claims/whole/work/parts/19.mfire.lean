set_option maxHeartbeats 4000000 in
theorem qX9_layersWith (f a b : Int) (m : AM) (h0 : 0 ≤ f) (h1 : f < 7) (hn : 0 ≤ m 101 (37 + 11 * f) ∧ m 101 (37 + 11 * f) ≤ 3) (hS : ∀ l : Int, 0 ≤ l → l < m 101 (37 + 11 * f) → rng (m 101 (37 + 11 * f + 2 + 3 * l + 1))) (ha : rng a) (hb : rng b) : CS 3 mX9_layersWith [.inr 100, .inl f, .inl a, .inl b] m (an (cntR (m 101) f a b) m) := by
  refine cs_of (by decide +kernel) (Nat.le_of_ble_eq_true rfl) rfl ?_
  refine ap_const (pc := 0) dX9_layersWith_0 ?_
  refine ap_ist_4 (pc := 1) dX9_layersWith_1 (by decide) ?_
  refine ap_const (pc := 3) dX9_layersWith_3 ?_
  refine ap_ist_5 (pc := 4) dX9_layersWith_4 (by decide) ?_
  refine up_rec (m 101 (37 + 11 * f)) (fun i => AP 3 mX9_layersWith 6 [some (.inr 100), some (.inl f), some (.inl a), some (.inl b), some (.inl (sumL (fun l => if a ≤ stR (m 101) f l ∧ stR (m 101) f l ≤ b then 1 else 0) i)), some (.inl (i : Int))] [] m (an (cntR (m 101) f a b) m)) hn.1 (fun i hi ih => ?_)
  refine ap_ild_5 (pc := 6) dX9_layersWith_6 ?_
  refine ap_ald_0 (pc := 8) dX9_layersWith_8 ?_
  refine ap_ild_1 (pc := 9) dX9_layersWith_9 ?_
  refine ap_invV (pc := 10) dX9_layersWith_10 mv_RX9_39 sh_100 (av := [_]) (rest := [_]) (qX9_layers _ _ (by omega) (by omega)) rfl rfl (Nat.le_of_ble_eq_true rfl) (by decide) (by decide) ?_
  rintro _ _ ⟨rfl, rfl⟩
  refine ap_icmp_ge (pc := 13) 48 dX9_layersWith_13 rfl ⟨by omega, by omega⟩ ⟨by omega, by omega⟩ (fun c13 => ?_) (fun c13 => ?_)
  · skip
    obtain rfl := nat_of hn.1 hi c13
    refine ap_ild_4 (pc := 48) dX9_layersWith_48 ?_
    exact ap_ireturn (pc := 50) dX9_layersWith_50 rfl ⟨rfl, rfl⟩
  · skip
    have hst := hS (i : Int) (by omega) c13
    refine ap_ild_4 (pc := 16) dX9_layersWith_16 ?_
    refine ap_ald_0 (pc := 18) dX9_layersWith_18 ?_
    refine ap_ild_1 (pc := 19) dX9_layersWith_19 ?_
    refine ap_ild_5 (pc := 20) dX9_layersWith_20 ?_
    refine ap_const (pc := 22) dX9_layersWith_22 ?_
    refine ap_invV (pc := 23) dX9_layersWith_23 mv_RX9_43 sh_100 (av := [_, _, _]) (rest := [_]) (qX9_of _ _ _ _ (by omega) (by omega) (by omega) (by omega) (by omega) (by omega)) rfl rfl (Nat.le_of_ble_eq_true rfl) (by decide) (by decide) ?_
    rintro _ _ ⟨rfl, rfl⟩
    refine ap_ild_2 (pc := 26) dX9_layersWith_26 ?_
    refine ap_ild_3 (pc := 27) dX9_layersWith_27 ?_
    refine ap_invS (pc := 28) dX9_layersWith_28 ms_RX9_32 (av := [_, _, _]) (rest := [_]) (qX9_in _ _ _ _ ⟨by omega, by omega⟩ ⟨by omega, by omega⟩ ⟨by omega, by omega⟩) rfl rfl (Nat.le_of_ble_eq_true rfl) (by decide) (by decide) ?_
    rintro _ _ ⟨⟨w28, rfl⟩ | ⟨w28, rfl⟩, rfl⟩
    · skip
      refine ap_if_eq (pc := 31) 38 dX9_layersWith_31 rfl ⟨by omega, by omega⟩ (fun c31 => absurd c31 (by decide)) (fun _ => ?_)
      refine ap_const (pc := 34) dX9_layersWith_34 ?_
      refine ap_goto (pc := 35) 39 dX9_layersWith_35 rfl ?_
      refine ap_iadd (pc := 39) dX9_layersWith_39 ?_
      refine ap_ist_4 (pc := 40) dX9_layersWith_40 (by decide) ?_
      refine ap_iinc_5 (pc := 42) dX9_layersWith_42 (by decide) ?_
      refine ap_goto (pc := 45) 6 dX9_layersWith_45 rfl ?_
      exact (ih c13).bk ⟨rfl, rfl, rfl, rfl, by first | (simp only [sumL_succ, if_pos w28]; done) | simp only [sumL_succ, if_neg w28], rfl, trivial⟩ rfl
    · skip
      refine ap_if_eq (pc := 31) 38 dX9_layersWith_31 rfl ⟨by omega, by omega⟩ (fun _ => ?_) (fun c31 => absurd c31 (by decide))
      refine ap_const (pc := 38) dX9_layersWith_38 ?_
      refine ap_iadd (pc := 39) dX9_layersWith_39 ?_
      refine ap_ist_4 (pc := 40) dX9_layersWith_40 (by decide) ?_
      refine ap_iinc_5 (pc := 42) dX9_layersWith_42 (by decide) ?_
      refine ap_goto (pc := 45) 6 dX9_layersWith_45 rfl ?_
      exact (ih c13).bk ⟨rfl, rfl, rfl, rfl, by first | (simp only [sumL_succ, if_pos w28]; done) | simp only [sumL_succ, if_neg w28], rfl, trivial⟩ rfl

set_option maxHeartbeats 4000000 in
theorem qX9_pull (f : Int) (m : AM) (h0 : 0 ≤ f) (h1 : f < 7) (hn : 0 ≤ m 101 (37 + 11 * f) ∧ m 101 (37 + 11 * f) ≤ 3) (hC : ∀ l : Int, 0 ≤ l → l < m 101 (37 + 11 * f) → (0 ≤ coR (m 101) f l ∧ coR (m 101) f l < 12) ∧ (0 ≤ stR (m 101) f l ∧ stR (m 101) f l ≤ 4)) : CS 3 mX9_pull [.inr 100, .inl f] m (an (pullS (szR (m 101) f) (fun l => stR (m 101) f l) (fun l => exR (m 101) (coR (m 101) f l))) m) := by
  refine cs_of (by decide +kernel) (Nat.le_of_ble_eq_true rfl) rfl ?_
  refine ap_const (pc := 0) dX9_pull_0 ?_
  refine ap_ist_2 (pc := 1) dX9_pull_1 (by decide) ?_
  refine ap_const (pc := 2) dX9_pull_2 ?_
  refine ap_ist_3 (pc := 3) dX9_pull_3 (by decide) ?_
  refine up_rec (m 101 (37 + 11 * f)) (fun i => AP 3 mX9_pull 4 [some (.inr 100), some (.inl f), some (.inl (sumL (fun l => if holds (stR (m 101) f l) then 170 - exR (m 101) (coR (m 101) f l) else 0) i)), some (.inl (i : Int))] [] m (an (pullS (szR (m 101) f) (fun l => stR (m 101) f l) (fun l => exR (m 101) (coR (m 101) f l))) m)) hn.1 (fun i hi ih => ?_)
  refine ap_ild_3 (pc := 4) dX9_pull_4 ?_
  refine ap_ald_0 (pc := 5) dX9_pull_5 ?_
  refine ap_ild_1 (pc := 6) dX9_pull_6 ?_
  refine ap_invV (pc := 7) dX9_pull_7 mv_RX9_39 sh_100 (av := [_]) (rest := [_]) (qX9_layers _ _ (by omega) (by omega)) rfl rfl (Nat.le_of_ble_eq_true rfl) (by decide) (by decide) ?_
  rintro _ _ ⟨rfl, rfl⟩
  refine ap_icmp_ge (pc := 10) 52 dX9_pull_10 rfl ⟨by omega, by omega⟩ ⟨by omega, by omega⟩ (fun c10 => ?_) (fun c10 => ?_)
  · skip
    obtain rfl := nat_of hn.1 hi c10
    refine ap_ild_2 (pc := 52) dX9_pull_52 ?_
    exact ap_ireturn (pc := 53) dX9_pull_53 rfl ⟨rfl, rfl⟩
  · skip
    have hst := hC (i : Int) (by omega) c10
    simp only [coR, stR] at hst
    refine ap_ild_2 (pc := 13) dX9_pull_13 ?_
    refine ap_ald_0 (pc := 14) dX9_pull_14 ?_
    refine ap_ild_1 (pc := 15) dX9_pull_15 ?_
    refine ap_ild_3 (pc := 16) dX9_pull_16 ?_
    refine ap_const (pc := 17) dX9_pull_17 ?_
    refine ap_invV (pc := 18) dX9_pull_18 mv_RX9_43 sh_100 (av := [_, _, _]) (rest := [_]) (qX9_of _ _ _ _ (by omega) (by omega) (by omega) (by omega) (by omega) (by omega)) rfl rfl (Nat.le_of_ble_eq_true rfl) (by decide) (by decide) ?_
    rintro _ _ ⟨rfl, rfl⟩
    refine ap_const (pc := 21) dX9_pull_21 ?_
    refine ap_const (pc := 22) dX9_pull_22 ?_
    refine ap_invS (pc := 23) dX9_pull_23 ms_RX9_32 (av := [_, _, _]) (rest := [_]) (qX9_in _ _ _ _ ⟨by omega, by omega⟩ ⟨by omega, by omega⟩ ⟨by omega, by omega⟩) rfl rfl (Nat.le_of_ble_eq_true rfl) (by decide) (by decide) ?_
    rintro _ _ ⟨⟨w23, rfl⟩ | ⟨w23, rfl⟩, rfl⟩
    · skip
      refine ap_if_eq (pc := 26) 43 dX9_pull_26 rfl ⟨by omega, by omega⟩ (fun c26 => absurd c26 (by decide)) (fun _ => ?_)
      refine ap_ald_0 (pc := 29) dX9_pull_29 ?_
      refine ap_ald_0 (pc := 30) dX9_pull_30 ?_
      refine ap_ild_1 (pc := 31) dX9_pull_31 ?_
      refine ap_ild_3 (pc := 32) dX9_pull_32 ?_
      refine ap_const (pc := 33) dX9_pull_33 ?_
      refine ap_invV (pc := 34) dX9_pull_34 mv_RX9_43 sh_100 (av := [_, _, _]) (rest := [_, _]) (qX9_of _ _ _ _ (by omega) (by omega) (by omega) (by omega) (by omega) (by omega)) rfl rfl (Nat.le_of_ble_eq_true rfl) (by decide) (by decide) ?_
      rintro _ _ ⟨rfl, rfl⟩
      refine ap_invV (pc := 37) dX9_pull_37 mv_RX9_51 sh_100 (av := [_]) (rest := [_]) (qX9_pullOf _ _ (by omega) (by omega)) rfl rfl (Nat.le_of_ble_eq_true rfl) (by decide) (by decide) ?_
      rintro _ _ ⟨rfl, rfl⟩
      refine ap_goto (pc := 40) 44 dX9_pull_40 rfl ?_
      refine ap_iadd (pc := 44) dX9_pull_44 ?_
      refine ap_ist_2 (pc := 45) dX9_pull_45 (by decide) ?_
      refine ap_iinc_3 (pc := 46) dX9_pull_46 (by decide) ?_
      refine ap_goto (pc := 49) 4 dX9_pull_49 rfl ?_
      have hh : holds (stR (m 101) f i) ↔ (2 ≤ stR (m 101) f i ∧ stR (m 101) f i ≤ 3) := by constructor <;> intro z <;> omega
      rw [← hh] at w23
      exact (ih c10).bk ⟨rfl, rfl, by first | (simp only [sumL_succ, if_pos w23]; done) | simp only [sumL_succ, if_neg w23], rfl, trivial⟩ rfl
    · skip
      refine ap_if_eq (pc := 26) 43 dX9_pull_26 rfl ⟨by omega, by omega⟩ (fun _ => ?_) (fun c26 => absurd c26 (by decide))
      refine ap_const (pc := 43) dX9_pull_43 ?_
      refine ap_iadd (pc := 44) dX9_pull_44 ?_
      refine ap_ist_2 (pc := 45) dX9_pull_45 (by decide) ?_
      refine ap_iinc_3 (pc := 46) dX9_pull_46 (by decide) ?_
      refine ap_goto (pc := 49) 4 dX9_pull_49 rfl ?_
      have hh : holds (stR (m 101) f i) ↔ (2 ≤ stR (m 101) f i ∧ stR (m 101) f i ≤ 3) := by constructor <;> intro z <;> omega
      rw [← hh] at w23
      exact (ih c10).bk ⟨rfl, rfl, by first | (simp only [sumL_succ, if_pos w23]; done) | simp only [sumL_succ, if_neg w23], rfl, trivial⟩ rfl

set_option maxHeartbeats 4000000 in
theorem qX9_strain (f b : Int) (m : AM) (h0 : 0 ≤ f) (h1 : f < 7) (hb : -1000 ≤ b ∧ b ≤ 1000) (hn : ∀ f : Int, 0 ≤ f → f < 7 → 0 ≤ m 101 (37 + 11 * f) ∧ m 101 (37 + 11 * f) ≤ 3) (hC : ∀ f l : Int, 0 ≤ f → f < 7 → 0 ≤ l → l < m 101 (37 + 11 * f) → (0 ≤ coR (m 101) f l ∧ coR (m 101) f l < 12) ∧ (0 ≤ stR (m 101) f l ∧ stR (m 101) f l ≤ 4)) (hX : ∀ f l : Int, 0 ≤ f → f < 7 → 0 ≤ l → l < m 101 (37 + 11 * f) → 60 ≤ exR (m 101) (coR (m 101) f l) ∧ exR (m 101) (coR (m 101) f l) ≤ 160) : CS 4 mX9_strain [.inr 100, .inl f, .inl b] m (an (iab ((pullS (szR (m 101) f) (fun l => stR (m 101) f l) (fun l => exR (m 101) (coR (m 101) f l))) - b)) m) := by
  refine cs_of (by decide +kernel) (Nat.le_of_ble_eq_true rfl) rfl ?_
  have hb1 := pullS_bd (n := szR (m 101) f) (St := fun l => stR (m 101) f l) (Ex := fun l => exR (m 101) (coR (m 101) f l)) (hn f h0 (by omega)).2 (fun l a b => hX f l h0 (by omega) a b)
  refine ap_ald_0 (pc := 0) dX9_strain_0 ?_
  refine ap_ild_1 (pc := 1) dX9_strain_1 ?_
  refine ap_invV (pc := 2) dX9_strain_2 mv_RX9_76 sh_100 (av := [_]) (rest := []) (qX9_pull _ _ (by omega) (by omega) (hn _ (by omega) (by omega)) (fun l a b => hC _ l (by omega) (by omega) a b)) rfl rfl (Nat.le_of_ble_eq_true rfl) (by decide) (by decide) ?_
  rintro _ _ ⟨rfl, rfl⟩
  refine ap_ild_2 (pc := 5) dX9_strain_5 ?_
  refine ap_isub (pc := 6) dX9_strain_6 ?_
  refine ap_ist_3 (pc := 7) dX9_strain_7 (by decide) ?_
  refine ap_ild_3 (pc := 8) dX9_strain_8 ?_
  refine ap_if_ge (pc := 9) 17 dX9_strain_9 rfl ⟨by omega, by omega⟩ (fun c9 => ?_) (fun c9 => ?_)
  · skip
    refine ap_ild_3 (pc := 17) dX9_strain_17 ?_
    exact ap_ireturn (pc := 18) dX9_strain_18 rfl ⟨by unfold iab; first | rw [if_pos (by omega)] | rw [if_neg (by omega)], rfl⟩
  · skip
    refine ap_ild_3 (pc := 12) dX9_strain_12 ?_
    refine ap_ineg (pc := 13) dX9_strain_13 ?_
    refine ap_goto (pc := 14) 18 dX9_strain_14 rfl ?_
    exact ap_ireturn (pc := 18) dX9_strain_18 rfl ⟨by unfold iab; first | rw [if_pos (by omega)] | rw [if_neg (by omega)], rfl⟩
