set_option maxHeartbeats 4000000 in
theorem qX8_within (v lo hi : Int) (m : AM) (hv : rng v) (h1 : rng lo) (h2 : rng hi) : CS 0 mX8_within [.inl v, .inl lo, .inl hi] m (yn (lo ≤ v ∧ v ≤ hi) m) := by
  refine cs_of (by decide +kernel) (Nat.le_of_ble_eq_true rfl) rfl ?_
  refine ap_ild_0 (pc := 0) dX8_within_0 ?_
  refine ap_ild_1 (pc := 1) dX8_within_1 ?_
  refine ap_icmp_lt (pc := 2) 14 dX8_within_2 rfl ⟨by omega, by omega⟩ ⟨by omega, by omega⟩ (fun c2 => ?_) (fun c2 => ?_)
  · skip
    refine ap_const (pc := 14) dX8_within_14 ?_
    exact ap_zreturn (pc := 15) dX8_within_15 rfl (by decide) ⟨Or.inr ⟨by omega, rfl⟩, rfl⟩
  · skip
    refine ap_ild_0 (pc := 5) dX8_within_5 ?_
    refine ap_ild_2 (pc := 6) dX8_within_6 ?_
    refine ap_icmp_gt (pc := 7) 14 dX8_within_7 rfl ⟨by omega, by omega⟩ ⟨by omega, by omega⟩ (fun c7 => ?_) (fun c7 => ?_)
    · skip
      refine ap_const (pc := 14) dX8_within_14 ?_
      exact ap_zreturn (pc := 15) dX8_within_15 rfl (by decide) ⟨Or.inr ⟨by omega, rfl⟩, rfl⟩
    · skip
      refine ap_const (pc := 10) dX8_within_10 ?_
      refine ap_goto (pc := 11) 15 dX8_within_11 rfl ?_
      exact ap_zreturn (pc := 15) dX8_within_15 rfl (by decide) ⟨Or.inl ⟨by omega, rfl⟩, rfl⟩

set_option maxHeartbeats 4000000 in
theorem qX8_placeOf (f l : Int) (m : AM)  : CS 0 mX8_placeOf [.inl f, .inl l] m (an (f * 3 + l) m) := by
  refine cs_of (by decide +kernel) (Nat.le_of_ble_eq_true rfl) rfl ?_
  refine ap_ild_0 (pc := 0) dX8_placeOf_0 ?_
  refine ap_const (pc := 1) dX8_placeOf_1 ?_
  refine ap_imul (pc := 2) dX8_placeOf_2 ?_
  refine ap_ild_1 (pc := 3) dX8_placeOf_3 ?_
  refine ap_iadd (pc := 4) dX8_placeOf_4 ?_
  exact ap_ireturn (pc := 5) dX8_placeOf_5 rfl ⟨rfl, rfl⟩

set_option maxHeartbeats 4000000 in
theorem qX8_isField (v : Int) (m : AM) (hv : rng v) : CS 1 mX8_isField [.inl v] m (yn (0 ≤ v ∧ v ≤ 6) m) := by
  refine cs_of (by decide +kernel) (Nat.le_of_ble_eq_true rfl) rfl ?_
  refine ap_ild_0 (pc := 0) dX8_isField_0 ?_
  refine ap_const (pc := 1) dX8_isField_1 ?_
  refine ap_bipush (pc := 2) dX8_isField_2 bp_6 ?_
  refine ap_invS (pc := 4) dX8_isField_4 ms_RX8_55 (av := [_, _, _]) (rest := []) (qX8_within _ _ _ _ ⟨by omega, by omega⟩ ⟨by omega, by omega⟩ ⟨by omega, by omega⟩) rfl rfl (Nat.le_of_ble_eq_true rfl) (by decide) (by decide) ?_
  rintro _ _ ⟨⟨w4, rfl⟩ | ⟨w4, rfl⟩, rfl⟩
  · skip
    exact ap_zreturn (pc := 7) dX8_isField_7 rfl (by decide) ⟨Or.inl ⟨by omega, rfl⟩, rfl⟩
  · skip
    exact ap_zreturn (pc := 7) dX8_isField_7 rfl (by decide) ⟨Or.inr ⟨by omega, rfl⟩, rfl⟩

set_option maxHeartbeats 4000000 in
theorem qX8_isFrontField (v : Int) (m : AM) (hv : rng v) : CS 1 mX8_isFrontField [.inl v] m (yn (0 ≤ v ∧ v ≤ 5) m) := by
  refine cs_of (by decide +kernel) (Nat.le_of_ble_eq_true rfl) rfl ?_
  refine ap_ild_0 (pc := 0) dX8_isFrontField_0 ?_
  refine ap_const (pc := 1) dX8_isFrontField_1 ?_
  refine ap_const (pc := 2) dX8_isFrontField_2 ?_
  refine ap_invS (pc := 3) dX8_isFrontField_3 ms_RX8_55 (av := [_, _, _]) (rest := []) (qX8_within _ _ _ _ ⟨by omega, by omega⟩ ⟨by omega, by omega⟩ ⟨by omega, by omega⟩) rfl rfl (Nat.le_of_ble_eq_true rfl) (by decide) (by decide) ?_
  rintro _ _ ⟨⟨w3, rfl⟩ | ⟨w3, rfl⟩, rfl⟩
  · skip
    exact ap_zreturn (pc := 6) dX8_isFrontField_6 rfl (by decide) ⟨Or.inl ⟨by omega, rfl⟩, rfl⟩
  · skip
    exact ap_zreturn (pc := 6) dX8_isFrontField_6 rfl (by decide) ⟨Or.inr ⟨by omega, rfl⟩, rfl⟩

set_option maxHeartbeats 4000000 in
theorem qX8_isColor (v : Int) (m : AM) (hv : rng v) (hn : 0 ≤ m 2 3 ∧ m 2 3 ≤ 12) : CS 1 mX8_isColor [.inr 0, .inl v] m (yn (0 ≤ v ∧ v ≤ m 2 3 - 1) m) := by
  refine cs_of (by decide +kernel) (Nat.le_of_ble_eq_true rfl) rfl ?_
  refine ap_ild_1 (pc := 0) dX8_isColor_0 ?_
  refine ap_const (pc := 1) dX8_isColor_1 ?_
  refine ap_ald_0 (pc := 2) dX8_isColor_2 ?_
  refine ap_getR (pc := 3) dX8_isColor_3 fl_RX8_10 sh_0 rfl ?_
  refine ap_getR (pc := 6) dX8_isColor_6 fl_RX8_59 sh_1 rfl ?_
  refine ap_getI (pc := 9) (jz := 3) dX8_isColor_9 fl_RX8_63 sh_2 rfl rfl ?_
  refine ap_const (pc := 12) dX8_isColor_12 ?_
  refine ap_isub (pc := 13) dX8_isColor_13 ?_
  refine ap_invS (pc := 14) dX8_isColor_14 ms_RX8_55 (av := [_, _, _]) (rest := []) (qX8_within _ _ _ _ ⟨by omega, by omega⟩ ⟨by omega, by omega⟩ ⟨by omega, by omega⟩) rfl rfl (Nat.le_of_ble_eq_true rfl) (by decide) (by decide) ?_
  rintro _ _ ⟨⟨w14, rfl⟩ | ⟨w14, rfl⟩, rfl⟩
  · skip
    exact ap_zreturn (pc := 17) dX8_isColor_17 rfl (by decide) ⟨Or.inl ⟨by omega, rfl⟩, rfl⟩
  · skip
    exact ap_zreturn (pc := 17) dX8_isColor_17 rfl (by decide) ⟨Or.inr ⟨by omega, rfl⟩, rfl⟩

set_option maxHeartbeats 4000000 in
theorem qX3_pullOf (c : Int) (m : AM) (h0 : 0 ≤ c) (h1 : c < 12) : CS 0 mX3_pullOf [.inr 2, .inl c] m (an (170 - m 5 c) m) := by
  refine cs_of (by decide +kernel) (Nat.le_of_ble_eq_true rfl) rfl ?_
  refine ap_sipush (pc := 0) dX3_pullOf_0 sp_170 ?_
  refine ap_ald_0 (pc := 3) dX3_pullOf_3 ?_
  refine ap_getR (pc := 4) dX3_pullOf_4 fl_RX3_18 sh_2 rfl ?_
  refine ap_ild_1 (pc := 7) dX3_pullOf_7 ?_
  refine ap_iaload (pc := 8) dX3_pullOf_8 sh_5 (by omega) (by omega) (by decide) ?_
  refine ap_isub (pc := 9) dX3_pullOf_9 ?_
  exact ap_ireturn (pc := 10) dX3_pullOf_10 rfl ⟨rfl, rfl⟩

set_option maxHeartbeats 4000000 in
theorem qX5_holdsOn {p sz co st so cr : Nat} (hp : isPlate p sz co st so cr) (i : Int) (m : AM) (h0 : 0 ≤ i) (h1 : i < 21) (hs : 0 ≤ m st i ∧ m st i ≤ 4) : CS 0 mX5_holdsOn [.inr p, .inl i] m (yn (holds (m st i)) m) := by
  refine cs_of (by decide +kernel) (Nat.le_of_ble_eq_true rfl) rfl ?_
  refine ap_ald_0 (pc := 0) dX5_holdsOn_0 ?_
  refine ap_getR (pc := 1) dX5_holdsOn_1 fl_RX5_18 hp.o rfl ?_
  refine ap_ild_1 (pc := 4) dX5_holdsOn_4 ?_
  refine ap_iaload (pc := 5) dX5_holdsOn_5 hp.c (by omega) (by omega) (by decide) ?_
  refine ap_const (pc := 6) dX5_holdsOn_6 ?_
  refine ap_icmp_eq (pc := 7) 20 dX5_holdsOn_7 rfl (Or.inr ⟨⟨by omega, by omega⟩, ⟨by omega, by omega⟩⟩) (fun c7 => ?_) (fun c7 => ?_)
  · skip
    refine ap_const (pc := 20) dX5_holdsOn_20 ?_
    refine ap_goto (pc := 21) 25 dX5_holdsOn_21 rfl ?_
    exact ap_zreturn (pc := 25) dX5_holdsOn_25 rfl (by decide) ⟨Or.inl ⟨by omega, rfl⟩, rfl⟩
  · skip
    refine ap_ald_0 (pc := 10) dX5_holdsOn_10 ?_
    refine ap_getR (pc := 11) dX5_holdsOn_11 fl_RX5_18 hp.o rfl ?_
    refine ap_ild_1 (pc := 14) dX5_holdsOn_14 ?_
    refine ap_iaload (pc := 15) dX5_holdsOn_15 hp.c (by omega) (by omega) (by decide) ?_
    refine ap_const (pc := 16) dX5_holdsOn_16 ?_
    refine ap_icmp_ne (pc := 17) 24 dX5_holdsOn_17 rfl (Or.inr ⟨⟨by omega, by omega⟩, ⟨by omega, by omega⟩⟩) (fun c17 => ?_) (fun c17 => ?_)
    · skip
      refine ap_const (pc := 24) dX5_holdsOn_24 ?_
      exact ap_zreturn (pc := 25) dX5_holdsOn_25 rfl (by decide) ⟨Or.inr ⟨by omega, rfl⟩, rfl⟩
    · skip
      refine ap_const (pc := 20) dX5_holdsOn_20 ?_
      refine ap_goto (pc := 21) 25 dX5_holdsOn_21 rfl ?_
      exact ap_zreturn (pc := 25) dX5_holdsOn_25 rfl (by decide) ⟨Or.inl ⟨by omega, rfl⟩, rfl⟩

set_option maxHeartbeats 4000000 in
theorem qX5_pullOf {p sz co st so cr : Nat} (hp : isPlate p sz co st so cr) (f : Int) (m : AM) (h0 : 0 ≤ f) (h1 : f < 7) (hn : 0 ≤ m sz f ∧ m sz f ≤ 3) (hC : ∀ l : Int, 0 ≤ l → l < m sz f → (0 ≤ m co (f * 3 + l) ∧ m co (f * 3 + l) < 12) ∧ (0 ≤ m st (f * 3 + l) ∧ m st (f * 3 + l) ≤ 4)) : CS 1 mX5_pullOf [.inr p, .inl f, .inr 2] m (an (pullS (m sz f) (fun l => m st (f * 3 + l)) (fun l => m 5 (m co (f * 3 + l)))) m) := by
  refine cs_of (by decide +kernel) (Nat.le_of_ble_eq_true rfl) rfl ?_
  refine ap_const (pc := 0) dX5_pullOf_0 ?_
  refine ap_ist_3 (pc := 1) dX5_pullOf_1 (by decide) ?_
  refine ap_const (pc := 2) dX5_pullOf_2 ?_
  refine ap_ist_4 (pc := 3) dX5_pullOf_3 (by decide) ?_
  refine up_rec (m sz f) (fun i => AP 1 mX5_pullOf 5 [some (.inr p), some (.inl f), some (.inr 2), some (.inl (sumL (fun l => if holds (m st (f * 3 + l)) then 170 - m 5 (m co (f * 3 + l)) else 0) i)), some (.inl (i : Int)), none] [] m _) hn.1 (fun i hi ih => ?_)
  refine ap_ild_4 (pc := 5) dX5_pullOf_5 ?_
  refine ap_ald_0 (pc := 7) dX5_pullOf_7 ?_
  refine ap_getR (pc := 8) dX5_pullOf_8 fl_RX5_9 hp.o rfl ?_
  refine ap_ild_1 (pc := 11) dX5_pullOf_11 ?_
  refine ap_iaload (pc := 12) dX5_pullOf_12 hp.a (by omega) (by omega) (by decide) ?_
  refine ap_icmp_ge (pc := 13) 53 dX5_pullOf_13 rfl ⟨by omega, by omega⟩ ⟨by omega, by omega⟩ (fun c13 => ?_) (fun c13 => ?_)
  · skip
    obtain rfl := nat_of hn.1 hi c13
    refine ap_ild_3 (pc := 53) dX5_pullOf_53 ?_
    exact ap_ireturn (pc := 54) dX5_pullOf_54 rfl ⟨rfl, rfl⟩
  · skip
    have hl := hC (i : Int) (by omega) c13
    have hst := hl.2
    refine ap_ild_1 (pc := 16) dX5_pullOf_16 ?_
    refine ap_ild_4 (pc := 17) dX5_pullOf_17 ?_
    refine ap_invS (pc := 19) dX5_pullOf_19 ms_RX5_27 (av := [_, _]) (rest := []) (qX8_placeOf _ _ _) rfl rfl (Nat.le_of_ble_eq_true rfl) (by decide) (by decide) ?_
    rintro _ _ ⟨rfl, rfl⟩
    refine ap_ist_5 (pc := 22) dX5_pullOf_22 (by decide) ?_
    refine ap_ald_0 (pc := 24) dX5_pullOf_24 ?_
    refine ap_ild_5 (pc := 25) dX5_pullOf_25 ?_
    refine ap_invV (pc := 27) dX5_pullOf_27 mv_RX5_35 hp.o (av := [_]) (rest := []) (qX5_holdsOn hp _ _ (by omega) (by omega) hst) rfl rfl (Nat.le_of_ble_eq_true rfl) (by decide) (by decide) ?_
    rintro _ _ ⟨⟨w27, rfl⟩ | ⟨w27, rfl⟩, rfl⟩
    · skip
      refine ap_if_eq (pc := 30) 47 dX5_pullOf_30 rfl ⟨by omega, by omega⟩ (fun c30 => absurd c30 (by decide)) (fun _ => ?_)
      refine ap_ild_3 (pc := 33) dX5_pullOf_33 ?_
      refine ap_ald_2 (pc := 34) dX5_pullOf_34 ?_
      refine ap_ald_0 (pc := 35) dX5_pullOf_35 ?_
      refine ap_getR (pc := 36) dX5_pullOf_36 fl_RX5_15 hp.o rfl ?_
      refine ap_ild_5 (pc := 39) dX5_pullOf_39 ?_
      refine ap_iaload (pc := 41) dX5_pullOf_41 hp.b (by omega) (by omega) (by decide) ?_
      refine ap_invV (pc := 42) dX5_pullOf_42 mv_RX5_39 sh_2 (av := [_]) (rest := [_]) (qX3_pullOf _ _ (by omega) (by omega)) rfl rfl (Nat.le_of_ble_eq_true rfl) (by decide) (by decide) ?_
      rintro _ _ ⟨rfl, rfl⟩
      refine ap_iadd (pc := 45) dX5_pullOf_45 ?_
      refine ap_ist_3 (pc := 46) dX5_pullOf_46 (by decide) ?_
      refine ap_iinc_4 (pc := 47) dX5_pullOf_47 (by decide) ?_
      refine ap_goto (pc := 50) 5 dX5_pullOf_50 rfl ?_
      exact (ih c13).bk ⟨rfl, rfl, rfl, by first | (simp only [sumL_succ, if_pos w27]; done) | simp only [sumL_succ, if_neg w27, Int.add_zero], rfl, trivial, trivial⟩ rfl
    · skip
      refine ap_if_eq (pc := 30) 47 dX5_pullOf_30 rfl ⟨by omega, by omega⟩ (fun _ => ?_) (fun c30 => absurd c30 (by decide))
      refine ap_iinc_4 (pc := 47) dX5_pullOf_47 (by decide) ?_
      refine ap_goto (pc := 50) 5 dX5_pullOf_50 rfl ?_
      exact (ih c13).bk ⟨rfl, rfl, rfl, by first | (simp only [sumL_succ, if_pos w27]; done) | simp only [sumL_succ, if_neg w27, Int.add_zero], rfl, trivial, trivial⟩ rfl

