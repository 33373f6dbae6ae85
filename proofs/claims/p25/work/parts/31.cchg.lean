set_option maxHeartbeats 4000000 in
theorem qX3_append (a b c : Int) (m : AM) (hn : 0 ≤ m 2 3 ∧ m 2 3 < 12) : CS 0 mX3_append [.inr 2, .inl a, .inl b, .inl c] m (fun v m' => v = some (m 2 3 + 1 - 1) ∧ m' = am_up (am_up (am_up (am_up m 3 (m 2 3) a) 4 (m 2 3) b) 5 (m 2 3) c) 2 3 (m 2 3 + 1)) := by
  refine cs_of (by decide +kernel) (Nat.le_of_ble_eq_true rfl) rfl ?_
  refine ap_ald_0 (pc := 0) dX3_append_0 ?_
  refine ap_getR (pc := 1) dX3_append_1 fl_RX3_9 sh_2 rfl ?_
  refine ap_ald_0 (pc := 4) dX3_append_4 ?_
  refine ap_getI (pc := 5) (jz := 3) dX3_append_5 fl_RX3_21 sh_2 rfl rfl ?_
  refine ap_ild_1 (pc := 8) dX3_append_8 ?_
  refine ap_iastore (pc := 9) dX3_append_9 sh_3 (by omega) (by omega) (by decide) ?_
  refine ap_ald_0 (pc := 10) dX3_append_10 ?_
  refine ap_getR (pc := 11) dX3_append_11 fl_RX3_15 sh_2 rfl ?_
  refine ap_ald_0 (pc := 14) dX3_append_14 ?_
  refine ap_getI (pc := 15) (jz := 3) dX3_append_15 fl_RX3_21 sh_2 rfl rfl ?_
  try simp (disch := omega) only [am_same, am_k, am_j]
  refine ap_ild_2 (pc := 18) dX3_append_18 ?_
  refine ap_iastore (pc := 19) dX3_append_19 sh_4 (by omega) (by omega) (by decide) ?_
  refine ap_ald_0 (pc := 20) dX3_append_20 ?_
  refine ap_getR (pc := 21) dX3_append_21 fl_RX3_18 sh_2 rfl ?_
  refine ap_ald_0 (pc := 24) dX3_append_24 ?_
  refine ap_getI (pc := 25) (jz := 3) dX3_append_25 fl_RX3_21 sh_2 rfl rfl ?_
  try simp (disch := omega) only [am_same, am_k, am_j]
  refine ap_ild_3 (pc := 28) dX3_append_28 ?_
  refine ap_iastore (pc := 29) dX3_append_29 sh_5 (by omega) (by omega) (by decide) ?_
  refine ap_ald_0 (pc := 30) dX3_append_30 ?_
  refine ap_dup (pc := 31) dX3_append_31 ?_
  refine ap_getI (pc := 32) (jz := 3) dX3_append_32 fl_RX3_21 sh_2 rfl rfl ?_
  try simp (disch := omega) only [am_same, am_k, am_j]
  refine ap_const (pc := 35) dX3_append_35 ?_
  refine ap_iadd (pc := 36) dX3_append_36 ?_
  refine ap_putI (pc := 37) (jz := 3) dX3_append_37 fn_RX3_21 sh_2 rfl rfl (fun z => by cases z) ?_
  refine ap_ald_0 (pc := 40) dX3_append_40 ?_
  refine ap_getI (pc := 41) (jz := 3) dX3_append_41 fl_RX3_21 sh_2 rfl rfl ?_
  try simp (disch := omega) only [am_same, am_k, am_j]
  refine ap_const (pc := 44) dX3_append_44 ?_
  refine ap_isub (pc := 45) dX3_append_45 ?_
  exact ap_ireturn (pc := 46) dX3_append_46 rfl ⟨rfl, rfl⟩

set_option maxHeartbeats 4000000 in
theorem qX5_append (f c : Int) (m : AM) (h0 : 0 ≤ f) (h1 : f < 7) (hn : 0 ≤ m 7 f ∧ m 7 f < 3) : CS 1 mX5_append [.inr 6, .inl f, .inl c] m (fun v m' => v = some (m 7 f) ∧ m' = am_up (am_up (am_up (am_up m 8 (f * 3 + m 7 f) c) 9 (f * 3 + m 7 f) 0) 10 (f * 3 + m 7 f) 0) 7 f (m 7 f + 1)) := by
  refine cs_of (by decide +kernel) (Nat.le_of_ble_eq_true rfl) rfl ?_
  refine ap_ald_0 (pc := 0) dX5_append_0 ?_
  refine ap_getR (pc := 1) dX5_append_1 fl_RX5_9 sh_6 rfl ?_
  refine ap_ild_1 (pc := 4) dX5_append_4 ?_
  refine ap_iaload (pc := 5) dX5_append_5 sh_7 (by omega) (by omega) (by decide) ?_
  refine ap_ist_3 (pc := 6) dX5_append_6 (by decide) ?_
  refine ap_ild_1 (pc := 7) dX5_append_7 ?_
  refine ap_ild_3 (pc := 8) dX5_append_8 ?_
  refine ap_invS (pc := 9) dX5_append_9 ms_RX5_27 (av := [_, _]) (rest := []) (qX8_placeOf _ _ _) rfl rfl (Nat.le_of_ble_eq_true rfl) (by decide) (by decide) ?_
  rintro _ _ ⟨rfl, rfl⟩
  refine ap_ist_4 (pc := 12) dX5_append_12 (by decide) ?_
  refine ap_ald_0 (pc := 14) dX5_append_14 ?_
  refine ap_getR (pc := 15) dX5_append_15 fl_RX5_15 sh_6 rfl ?_
  refine ap_ild_4 (pc := 18) dX5_append_18 ?_
  refine ap_ild_2 (pc := 20) dX5_append_20 ?_
  refine ap_iastore (pc := 21) dX5_append_21 sh_8 (by omega) (by omega) (by decide) ?_
  refine ap_ald_0 (pc := 22) dX5_append_22 ?_
  refine ap_getR (pc := 23) dX5_append_23 fl_RX5_18 sh_6 rfl ?_
  refine ap_ild_4 (pc := 26) dX5_append_26 ?_
  refine ap_const (pc := 28) dX5_append_28 ?_
  refine ap_iastore (pc := 29) dX5_append_29 sh_9 (by omega) (by omega) (by decide) ?_
  refine ap_ald_0 (pc := 30) dX5_append_30 ?_
  refine ap_getR (pc := 31) dX5_append_31 fl_RX5_21 sh_6 rfl ?_
  refine ap_ild_4 (pc := 34) dX5_append_34 ?_
  refine ap_const (pc := 36) dX5_append_36 ?_
  refine ap_iastore (pc := 37) dX5_append_37 sh_10 (by omega) (by omega) (by decide) ?_
  refine ap_ald_0 (pc := 38) dX5_append_38 ?_
  refine ap_getR (pc := 39) dX5_append_39 fl_RX5_9 sh_6 rfl ?_
  refine ap_ild_1 (pc := 42) dX5_append_42 ?_
  refine ap_dup2 (pc := 43) dX5_append_43 ?_
  refine ap_iaload (pc := 44) dX5_append_44 sh_7 (by omega) (by omega) (by decide) ?_
  try simp (disch := omega) only [am_same, am_k, am_j]
  refine ap_const (pc := 45) dX5_append_45 ?_
  refine ap_iadd (pc := 46) dX5_append_46 ?_
  refine ap_iastore (pc := 47) dX5_append_47 sh_7 (by omega) (by omega) (by decide) ?_
  refine ap_ild_3 (pc := 48) dX5_append_48 ?_
  exact ap_ireturn (pc := 49) dX5_append_49 rfl ⟨rfl, rfl⟩

set_option maxHeartbeats 4000000 in
theorem qX5_removeOutermost (f : Int) (m : AM) (h0 : 0 ≤ f) (h1 : f < 7) (hn : 1 ≤ m 7 f ∧ m 7 f ≤ 3) : CS 1 mX5_removeOutermost [.inr 6, .inl f] m (fun v m' => v = some (m 8 (f * 3 + (m 7 f - 1))) ∧ m' = am_up m 7 f (m 7 f - 1)) := by
  refine cs_of (by decide +kernel) (Nat.le_of_ble_eq_true rfl) rfl ?_
  refine ap_ald_0 (pc := 0) dX5_removeOutermost_0 ?_
  refine ap_getR (pc := 1) dX5_removeOutermost_1 fl_RX5_9 sh_6 rfl ?_
  refine ap_ild_1 (pc := 4) dX5_removeOutermost_4 ?_
  refine ap_dup2 (pc := 5) dX5_removeOutermost_5 ?_
  refine ap_iaload (pc := 6) dX5_removeOutermost_6 sh_7 (by omega) (by omega) (by decide) ?_
  refine ap_const (pc := 7) dX5_removeOutermost_7 ?_
  refine ap_isub (pc := 8) dX5_removeOutermost_8 ?_
  refine ap_iastore (pc := 9) dX5_removeOutermost_9 sh_7 (by omega) (by omega) (by decide) ?_
  refine ap_ald_0 (pc := 10) dX5_removeOutermost_10 ?_
  refine ap_getR (pc := 11) dX5_removeOutermost_11 fl_RX5_15 sh_6 rfl ?_
  refine ap_ild_1 (pc := 14) dX5_removeOutermost_14 ?_
  refine ap_ald_0 (pc := 15) dX5_removeOutermost_15 ?_
  refine ap_getR (pc := 16) dX5_removeOutermost_16 fl_RX5_9 sh_6 rfl ?_
  refine ap_ild_1 (pc := 19) dX5_removeOutermost_19 ?_
  refine ap_iaload (pc := 20) dX5_removeOutermost_20 sh_7 (by omega) (by omega) (by decide) ?_
  try simp (disch := omega) only [am_same, am_k, am_j]
  refine ap_invS (pc := 21) dX5_removeOutermost_21 ms_RX5_27 (av := [_, _]) (rest := [_]) (qX8_placeOf _ _ _) rfl rfl (Nat.le_of_ble_eq_true rfl) (by decide) (by decide) ?_
  rintro _ _ ⟨rfl, rfl⟩
  refine ap_iaload (pc := 24) dX5_removeOutermost_24 sh_8 (by omega) (by omega) (by decide) ?_
  try simp (disch := omega) only [am_same, am_k, am_j]
  exact ap_ireturn (pc := 25) dX5_removeOutermost_25 rfl ⟨rfl, rfl⟩

set_option maxHeartbeats 4000000 in
theorem qX7_append (f c : Int) (m : AM) (h0 : 0 ≤ f) (h1 : f < 6) (hn : 0 ≤ m 13 f ∧ m 13 f < 3) : CS 1 mX7_append [.inr 12, .inl f, .inl c] m (fun v m' => v = none ∧ m' = am_up (am_up m 14 (f * 3 + m 13 f) c) 13 f (m 13 f + 1)) := by
  refine cs_of (by decide +kernel) (Nat.le_of_ble_eq_true rfl) rfl ?_
  refine ap_ald_0 (pc := 0) dX7_append_0 ?_
  refine ap_getR (pc := 1) dX7_append_1 fl_RX7_15 sh_12 rfl ?_
  refine ap_ild_1 (pc := 4) dX7_append_4 ?_
  refine ap_ald_0 (pc := 5) dX7_append_5 ?_
  refine ap_getR (pc := 6) dX7_append_6 fl_RX7_9 sh_12 rfl ?_
  refine ap_ild_1 (pc := 9) dX7_append_9 ?_
  refine ap_iaload (pc := 10) dX7_append_10 sh_13 (by omega) (by omega) (by decide) ?_
  refine ap_invS (pc := 11) dX7_append_11 ms_RX7_18 (av := [_, _]) (rest := [_]) (qX8_placeOf _ _ _) rfl rfl (Nat.le_of_ble_eq_true rfl) (by decide) (by decide) ?_
  rintro _ _ ⟨rfl, rfl⟩
  refine ap_ild_2 (pc := 14) dX7_append_14 ?_
  refine ap_iastore (pc := 15) dX7_append_15 sh_14 (by omega) (by omega) (by decide) ?_
  refine ap_ald_0 (pc := 16) dX7_append_16 ?_
  refine ap_getR (pc := 17) dX7_append_17 fl_RX7_9 sh_12 rfl ?_
  refine ap_ild_1 (pc := 20) dX7_append_20 ?_
  refine ap_dup2 (pc := 21) dX7_append_21 ?_
  refine ap_iaload (pc := 22) dX7_append_22 sh_13 (by omega) (by omega) (by decide) ?_
  try simp (disch := omega) only [am_same, am_k, am_j]
  refine ap_const (pc := 23) dX7_append_23 ?_
  refine ap_iadd (pc := 24) dX7_append_24 ?_
  refine ap_iastore (pc := 25) dX7_append_25 sh_13 (by omega) (by omega) (by decide) ?_
  exact ap_return (pc := 26) dX7_append_26 rfl ⟨rfl, rfl⟩

set_option maxHeartbeats 4000000 in
theorem qX5_outermostIsRaw (f : Int) (r : Int → Int) (m : AM) (h0 : 0 ≤ f) (h1 : f < 7) (wR : wfR r) (g : agB 1 r m) : CS 1 mX5_outermostIsRaw [.inr 6, .inl f] m (yn (rawR r f) m) := by
  refine cs_of (by decide +kernel) (Nat.le_of_ble_eq_true rfl) rfl ?_
  obtain ⟨gC, gP, gS, gW⟩ := ag1 g
  have hz := gP.1 f h0 h1
  have hz3 := (wR.2.1.1 f h0 h1).1
  refine ap_ald_0 (pc := 0) dX5_outermostIsRaw_0 ?_
  refine ap_getR (pc := 1) dX5_outermostIsRaw_1 fl_RX5_9 sh_6 rfl ?_
  refine ap_ild_1 (pc := 4) dX5_outermostIsRaw_4 ?_
  refine ap_iaload (pc := 5) dX5_outermostIsRaw_5 sh_7 (by omega) (by omega) (by decide) ?_
  refine ap_if_le (pc := 6) 33 dX5_outermostIsRaw_6 rfl (by rw [hz]; constructor <;> omega) (fun c6 => ?_) (fun c6 => ?_)
  · skip
    rw [hz] at c6
    refine ap_const (pc := 33) dX5_outermostIsRaw_33 ?_
    exact ap_zreturn (pc := 34) dX5_outermostIsRaw_34 rfl (by decide) ⟨Or.inr ⟨fun z => by first | (have z1 := z.1; omega) | (have z2 := z.2; rw [← hq] at z2; omega), rfl⟩, rfl⟩
  · skip
    rw [hz] at c6
    have h4 := wR.2.1.2 f (szR r f - 1) h0 h1 (by omega) (by omega)
    have hq : m 9 (f * 3 + (m 7 f - 1)) = stR r f (szR r f - 1) := by rw [hz]; exact (gP.2.1 f (szR r f - 1) h0 h1 (by omega) (by omega)).2.1
    rw [← hz] at hz3 c6
    refine ap_ald_0 (pc := 9) dX5_outermostIsRaw_9 ?_
    refine ap_getR (pc := 10) dX5_outermostIsRaw_10 fl_RX5_18 sh_6 rfl ?_
    refine ap_ild_1 (pc := 13) dX5_outermostIsRaw_13 ?_
    refine ap_ald_0 (pc := 14) dX5_outermostIsRaw_14 ?_
    refine ap_getR (pc := 15) dX5_outermostIsRaw_15 fl_RX5_9 sh_6 rfl ?_
    refine ap_ild_1 (pc := 18) dX5_outermostIsRaw_18 ?_
    refine ap_iaload (pc := 19) dX5_outermostIsRaw_19 sh_7 (by omega) (by omega) (by decide) ?_
    refine ap_const (pc := 20) dX5_outermostIsRaw_20 ?_
    refine ap_isub (pc := 21) dX5_outermostIsRaw_21 ?_
    refine ap_invS (pc := 22) dX5_outermostIsRaw_22 ms_RX5_27 (av := [_, _]) (rest := [_]) (qX8_placeOf _ _ _) rfl rfl (Nat.le_of_ble_eq_true rfl) (by decide) (by decide) ?_
    rintro _ _ ⟨rfl, rfl⟩
    refine ap_iaload (pc := 25) dX5_outermostIsRaw_25 sh_9 (by omega) (by omega) (by decide) ?_
    refine ap_if_ne (pc := 26) 33 dX5_outermostIsRaw_26 rfl (by rw [hq]; constructor <;> omega) (fun c26 => ?_) (fun c26 => ?_)
    · skip
      refine ap_const (pc := 33) dX5_outermostIsRaw_33 ?_
      exact ap_zreturn (pc := 34) dX5_outermostIsRaw_34 rfl (by decide) ⟨Or.inr ⟨fun z => by first | (have z1 := z.1; omega) | (have z2 := z.2; rw [← hq] at z2; omega), rfl⟩, rfl⟩
    · skip
      refine ap_const (pc := 29) dX5_outermostIsRaw_29 ?_
      refine ap_goto (pc := 30) 34 dX5_outermostIsRaw_30 rfl ?_
      exact ap_zreturn (pc := 34) dX5_outermostIsRaw_34 rfl (by decide) ⟨Or.inl ⟨⟨by omega, by rw [← hq]; omega⟩, rfl⟩, rfl⟩

set_option maxHeartbeats 4000000 in
theorem qX8_color (a b c : Int) {n : Int} {H : Int → Int → Int} (r : Int → Int) (m : AM) (wR : wfR r) (g : agB 1 r m) (hH0 : HC n H m) (ha : rng a) (hb : rng b) (hc : rng c) : CS 5 mX8_color [.inr 0, .inl a, .inl b, .inl c] m (fun v m' => v = some (vColor r a b c) ∧ ((okColor r a b c ∧ agB 1 (rColor r a b c) m' ∧ cOK (m 0 6) n H r m m') ∨ (¬ okColor r a b c ∧ m' = m))) := by
  refine cs_of (by decide +kernel) (Nat.le_of_ble_eq_true rfl) rfl ?_
  obtain ⟨gC, gP, gS, gW⟩ := ag1 g
  have h12 := wR.1.1
  have hm0 : m 2 3 = r 0 := gC.1
  have hm1 : 0 ≤ m 2 3 ∧ m 2 3 ≤ 12 := by rw [hm0]; exact h12
  refine ap_ild_1 (pc := 0) dX8_color_0 ?_
  refine ap_sipush (pc := 1) dX8_color_1 sp_600 ?_
  refine ap_sipush (pc := 4) dX8_color_4 sp_900 ?_
  refine ap_invS (pc := 7) dX8_color_7 ms_RX8_55 (av := [_, _, _]) (rest := []) (qX8_within _ _ _ _ ⟨by omega, by omega⟩ ⟨by omega, by omega⟩ ⟨by omega, by omega⟩) rfl rfl (Nat.le_of_ble_eq_true rfl) (by decide) (by decide) ?_
  rintro _ _ ⟨⟨w7, rfl⟩ | ⟨w7, rfl⟩, rfl⟩
  · skip
    refine ap_if_eq (pc := 10) 41 dX8_color_10 rfl ⟨by omega, by omega⟩ (fun c10 => absurd c10 (by decide)) (fun _ => ?_)
    refine ap_ild_2 (pc := 13) dX8_color_13 ?_
    refine ap_ild_1 (pc := 14) dX8_color_14 ?_
    refine ap_bipush (pc := 15) dX8_color_15 bp_10 ?_
    refine ap_iadd (pc := 17) dX8_color_17 ?_
    refine ap_ild_1 (pc := 18) dX8_color_18 ?_
    refine ap_sipush (pc := 19) dX8_color_19 sp_200 ?_
    refine ap_iadd (pc := 22) dX8_color_22 ?_
    refine ap_invS (pc := 23) dX8_color_23 ms_RX8_55 (av := [_, _, _]) (rest := []) (qX8_within _ _ _ _ ⟨by omega, by omega⟩ ⟨by omega, by omega⟩ ⟨by omega, by omega⟩) rfl rfl (Nat.le_of_ble_eq_true rfl) (by decide) (by decide) ?_
    rintro _ _ ⟨⟨w23, rfl⟩ | ⟨w23, rfl⟩, rfl⟩
    · skip
      refine ap_if_eq (pc := 26) 41 dX8_color_26 rfl ⟨by omega, by omega⟩ (fun c26 => absurd c26 (by decide)) (fun _ => ?_)
      refine ap_ild_3 (pc := 29) dX8_color_29 ?_
      refine ap_bipush (pc := 30) dX8_color_30 bp_60 ?_
      refine ap_sipush (pc := 32) dX8_color_32 sp_160 ?_
      refine ap_invS (pc := 35) dX8_color_35 ms_RX8_55 (av := [_, _, _]) (rest := []) (qX8_within _ _ _ _ ⟨by omega, by omega⟩ ⟨by omega, by omega⟩ ⟨by omega, by omega⟩) rfl rfl (Nat.le_of_ble_eq_true rfl) (by decide) (by decide) ?_
      rintro _ _ ⟨⟨w35, rfl⟩ | ⟨w35, rfl⟩, rfl⟩
      · skip
        refine ap_if_ne (pc := 38) 43 dX8_color_38 rfl ⟨by omega, by omega⟩ (fun _ => ?_) (fun c38 => absurd c38 (by decide))
        refine ap_ald_0 (pc := 43) dX8_color_43 ?_
        refine ap_getR (pc := 44) dX8_color_44 fl_RX8_10 sh_0 rfl ?_
        refine ap_getR (pc := 47) dX8_color_47 fl_RX8_59 sh_1 rfl ?_
        refine ap_getI (pc := 50) (jz := 3) dX8_color_50 fl_RX8_63 sh_2 rfl rfl ?_
        refine ap_bipush (pc := 53) dX8_color_53 bp_12 ?_
        refine ap_icmp_lt (pc := 55) 61 dX8_color_55 rfl ⟨by omega, by omega⟩ ⟨by omega, by omega⟩ (fun c55 => ?_) (fun c55 => ?_)
        · skip
          refine ap_ald_0 (pc := 61) dX8_color_61 ?_
          refine ap_getR (pc := 62) dX8_color_62 fl_RX8_19 sh_0 rfl ?_
          refine ap_ald_0 (pc := 65) dX8_color_65 ?_
          refine ap_getR (pc := 66) dX8_color_66 fl_RX8_10 sh_0 rfl ?_
          refine ap_invV (pc := 69) dX8_color_69 mv_RX8_69 sh_17 (av := [_]) (rest := []) (qX2_keep _ wR hH0 g) rfl rfl (Nat.le_of_ble_eq_true rfl) (by decide) (by decide) ?_
          rintro _ m1 ⟨rfl, hK, g1, fK⟩
          obtain ⟨gC1, gP1, gS1, gW1⟩ := ag1 g1
          have hz1 := gC1.1
          refine ap_ald_0 (pc := 72) dX8_color_72 ?_
          refine ap_getR (pc := 73) dX8_color_73 fl_RX8_10 sh_0 rfl ?_
          refine ap_getR (pc := 76) dX8_color_76 fl_RX8_59 sh_1 rfl ?_
          refine ap_ild_1 (pc := 79) dX8_color_79 ?_
          refine ap_ild_2 (pc := 80) dX8_color_80 ?_
          refine ap_ild_3 (pc := 81) dX8_color_81 ?_
          refine ap_invV (pc := 82) dX8_color_82 mv_RX8_73 sh_2 (av := [_, _, _]) (rest := []) (qX3_append _ _ _ _ (by rw [hz1]; omega)) rfl rfl (Nat.le_of_ble_eq_true rfl) (by decide) (by decide) ?_
          rintro _ _ ⟨rfl, rfl⟩
          exact ap_ireturn (pc := 85) dX8_color_85 rfl ⟨by rw [hz1]; simp (disch := omega) only [vColor, if_pos]; congr 1; omega, Or.inl ⟨⟨by omega, by omega⟩, by rw [hz1]; exact gColor wR g1 (by omega), ⟨HC_frame (fun k j p q => by simp (disch := omega) only [am_k, am_j]) hK, fun k j hk => by simp (disch := omega) only [am_k]; exact fK k j (by omega), by simp (disch := omega) only [am_k]; exact fK 0 6 (by omega)⟩⟩⟩
        · skip
          refine ap_bipush (pc := 58) dX8_color_58 bp_m3 ?_
          exact ap_ireturn (pc := 60) dX8_color_60 rfl ⟨by simp (disch := omega) only [vColor, if_pos, if_neg], Or.inr ⟨fun z => by unfold okColor at z; omega, rfl⟩⟩
      · skip
        refine ap_if_ne (pc := 38) 43 dX8_color_38 rfl ⟨by omega, by omega⟩ (fun c38 => absurd c38 (by decide)) (fun _ => ?_)
        refine ap_const (pc := 41) dX8_color_41 ?_
        exact ap_ireturn (pc := 42) dX8_color_42 rfl ⟨by simp (disch := omega) only [vColor, if_pos, if_neg], Or.inr ⟨fun z => by unfold okColor at z; omega, rfl⟩⟩
    · skip
      refine ap_if_eq (pc := 26) 41 dX8_color_26 rfl ⟨by omega, by omega⟩ (fun _ => ?_) (fun c26 => absurd c26 (by decide))
      refine ap_const (pc := 41) dX8_color_41 ?_
      exact ap_ireturn (pc := 42) dX8_color_42 rfl ⟨by simp (disch := omega) only [vColor, if_pos, if_neg], Or.inr ⟨fun z => by unfold okColor at z; omega, rfl⟩⟩
  · skip
    refine ap_if_eq (pc := 10) 41 dX8_color_10 rfl ⟨by omega, by omega⟩ (fun _ => ?_) (fun c10 => absurd c10 (by decide))
    refine ap_const (pc := 41) dX8_color_41 ?_
    exact ap_ireturn (pc := 42) dX8_color_42 rfl ⟨by simp (disch := omega) only [vColor, if_pos, if_neg], Or.inr ⟨fun z => by unfold okColor at z; omega, rfl⟩⟩

set_option maxHeartbeats 4000000 in
theorem qX8_put (f c : Int) {n : Int} {H : Int → Int → Int} (r : Int → Int) (m : AM) (wR : wfR r) (g : agB 1 r m) (hH0 : HC n H m) (hf : rng f) (hc : rng c) : CS 5 mX8_put [.inr 0, .inl f, .inl c] m (fun v m' => v = some (vPut r f c) ∧ ((okPut r f c ∧ agB 1 (rPut r f c) m' ∧ cOK (m 0 6) n H r m m') ∨ (¬ okPut r f c ∧ m' = m))) := by
  refine cs_of (by decide +kernel) (Nat.le_of_ble_eq_true rfl) rfl ?_
  obtain ⟨gC, gP, gS, gW⟩ := ag1 g
  have h12 := wR.1.1
  have hm0 : m 2 3 = r 0 := gC.1
  have hm1 : 0 ≤ m 2 3 ∧ m 2 3 ≤ 12 := by rw [hm0]; exact h12
  refine ap_ild_1 (pc := 0) dX8_put_0 ?_
  refine ap_invS (pc := 1) dX8_put_1 ms_RX8_110 (av := [_]) (rest := []) (qX8_isField _ _ ⟨by omega, by omega⟩) rfl rfl (Nat.le_of_ble_eq_true rfl) (by decide) (by decide) ?_
  rintro _ _ ⟨⟨w1, rfl⟩ | ⟨w1, rfl⟩, rfl⟩
  · skip
    refine ap_if_eq (pc := 4) 15 dX8_put_4 rfl ⟨by omega, by omega⟩ (fun c4 => absurd c4 (by decide)) (fun _ => ?_)
    refine ap_ald_0 (pc := 7) dX8_put_7 ?_
    refine ap_ild_2 (pc := 8) dX8_put_8 ?_
    refine ap_invV (pc := 9) dX8_put_9 mv_RX8_77 sh_0 (av := [_]) (rest := []) (qX8_isColor _ _ ⟨by omega, by omega⟩ (by assumption)) rfl rfl (Nat.le_of_ble_eq_true rfl) (by decide) (by decide) ?_
    rintro _ _ ⟨⟨w9, rfl⟩ | ⟨w9, rfl⟩, rfl⟩
    · skip
      refine ap_if_ne (pc := 12) 17 dX8_put_12 rfl ⟨by omega, by omega⟩ (fun _ => ?_) (fun c12 => absurd c12 (by decide))
      refine ap_ald_0 (pc := 17) dX8_put_17 ?_
      refine ap_getR (pc := 18) dX8_put_18 fl_RX8_10 sh_0 rfl ?_
      refine ap_getR (pc := 21) dX8_put_21 fl_RX8_95 sh_1 rfl ?_
      refine ap_ild_1 (pc := 24) dX8_put_24 ?_
      refine ap_invV (pc := 25) dX8_put_25 mv_RX8_113 sh_6 (av := [_]) (rest := []) (qX5_outermostIsRaw _ _ _ (by omega) (by omega) wR g) rfl rfl (Nat.le_of_ble_eq_true rfl) (by decide) (by decide) ?_
      rintro _ _ ⟨⟨w25, rfl⟩ | ⟨w25, rfl⟩, rfl⟩
      · skip
        refine ap_if_eq (pc := 28) 34 dX8_put_28 rfl ⟨by omega, by omega⟩ (fun c28 => absurd c28 (by decide)) (fun _ => ?_)
        refine ap_bipush (pc := 31) dX8_put_31 bp_m2 ?_
        exact ap_ireturn (pc := 33) dX8_put_33 rfl ⟨by rw [(vPut_2 (f := f) (c := c) (by omega) w25).1], Or.inr ⟨(vPut_2 (f := f) (c := c) (by omega) w25).2, rfl⟩⟩
      · skip
        refine ap_if_eq (pc := 28) 34 dX8_put_28 rfl ⟨by omega, by omega⟩ (fun _ => ?_) (fun c28 => absurd c28 (by decide))
        refine ap_ald_0 (pc := 34) dX8_put_34 ?_
        refine ap_getR (pc := 35) dX8_put_35 fl_RX8_10 sh_0 rfl ?_
        refine ap_getR (pc := 38) dX8_put_38 fl_RX8_95 sh_1 rfl ?_
        refine ap_getR (pc := 41) dX8_put_41 fl_RX8_116 sh_6 rfl ?_
        refine ap_ild_1 (pc := 44) dX8_put_44 ?_
        refine ap_iaload (pc := 45) dX8_put_45 sh_7 (by omega) (by omega) (by decide) ?_
        refine ap_const (pc := 46) dX8_put_46 ?_
        refine ap_icmp_lt (pc := 47) 53 dX8_put_47 rfl (by rw [gP.1 f (by omega) (by omega)]; have q := (wR.2.1.1 f (by omega) (by omega)).1; constructor <;> omega) ⟨by omega, by omega⟩ (fun c47 => ?_) (fun c47 => ?_)
        · skip
          rw [gP.1 f (by omega) (by omega)] at c47
          have hz3 := (wR.2.1.1 f (by omega) (by omega)).1
          refine ap_ald_0 (pc := 53) dX8_put_53 ?_
          refine ap_getR (pc := 54) dX8_put_54 fl_RX8_19 sh_0 rfl ?_
          refine ap_ald_0 (pc := 57) dX8_put_57 ?_
          refine ap_getR (pc := 58) dX8_put_58 fl_RX8_10 sh_0 rfl ?_
          refine ap_invV (pc := 61) dX8_put_61 mv_RX8_69 sh_17 (av := [_]) (rest := []) (qX2_keep _ wR hH0 g) rfl rfl (Nat.le_of_ble_eq_true rfl) (by decide) (by decide) ?_
          rintro _ m1 ⟨rfl, hK, g1, fK⟩
          obtain ⟨gC1, gP1, gS1, gW1⟩ := ag1 g1
          have hz1 := gC1.1
          refine ap_ald_0 (pc := 64) dX8_put_64 ?_
          refine ap_getR (pc := 65) dX8_put_65 fl_RX8_10 sh_0 rfl ?_
          refine ap_getR (pc := 68) dX8_put_68 fl_RX8_119 sh_1 rfl ?_
          refine ap_const (pc := 71) dX8_put_71 ?_
          refine ap_dup2 (pc := 72) dX8_put_72 ?_
          refine ap_iaload (pc := 73) dX8_put_73 sh_16 (by omega) (by omega) (by decide) ?_
          try simp (disch := omega) only [am_same, am_k, am_j]
          refine ap_const (pc := 74) dX8_put_74 ?_
          refine ap_iadd (pc := 75) dX8_put_75 ?_
          refine ap_iastore (pc := 76) dX8_put_76 sh_16 (by omega) (by omega) (by decide) ?_
          refine ap_ald_0 (pc := 77) dX8_put_77 ?_
          refine ap_getR (pc := 78) dX8_put_78 fl_RX8_10 sh_0 rfl ?_
          refine ap_getR (pc := 81) dX8_put_81 fl_RX8_95 sh_1 rfl ?_
          refine ap_ild_1 (pc := 84) dX8_put_84 ?_
          refine ap_ild_2 (pc := 85) dX8_put_85 ?_
          refine ap_invV (pc := 86) dX8_put_86 mv_RX8_122 sh_6 (av := [_, _]) (rest := []) (qX5_append _ _ _ (by omega) (by omega) (by rw [am_k (by omega), gP1.1 _ (by omega) (by omega)]; omega)) rfl rfl (Nat.le_of_ble_eq_true rfl) (by decide) (by decide) ?_
          rintro _ _ ⟨rfl, rfl⟩
          simp (disch := omega) only [am_k, am_j, am_same]
          rw [gP1.1 f (by omega) (by omega), gS1.2 2 (by omega) (by omega)]
          show AP _ _ _ _ _ _ _
          exact ap_ireturn (pc := 89) dX8_put_89 rfl ⟨by rw [(vPut_4 (f := f) (c := c) (by omega) w25 c47).1], Or.inl ⟨(vPut_4 (by omega) w25 c47).2, gPut wR g1 (by omega) (by omega) c47, ⟨HC_frame (fun k j p q => by simp (disch := omega) only [am_k, am_j]) hK, fun k j hk => by simp (disch := omega) only [am_k]; exact fK k j (by omega), by simp (disch := omega) only [am_k]; exact fK 0 6 (by omega)⟩⟩⟩
        · skip
          rw [gP.1 f (by omega) (by omega)] at c47
          refine ap_bipush (pc := 50) dX8_put_50 bp_m3 ?_
          exact ap_ireturn (pc := 52) dX8_put_52 rfl ⟨by rw [(vPut_3 (f := f) (c := c) (by omega) w25 (Int.not_lt.mpr c47)).1], Or.inr ⟨(vPut_3 (f := f) (c := c) (by omega) w25 (Int.not_lt.mpr c47)).2, rfl⟩⟩
    · skip
      refine ap_if_ne (pc := 12) 17 dX8_put_12 rfl ⟨by omega, by omega⟩ (fun c12 => absurd c12 (by decide)) (fun _ => ?_)
      refine ap_const (pc := 15) dX8_put_15 ?_
      exact ap_ireturn (pc := 16) dX8_put_16 rfl ⟨by rw [(vPut_1 (f := f) (c := c) (by omega)).1], Or.inr ⟨(vPut_1 (f := f) (c := c) (by omega)).2, rfl⟩⟩
  · skip
    refine ap_if_eq (pc := 4) 15 dX8_put_4 rfl ⟨by omega, by omega⟩ (fun _ => ?_) (fun c4 => absurd c4 (by decide))
    refine ap_const (pc := 15) dX8_put_15 ?_
    exact ap_ireturn (pc := 16) dX8_put_16 rfl ⟨by rw [(vPut_1 (f := f) (c := c) (by omega)).1], Or.inr ⟨(vPut_1 (f := f) (c := c) (by omega)).2, rfl⟩⟩

set_option maxHeartbeats 4000000 in
theorem qX8_takeOff (f : Int) {n : Int} {H : Int → Int → Int} (r : Int → Int) (m : AM) (wR : wfR r) (g : agB 1 r m) (hH0 : HC n H m) (hf : rng f) : CS 5 mX8_takeOff [.inr 0, .inl f] m (fun v m' => v = some (vTake r f) ∧ ((okTake r f ∧ agB 1 (rTake r f) m' ∧ cOK (m 0 6) n H r m m') ∨ (¬ okTake r f ∧ m' = m))) := by
  refine cs_of (by decide +kernel) (Nat.le_of_ble_eq_true rfl) rfl ?_
  obtain ⟨gC, gP, gS, gW⟩ := ag1 g
  have h12 := wR.1.1
  have hm0 : m 2 3 = r 0 := gC.1
  have hm1 : 0 ≤ m 2 3 ∧ m 2 3 ≤ 12 := by rw [hm0]; exact h12
  refine ap_ild_1 (pc := 0) dX8_takeOff_0 ?_
  refine ap_invS (pc := 1) dX8_takeOff_1 ms_RX8_110 (av := [_]) (rest := []) (qX8_isField _ _ ⟨by omega, by omega⟩) rfl rfl (Nat.le_of_ble_eq_true rfl) (by decide) (by decide) ?_
  rintro _ _ ⟨⟨w1, rfl⟩ | ⟨w1, rfl⟩, rfl⟩
  · skip
    refine ap_if_ne (pc := 4) 9 dX8_takeOff_4 rfl ⟨by omega, by omega⟩ (fun _ => ?_) (fun c4 => absurd c4 (by decide))
    refine ap_ald_0 (pc := 9) dX8_takeOff_9 ?_
    refine ap_getR (pc := 10) dX8_takeOff_10 fl_RX8_10 sh_0 rfl ?_
    refine ap_getR (pc := 13) dX8_takeOff_13 fl_RX8_95 sh_1 rfl ?_
    refine ap_ild_1 (pc := 16) dX8_takeOff_16 ?_
    refine ap_invV (pc := 17) dX8_takeOff_17 mv_RX8_113 sh_6 (av := [_]) (rest := []) (qX5_outermostIsRaw _ _ _ (by omega) (by omega) wR g) rfl rfl (Nat.le_of_ble_eq_true rfl) (by decide) (by decide) ?_
    rintro _ _ ⟨⟨w17, rfl⟩ | ⟨w17, rfl⟩, rfl⟩
    · skip
      refine ap_if_ne (pc := 20) 26 dX8_takeOff_20 rfl ⟨by omega, by omega⟩ (fun _ => ?_) (fun c20 => absurd c20 (by decide))
      refine ap_ald_0 (pc := 26) dX8_takeOff_26 ?_
      refine ap_getR (pc := 27) dX8_takeOff_27 fl_RX8_19 sh_0 rfl ?_
      refine ap_ald_0 (pc := 30) dX8_takeOff_30 ?_
      refine ap_getR (pc := 31) dX8_takeOff_31 fl_RX8_10 sh_0 rfl ?_
      refine ap_invV (pc := 34) dX8_takeOff_34 mv_RX8_69 sh_17 (av := [_]) (rest := []) (qX2_keep _ wR hH0 g) rfl rfl (Nat.le_of_ble_eq_true rfl) (by decide) (by decide) ?_
      rintro _ m1 ⟨rfl, hK, g1, fK⟩
      obtain ⟨gC1, gP1, gS1, gW1⟩ := ag1 g1
      have hz1 := gC1.1
      refine ap_ald_0 (pc := 37) dX8_takeOff_37 ?_
      refine ap_getR (pc := 38) dX8_takeOff_38 fl_RX8_10 sh_0 rfl ?_
      refine ap_getR (pc := 41) dX8_takeOff_41 fl_RX8_119 sh_1 rfl ?_
      refine ap_const (pc := 44) dX8_takeOff_44 ?_
      refine ap_dup2 (pc := 45) dX8_takeOff_45 ?_
      refine ap_iaload (pc := 46) dX8_takeOff_46 sh_16 (by omega) (by omega) (by decide) ?_
      try simp (disch := omega) only [am_same, am_k, am_j]
      refine ap_const (pc := 47) dX8_takeOff_47 ?_
      refine ap_iadd (pc := 48) dX8_takeOff_48 ?_
      refine ap_iastore (pc := 49) dX8_takeOff_49 sh_16 (by omega) (by omega) (by decide) ?_
      refine ap_ald_0 (pc := 50) dX8_takeOff_50 ?_
      refine ap_getR (pc := 51) dX8_takeOff_51 fl_RX8_10 sh_0 rfl ?_
      refine ap_getR (pc := 54) dX8_takeOff_54 fl_RX8_95 sh_1 rfl ?_
      refine ap_ild_1 (pc := 57) dX8_takeOff_57 ?_
      refine ap_invV (pc := 58) dX8_takeOff_58 mv_RX8_125 sh_6 (av := [_]) (rest := []) (qX5_removeOutermost _ _ (by omega) (by omega) (by have q := w17.1; have q2 := (wR.2.1.1 f (by omega) (by omega)).1; rw [am_k (by omega), gP1.1 _ (by omega) (by omega)]; omega)) rfl rfl (Nat.le_of_ble_eq_true rfl) (by decide) (by decide) ?_
      rintro _ _ ⟨rfl, rfl⟩
      have hz4 := w17.1
      have hz3 := (wR.2.1.1 f (by omega) (by omega)).1
      simp (disch := omega) only [am_k, am_j, am_same]
      rw [gP1.1 f (by omega) (by omega), gS1.2 3 (by omega) (by omega), (gP1.2.1 f (szR r f - 1) (by omega) (by omega) (by omega) (by omega)).1]
      show AP _ _ _ _ _ _ _
      exact ap_ireturn (pc := 61) dX8_takeOff_61 rfl ⟨by rw [(vTake_3 (f := f) (by omega) w17).1], Or.inl ⟨(vTake_3 (by omega) w17).2, gTake wR g1 (by omega) (by omega) (by omega), ⟨HC_frame (fun k j p q => by simp (disch := omega) only [am_k, am_j]) hK, fun k j hk => by simp (disch := omega) only [am_k]; exact fK k j (by omega), by simp (disch := omega) only [am_k]; exact fK 0 6 (by omega)⟩⟩⟩
    · skip
      refine ap_if_ne (pc := 20) 26 dX8_takeOff_20 rfl ⟨by omega, by omega⟩ (fun c20 => absurd c20 (by decide)) (fun _ => ?_)
      refine ap_bipush (pc := 23) dX8_takeOff_23 bp_m2 ?_
      exact ap_ireturn (pc := 25) dX8_takeOff_25 rfl ⟨by rw [(vTake_2 (f := f) (by omega) w17).1], Or.inr ⟨(vTake_2 (f := f) (by omega) w17).2, rfl⟩⟩
  · skip
    refine ap_if_ne (pc := 4) 9 dX8_takeOff_4 rfl ⟨by omega, by omega⟩ (fun c4 => absurd c4 (by decide)) (fun _ => ?_)
    refine ap_const (pc := 7) dX8_takeOff_7 ?_
    exact ap_ireturn (pc := 8) dX8_takeOff_8 rfl ⟨by rw [(vTake_1 (f := f) (by omega)).1], Or.inr ⟨(vTake_1 (f := f) (by omega)).2, rfl⟩⟩

set_option maxHeartbeats 4000000 in
theorem qX5_makeBare (m : AM)  : CS 0 mX5_makeBare [.inr 6] m (fun v m' => v = none ∧ (∀ x : Int, 0 ≤ x → x < 7 → m' 7 x = 0) ∧ (∀ x : Int, 0 ≤ x → x < 6 → m' 11 x = 0) ∧ ∀ (k : Nat) (j : Int), k ≠ 7 → k ≠ 11 → m' k j = m k j) := by
  refine cs_of (by decide +kernel) (Nat.le_of_ble_eq_true rfl) rfl ?_
  refine ap_const (pc := 0) dX5_makeBare_0 ?_
  refine ap_ist_1 (pc := 1) dX5_makeBare_1 (by decide) ?_
  refine AP.bk (up_rec 7 (fun i => ∀ mi : AM, (∀ x : Int, 0 ≤ x → x < i → mi 7 x = 0) → (∀ (k : Nat) (j : Int), k ≠ 7 → mi k j = m k j) → AP 0 mX5_makeBare 2 [some (.inr 6), some (.inl (i : Int))] [] mi (fun v m' => v = none ∧ (∀ x : Int, 0 ≤ x → x < 7 → m' 7 x = 0) ∧ (∀ x : Int, 0 ≤ x → x < 6 → m' 11 x = 0) ∧ ∀ (k : Nat) (j : Int), k ≠ 7 → k ≠ 11 → m' k j = m k j)) (by omega) (fun i hi ih mi u1 u2 => ?_) m (fun x a b => by omega) (fun _ _ _ => rfl)) ⟨rfl, rfl, trivial⟩ rfl
  refine ap_ild_1 (pc := 2) dX5_makeBare_2 ?_
  refine ap_bipush (pc := 3) dX5_makeBare_3 bp_7 ?_
  refine ap_icmp_ge (pc := 5) 21 dX5_makeBare_5 rfl ⟨by omega, by omega⟩ ⟨by omega, by omega⟩ (fun c5 => ?_) (fun c5 => ?_)
  · skip
    refine ap_const (pc := 21) dX5_makeBare_21 ?_
    refine ap_ist_1 (pc := 22) dX5_makeBare_22 (by decide) ?_
    refine AP.bk (up_rec 6 (fun i => ∀ mk : AM, (∀ x : Int, 0 ≤ x → x < 7 → mk 7 x = 0) → (∀ x : Int, 0 ≤ x → x < i → mk 11 x = 0) → (∀ (k : Nat) (j : Int), k ≠ 7 → k ≠ 11 → mk k j = m k j) → AP 0 mX5_makeBare 23 [some (.inr 6), some (.inl (i : Int))] [] mk (fun v m' => v = none ∧ (∀ x : Int, 0 ≤ x → x < 7 → m' 7 x = 0) ∧ (∀ x : Int, 0 ≤ x → x < 6 → m' 11 x = 0) ∧ ∀ (k : Nat) (j : Int), k ≠ 7 → k ≠ 11 → m' k j = m k j)) (by omega) (fun i2 hi2 ih2 mk v1 v2 v3 => ?_) mi (fun x a b => u1 x a (by omega)) (fun x a b => by omega) (fun k j a b => u2 k j a)) ⟨rfl, rfl, trivial⟩ rfl
    refine ap_ild_1 (pc := 23) dX5_makeBare_23 ?_
    refine ap_bipush (pc := 24) dX5_makeBare_24 bp_6 ?_
    refine ap_icmp_ge (pc := 26) 42 dX5_makeBare_26 rfl ⟨by omega, by omega⟩ ⟨by omega, by omega⟩ (fun c26 => ?_) (fun c26 => ?_)
    · skip
      exact ap_return (pc := 42) dX5_makeBare_42 rfl ⟨rfl, v1, fun x a b => v2 x a (by omega), v3⟩
    · skip
      refine ap_ald_0 (pc := 29) dX5_makeBare_29 ?_
      refine ap_getR (pc := 30) dX5_makeBare_30 fl_RX5_24 sh_6 rfl ?_
      refine ap_ild_1 (pc := 33) dX5_makeBare_33 ?_
      refine ap_const (pc := 34) dX5_makeBare_34 ?_
      refine ap_iastore (pc := 35) dX5_makeBare_35 sh_11 (by omega) (by omega) (by decide) ?_
      refine ap_iinc_1 (pc := 36) dX5_makeBare_36 (by decide) ?_
      refine ap_goto (pc := 39) 23 dX5_makeBare_39 rfl ?_
      exact (ih2 c26 _ (fun x a b => by rw [am_k (by omega)]; exact v1 x a b) (fun x a b => by
          by_cases e : x = (i2 : Int)
          · subst e; rw [am_same]
          · rw [am_j e]; exact v2 x a (by omega)) (fun k j a b => by rw [am_k b]; exact v3 k j a b)).bk ⟨rfl, rfl, trivial⟩ rfl
  · skip
    refine ap_ald_0 (pc := 8) dX5_makeBare_8 ?_
    refine ap_getR (pc := 9) dX5_makeBare_9 fl_RX5_9 sh_6 rfl ?_
    refine ap_ild_1 (pc := 12) dX5_makeBare_12 ?_
    refine ap_const (pc := 13) dX5_makeBare_13 ?_
    refine ap_iastore (pc := 14) dX5_makeBare_14 sh_7 (by omega) (by omega) (by decide) ?_
    refine ap_iinc_1 (pc := 15) dX5_makeBare_15 (by decide) ?_
    refine ap_goto (pc := 18) 2 dX5_makeBare_18 rfl ?_
    exact (ih c5 _ (fun x a b => by
        by_cases e : x = (i : Int)
        · subst e; rw [am_same]
        · rw [am_j e]; exact u1 x a (by omega)) (fun k j a => by rw [am_k a]; exact u2 k j a)).bk ⟨rfl, rfl, trivial⟩ rfl

set_option maxHeartbeats 4000000 in
theorem qX8_clean {n : Int} {H : Int → Int → Int} (r : Int → Int) (m : AM) (wR : wfR r) (g : agB 1 r m) (hH0 : HC n H m) : CS 5 mX8_clean [.inr 0] m (fun v m' => v = some (layN r) ∧ (∀ r' : Int → Int, isClean r r' → agB 1 r' m') ∧ cOK (m 0 6) n H r m m') := by
  refine cs_of (by decide +kernel) (Nat.le_of_ble_eq_true rfl) rfl ?_
  obtain ⟨gC, gP, gS, gW⟩ := ag1 g
  have h12 := wR.1.1
  have hm0 : m 2 3 = r 0 := gC.1
  have hm1 : 0 ≤ m 2 3 ∧ m 2 3 ≤ 12 := by rw [hm0]; exact h12
  refine ap_ald_0 (pc := 0) dX8_clean_0 ?_
  refine ap_getR (pc := 1) dX8_clean_1 fl_RX8_10 sh_0 rfl ?_
  refine ap_getR (pc := 4) dX8_clean_4 fl_RX8_95 sh_1 rfl ?_
  refine ap_invV (pc := 7) dX8_clean_7 mv_RX8_128 sh_6 (av := []) (rest := []) (qX5_layers _ _ wR g) rfl rfl (Nat.le_of_ble_eq_true rfl) (by decide) (by decide) ?_
  rintro _ _ ⟨rfl, rfl⟩
  refine ap_ist_1 (pc := 10) dX8_clean_10 (by decide) ?_
  refine ap_ald_0 (pc := 11) dX8_clean_11 ?_
  refine ap_getR (pc := 12) dX8_clean_12 fl_RX8_19 sh_0 rfl ?_
  refine ap_ald_0 (pc := 15) dX8_clean_15 ?_
  refine ap_getR (pc := 16) dX8_clean_16 fl_RX8_10 sh_0 rfl ?_
  refine ap_invV (pc := 19) dX8_clean_19 mv_RX8_69 sh_17 (av := [_]) (rest := []) (qX2_keep _ wR hH0 g) rfl rfl (Nat.le_of_ble_eq_true rfl) (by decide) (by decide) ?_
  rintro _ m1 ⟨rfl, hK, g1, fK⟩
  obtain ⟨gC1, gP1, gS1, gW1⟩ := ag1 g1
  have hz1 := gC1.1
  refine ap_ald_0 (pc := 22) dX8_clean_22 ?_
  refine ap_getR (pc := 23) dX8_clean_23 fl_RX8_10 sh_0 rfl ?_
  refine ap_getR (pc := 26) dX8_clean_26 fl_RX8_95 sh_1 rfl ?_
  refine ap_invV (pc := 29) dX8_clean_29 mv_RX8_132 sh_6 (av := []) (rest := []) (qX5_makeBare _) rfl rfl (Nat.le_of_ble_eq_true rfl) (by decide) (by decide) ?_
  rintro _ m2 ⟨rfl, b1, b2, b3⟩
  refine ap_ald_0 (pc := 32) dX8_clean_32 ?_
  refine ap_getR (pc := 33) dX8_clean_33 fl_RX8_10 sh_0 rfl ?_
  refine ap_getR (pc := 36) dX8_clean_36 fl_RX8_119 sh_1 rfl ?_
  refine ap_const (pc := 39) dX8_clean_39 ?_
  refine ap_const (pc := 40) dX8_clean_40 ?_
  refine ap_iastore (pc := 41) dX8_clean_41 sh_16 (by omega) (by omega) (by decide) ?_
  refine ap_ald_0 (pc := 42) dX8_clean_42 ?_
  refine ap_getR (pc := 43) dX8_clean_43 fl_RX8_10 sh_0 rfl ?_
  refine ap_getR (pc := 46) dX8_clean_46 fl_RX8_119 sh_1 rfl ?_
  refine ap_const (pc := 49) dX8_clean_49 ?_
  refine ap_const (pc := 50) dX8_clean_50 ?_
  refine ap_iastore (pc := 51) dX8_clean_51 sh_16 (by omega) (by omega) (by decide) ?_
  refine ap_ild_1 (pc := 52) dX8_clean_52 ?_
  exact ap_ireturn (pc := 53) dX8_clean_53 rfl ⟨rfl, fun r' hc => gClean wR g1 (fun x a b => by simp (disch := omega) only [am_k]; exact b1 x a b) (fun x a b => by simp (disch := omega) only [am_k]; exact b2 x a b) (by simp (disch := omega) only [am_same, am_j]) (by simp (disch := omega) only [am_same]) (fun k j a b c => by
    by_cases e : k = 16
    · have := c e; simp (disch := omega) only [am_j]; exact b3 k j a b
    · simp (disch := omega) only [am_k]; exact b3 k j a b) hc, HC_frame (fun k j p q => by simp (disch := omega) only [am_k, am_j]; exact b3 k j (by omega) (by omega)) hK, fun k j hk => by simp (disch := omega) only [am_k]; rw [b3 k j (by omega) (by omega)]; exact fK k j (by omega), by simp (disch := omega) only [am_k]; rw [b3 0 6 (by omega) (by omega)]; exact fK 0 6 (by omega)⟩

