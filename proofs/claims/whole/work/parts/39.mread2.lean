
theorem mOK_cong {m m2 m' : AM} (h : ∀ (k : Nat) (j : Int), (k ≠ 100 ∨ j < 9) → m2 k j = m k j) (o : mOK m2 m') : mOK m m' := by
  obtain ⟨a, b, c, d⟩ := o
  have e3 : m2 100 3 = m 100 3 := h 100 3 (by omega)
  have e1 : m2 101 = m 101 := funext fun j => h 101 j (by omega)
  have e2 : (fun k j : Int => m2 102 (150 * k + j)) = fun k j => m 102 (150 * k + j) := funext fun k => funext fun j => h 102 _ (by omega)
  rw [e3] at a b
  rw [e1, e2] at b
  exact ⟨a, b, fun k j q => by rw [c k j q]; exact h k j (by omega), fun j x y => by rw [d j x y]; exact h 100 j (by omega)⟩
set_option maxHeartbeats 4000000 in
theorem qX9_fault (T : Int → Int) (l w : Int) (m : AM) (wR : wfR (m 101)) (hn : 0 ≤ l ∧ l ≤ 80) (h5 : m 100 5 = l) (hT : ∀ j : Int, 0 ≤ j → j < l → m 104 j = T j ∧ 32 ≤ T j ∧ T j ≤ 126) (hw : rng w) : CS 3 mX9_fault [.inr 100, .inl w] m (fun v m' => v = some (vFault (FR T (m 101 0) l) w) ∧ ∀ (k : Nat) (j : Int), (k ≠ 100 ∨ j < 9) → m' k j = m k j) := by
  refine cs_of (by decide +kernel) (Nat.le_of_ble_eq_true rfl) rfl ?_
  refine ap_ild_1 (pc := 0) dX9_fault_0 ?_
  refine ap_const (pc := 1) dX9_fault_1 ?_
  refine ap_const (pc := 2) dX9_fault_2 ?_
  refine ap_invS (pc := 3) dX9_fault_3 ms_RX9_32 (av := [_, _, _]) (rest := []) (qX9_in _ _ _ _ ⟨by omega, by omega⟩ ⟨by omega, by omega⟩ ⟨by omega, by omega⟩) rfl rfl (Nat.le_of_ble_eq_true rfl) (by decide) (by decide) ?_
  rintro _ _ ⟨⟨w3, rfl⟩ | ⟨w3, rfl⟩, rfl⟩
  · skip
    refine ap_if_ne (pc := 6) 11 dX9_fault_6 rfl ⟨by omega, by omega⟩ (fun _ => ?_) (fun c6 => absurd c6 (by decide))
    refine ap_ald_0 (pc := 11) dX9_fault_11 ?_
    refine ap_const (pc := 12) dX9_fault_12 ?_
    refine ap_invV (pc := 13) dX9_fault_13 mv_RX9_152 sh_100 (av := [_]) (rest := []) (qX9_reads0 T l (m 101 0) _ hn h5 hT wR.1.1 rfl) rfl rfl (Nat.le_of_ble_eq_true rfl) (by decide) (by decide) ?_
    rintro _ m2 ⟨rfl, q1, q2, q3⟩
    have hbd := FR_bd T (m 101 0) l hn
    have hq1 : m2 100 9 = (FR T (m 101 0) l).1 := q1
    refine ap_if_ne (pc := 16) 24 dX9_fault_16 rfl (by split <;> constructor <;> omega) (fun c16 => ?_) (fun c16 => ?_)
    · skip
      have cF : (FR T (m 101 0) l).2 ≠ 0 := fun z => by rw [if_pos z] at c16; omega
      have hq2 := q2 cF
      refine ap_ild_1 (pc := 24) dX9_fault_24 ?_
      refine ap_if_ne (pc := 25) 35 dX9_fault_25 rfl ⟨by omega, by omega⟩ (fun c25 => ?_) (fun c25 => ?_)
      · skip
        refine ap_ald_0 (pc := 35) dX9_fault_35 ?_
        refine ap_getI (pc := 36) (jz := 10) dX9_fault_36 fl_RX9_149 sh_100 rfl rfl ?_
        try simp (disch := omega) only [am_same, am_k, am_j]
        exact ap_ireturn (pc := 39) dX9_fault_39 rfl ⟨by rw [hq2]; simp (disch := omega) only [vFault, if_pos, if_neg], q3⟩
      · skip
        refine ap_ald_0 (pc := 28) dX9_fault_28 ?_
        refine ap_getI (pc := 29) (jz := 9) dX9_fault_29 fl_RX9_146 sh_100 rfl rfl ?_
        try simp (disch := omega) only [am_same, am_k, am_j]
        refine ap_goto (pc := 32) 39 dX9_fault_32 rfl ?_
        exact ap_ireturn (pc := 39) dX9_fault_39 rfl ⟨by rw [q1]; simp (disch := omega) only [vFault, if_pos, if_neg], q3⟩
    · skip
      have cF : (FR T (m 101 0) l).2 = 0 := Classical.byContradiction fun z => by rw [if_neg z] at c16; omega
      refine ap_bipush (pc := 19) dX9_fault_19 bp_m4 ?_
      refine ap_goto (pc := 21) 39 dX9_fault_21 rfl ?_
      exact ap_ireturn (pc := 39) dX9_fault_39 rfl ⟨by simp (disch := omega) only [vFault, if_pos, if_neg], q3⟩
  · skip
    refine ap_if_ne (pc := 6) 11 dX9_fault_6 rfl ⟨by omega, by omega⟩ (fun c6 => absurd c6 (by decide)) (fun _ => ?_)
    refine ap_const (pc := 9) dX9_fault_9 ?_
    exact ap_ireturn (pc := 10) dX9_fault_10 rfl ⟨by simp (disch := omega) only [vFault, if_pos, if_neg], fun _ _ _ => rfl⟩

set_option maxHeartbeats 4000000 in
theorem qX9_read (T : Int → Int) (l : Int) (m : AM) (wR : wfR (m 101)) (hs : 0 ≤ m 100 3 ∧ m 100 3 ≤ 4) (hn : 0 ≤ l ∧ l ≤ 80) (h5 : m 100 5 = l) (hT : ∀ j : Int, 0 ≤ j → j < l → m 104 j = T j ∧ 32 ≤ T j ∧ T j ≤ 126) : CS 3 mX9_read [.inr 100] m (fun v m' => v = some (if (FR T (m 101 0) l).2 = 0 then gA T (m 101) l.toNat else -2) ∧ (((FR T (m 101 0) l).2 = 0 ∧ m' 101 = wA T (m 101) l.toNat ∧ mOK m m') ∨ ((FR T (m 101 0) l).2 ≠ 0 ∧ ∀ (k : Nat) (j : Int), (k ≠ 100 ∨ j < 9) → m' k j = m k j))) := by
  refine cs_of (by decide +kernel) (Nat.le_of_ble_eq_true rfl) rfl ?_
  refine ap_ald_0 (pc := 0) dX9_read_0 ?_
  refine ap_const (pc := 1) dX9_read_1 ?_
  refine ap_invV (pc := 2) dX9_read_2 mv_RX9_152 sh_100 (av := [_]) (rest := []) (qX9_reads0 T l (m 101 0) _ hn h5 hT wR.1.1 rfl) rfl rfl (Nat.le_of_ble_eq_true rfl) (by decide) (by decide) ?_
  rintro _ m2 ⟨rfl, q1, q2, q3⟩
  have hbd := FR_bd T (m 101 0) l hn
  have hq1 : m2 100 9 = (FR T (m 101 0) l).1 := q1
  refine ap_if_eq (pc := 5) 11 dX9_read_5 rfl (by split <;> constructor <;> omega) (fun c5 => ?_) (fun c5 => ?_)
  · skip
    have cF : (FR T (m 101 0) l).2 = 0 := Classical.byContradiction fun z => by rw [if_neg z] at c5; omega
    refine ap_ald_0 (pc := 11) dX9_read_11 ?_
    refine ap_invV (pc := 12) dX9_read_12 mv_RX9_36 sh_100 (av := []) (rest := []) (qX9_records _ (by rw [q3 100 3 (by omega)]; exact hs)) rfl rfl (Nat.le_of_ble_eq_true rfl) (by decide) (by decide) ?_
    rintro _ m1 ⟨rfl, r1, r2, r3, r4⟩
    have hm2 : m2 101 = m 101 := funext fun j => q3 101 j (by omega)
    have hrow : m1 101 = m2 101 := funext fun j => r3 101 j (by omega) (by omega)
    have hF0 : (FR T (m 101 0) l).2 = 0 := cF
    refine ap_ald_0 (pc := 15) dX9_read_15 ?_
    refine ap_const (pc := 16) dX9_read_16 ?_
    refine ap_invV (pc := 17) dX9_read_17 mv_RX9_152 sh_100 (av := [_]) (rest := []) (qX9_reads1 T (m 101) l _ hn (by rw [r4 5 (by omega), q3 100 5 (by omega)]; exact h5) (fun j a b => by rw [r3 104 j (by omega) (by omega), q3 104 j (by omega)]; exact hT j a b) wR (FR_ok hn.1 hF0) (by rw [hrow]; exact hm2)) rfl rfl (Nat.le_of_ble_eq_true rfl) (by decide) (by decide) ?_
    rintro _ m3 ⟨⟨_, rfl⟩, p1, p2, p3⟩
    refine ap_ist_1 (pc := 20) dX9_read_20 (by decide) ?_
    refine ap_ald_0 (pc := 21) dX9_read_21 ?_
    refine ap_getI (pc := 22) (jz := 11) dX9_read_22 fl_RX9_143 sh_100 rfl rfl ?_
    try simp (disch := omega) only [am_same, am_k, am_j]
    exact ap_ireturn (pc := 25) dX9_read_25 rfl ⟨by rw [if_pos hF0, p2], Or.inl ⟨hF0, p1, mOK_cong q3 ⟨by rw [p3 100 3 (by omega)]; exact r1, fun k j a b c d => by rw [p3 102 _ (by omega)]; exact r2 k j a b c d, fun k j q => by rw [p3 k j (by omega)]; exact r3 k j (by omega) (by omega), fun j x y => by rw [p3 100 j (by omega)]; exact r4 j x⟩⟩⟩
  · skip
    have cF : (FR T (m 101 0) l).2 ≠ 0 := fun z => by rw [if_pos z] at c5; omega
    refine ap_bipush (pc := 8) dX9_read_8 bp_m2 ?_
    exact ap_ireturn (pc := 10) dX9_read_10 rfl ⟨by rw [if_neg cF], Or.inr ⟨cF, q3⟩⟩
