
theorem fl_bd {T : Int → Int} {K n : Int} (hn : 0 ≤ n ∧ n ≤ 80) (k : Nat) (i a : Int) (h : i + k ≤ n) (h0 : 0 ≤ i) : (0 ≤ (fl T K n k i a).1 ∧ (fl T K n k i a).1 ≤ 80) ∧ (0 ≤ (fl T K n k i a).2 ∧ (fl T K n k i a).2 ≤ 4) := by
  induction k generalizing i a with
  | zero =>
    show (0 ≤ n ∧ n ≤ 80) ∧ (0 ≤ (if a = 0 then (0 : Int) else 4) ∧ (if a = 0 then (0 : Int) else 4) ≤ 4)
    split <;> omega
  | succ k ih =>
    by_cases z : rsn (T i) a K ≠ 0
    · have e : fl T K n (k + 1) i a = (i, rsn (T i) a K) := if_pos z
      rw [e]
      have := rsn_bd (T i) a K
      refine ⟨⟨h0, ?_⟩, this.1, ?_⟩
      · show i ≤ 80
        omega
      · show rsn (T i) a K ≤ 4
        omega
    · have e : fl T K n (k + 1) i a = fl T K n k (i + 1) (nxt (T i) a) := if_neg z
      rw [e]
      exact ih (i + 1) _ (by omega) (by omega)
theorem FR_bd (T : Int → Int) (K n : Int) (hn : 0 ≤ n ∧ n ≤ 80) : (0 ≤ (FR T K n).1 ∧ (FR T K n).1 ≤ 80) ∧ (0 ≤ (FR T K n).2 ∧ (FR T K n).2 ≤ 4) := fl_bd hn _ _ _ (by omega) (by omega)
set_option maxHeartbeats 4000000 in
theorem qX8_fault (T : Int → Int) (l w : Int) (r : Int → Int) (m : AM) (wR : wfR r) (g : agB 1 r m) (hn : 0 ≤ l ∧ l ≤ 80) (h98 : m 98 1 = l) (hT : ∀ j : Int, 0 ≤ j → j < l → m 99 j = T j ∧ 32 ≤ T j ∧ T j ≤ 126) (hw : rng w) : CS 4 mX8_fault [.inr 0, .inl w] m (fun v m' => v = some (vFault (FR T (r 0) l) w) ∧ ∀ (k : Nat) (j : Int), (k ≠ 98 ∨ (j ≠ 2 ∧ j ≠ 3)) → m' k j = m k j) := by
  refine cs_of (by decide +kernel) (Nat.le_of_ble_eq_true rfl) rfl ?_
  obtain ⟨gC, gP, gS, gW⟩ := ag1 g
  have h12 := wR.1.1
  have hm0 : m 2 3 = r 0 := gC.1
  have hm1 : 0 ≤ m 2 3 ∧ m 2 3 ≤ 12 := by rw [hm0]; exact h12
  refine ap_ild_1 (pc := 0) dX8_fault_0 ?_
  refine ap_const (pc := 1) dX8_fault_1 ?_
  refine ap_const (pc := 2) dX8_fault_2 ?_
  refine ap_invS (pc := 3) dX8_fault_3 ms_RX8_55 (av := [_, _, _]) (rest := []) (qX8_within _ _ _ _ ⟨by omega, by omega⟩ ⟨by omega, by omega⟩ ⟨by omega, by omega⟩) rfl rfl (Nat.le_of_ble_eq_true rfl) (by decide) (by decide) ?_
  rintro _ _ ⟨⟨w3, rfl⟩ | ⟨w3, rfl⟩, rfl⟩
  · skip
    refine ap_if_ne (pc := 6) 11 dX8_fault_6 rfl ⟨by omega, by omega⟩ (fun _ => ?_) (fun c6 => absurd c6 (by decide))
    refine ap_ald_0 (pc := 11) dX8_fault_11 ?_
    refine ap_getR (pc := 12) dX8_fault_12 fl_RX8_47 sh_0 rfl ?_
    refine ap_ald_0 (pc := 15) dX8_fault_15 ?_
    refine ap_getR (pc := 16) dX8_fault_16 fl_RX8_10 sh_0 rfl ?_
    refine ap_getR (pc := 19) dX8_fault_19 fl_RX8_59 sh_1 rfl ?_
    refine ap_getI (pc := 22) (jz := 3) dX8_fault_22 fl_RX8_63 sh_2 rfl rfl ?_
    refine ap_invV (pc := 25) dX8_fault_25 mv_RX8_236 sh_98 (av := [_]) (rest := []) (qX6_lookForFault T l _ _ hn h98 hT (by omega)) rfl rfl (Nat.le_of_ble_eq_true rfl) (by decide) (by decide) ?_
    rintro _ m2 ⟨rfl, ⟨l1, l2⟩, l3⟩
    rw [hm0] at l1 l2
    have hbd := FR_bd T (r 0) l hn
    refine ap_ald_0 (pc := 28) dX8_fault_28 ?_
    refine ap_getR (pc := 29) dX8_fault_29 fl_RX8_47 sh_0 rfl ?_
    refine ap_invV (pc := 32) dX8_fault_32 mv_RX8_239 sh_98 (av := []) (rest := []) (qX6_hasFault _ (by rw [l2]; constructor <;> omega)) rfl rfl (Nat.le_of_ble_eq_true rfl) (by decide) (by decide) ?_
    rintro _ _ ⟨⟨wf, rfl⟩ | ⟨wf, rfl⟩, rfl⟩
    all_goals rw [l2] at wf
    · skip
      refine ap_if_ne (pc := 35) 41 dX8_fault_35 rfl ⟨by omega, by omega⟩ (fun _ => ?_) (fun c35 => absurd c35 (by decide))
      refine ap_ild_1 (pc := 41) dX8_fault_41 ?_
      refine ap_if_ne (pc := 42) 55 dX8_fault_42 rfl ⟨by omega, by omega⟩ (fun c42 => ?_) (fun c42 => ?_)
      · skip
        refine ap_ald_0 (pc := 55) dX8_fault_55 ?_
        refine ap_getR (pc := 56) dX8_fault_56 fl_RX8_47 sh_0 rfl ?_
        refine ap_getI (pc := 59) (jz := 3) dX8_fault_59 fl_RX8_246 sh_98 rfl rfl ?_
        try simp (disch := omega) only [am_same, am_k, am_j]
        exact ap_ireturn (pc := 62) dX8_fault_62 rfl ⟨by rw [l2]; simp (disch := omega) only [vFault, if_pos, if_neg], l3⟩
      · skip
        refine ap_ald_0 (pc := 45) dX8_fault_45 ?_
        refine ap_getR (pc := 46) dX8_fault_46 fl_RX8_47 sh_0 rfl ?_
        refine ap_getI (pc := 49) (jz := 2) dX8_fault_49 fl_RX8_243 sh_98 rfl rfl ?_
        try simp (disch := omega) only [am_same, am_k, am_j]
        refine ap_goto (pc := 52) 62 dX8_fault_52 rfl ?_
        exact ap_ireturn (pc := 62) dX8_fault_62 rfl ⟨by rw [l1]; simp (disch := omega) only [vFault, if_pos, if_neg], l3⟩
    · skip
      refine ap_if_ne (pc := 35) 41 dX8_fault_35 rfl ⟨by omega, by omega⟩ (fun c35 => absurd c35 (by decide)) (fun _ => ?_)
      refine ap_bipush (pc := 38) dX8_fault_38 bp_m4 ?_
      exact ap_ireturn (pc := 40) dX8_fault_40 rfl ⟨by simp (disch := omega) only [vFault, if_pos, if_neg], l3⟩
  · skip
    refine ap_if_ne (pc := 6) 11 dX8_fault_6 rfl ⟨by omega, by omega⟩ (fun c6 => absurd c6 (by decide)) (fun _ => ?_)
    refine ap_const (pc := 9) dX8_fault_9 ?_
    exact ap_ireturn (pc := 10) dX8_fault_10 rfl ⟨by simp (disch := omega) only [vFault, if_pos, if_neg], fun _ _ _ => rfl⟩

