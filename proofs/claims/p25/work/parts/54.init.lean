set_option maxHeartbeats 4000000 in
theorem iX3_init_2 (m : AM) : CI 1 mX3_init 3 36 [.inr 2] (pt 3 [(0, .inl (8, [some none, some none, some none, some none, some none, some none, none])), (1, .inl (0, [some none, some none, some none, some none, some none])), (2, .inl (3, [some none, some none, some none, none]))]) m (pt 6 [(0, .inl (8, [some none, some none, some none, some none, some none, some none, none])), (1, .inl (0, [some none, some none, some none, some none, some none]))]) (fun m' => (∀ (k : Nat) (j : Int), k < 2 → m' k j = m k j) ∧ (∀ (k : Nat) (j : Int), 2 < k → k ≤ 5 → m' k j = 0) ∧ m' 2 3 = 0) := by
  refine ci_of (nc := 6) (ns := 52) (by decide +kernel) (Nat.le_of_ble_eq_true rfl) (by decide +kernel) (by decide +kernel) rfl ?_
  refine ai_ald_0 (pc := 0) dX3_init_0 ?_
  refine ai_objInit (pc := 1) dX3_init_1 ol_RX3_3 (by decide) (by decide) ?_
  refine ai_ald_0 (pc := 4) dX3_init_4 ?_
  refine ai_bipush (pc := 5) dX3_init_5 bp_12 ?_
  refine ai_newarr (pc := 7) (N := 12) 3 (sh' := (pt 4 [(0, .inl (8, [some none, some none, some none, some none, some none, some none, none])), (1, .inl (0, [some none, some none, some none, some none, some none])), (2, .inl (3, [some none, some none, some none, none]))])) dX3_init_7 ka_int (Or.inl ⟨rfl, rfl, rfl⟩) rfl (Nat.le_of_ble_eq_true rfl) (by decide +kernel) (by decide +kernel) (by decide +kernel) (by decide +kernel) (by decide +kernel) (by decide +kernel) ?_
  refine ai_putR (pc := 9) (fs := [some none, some none, some none, none]) (sh' := (pt 4 [(0, .inl (8, [some none, some none, some none, some none, some none, some none, none])), (1, .inl (0, [some none, some none, some none, some none, some none])), (2, .inl (3, [some (some 3), some none, some none, none]))])) dX3_init_9 rfl ff_RX3_9 (by decide +kernel) (by decide +kernel) (by decide +kernel) ?_
  refine ai_ald_0 (pc := 12) dX3_init_12 ?_
  refine ai_bipush (pc := 13) dX3_init_13 bp_12 ?_
  refine ai_newarr (pc := 15) (N := 12) 4 (sh' := (pt 5 [(0, .inl (8, [some none, some none, some none, some none, some none, some none, none])), (1, .inl (0, [some none, some none, some none, some none, some none])), (2, .inl (3, [some (some 3), some none, some none, none]))])) dX3_init_15 ka_int (Or.inl ⟨rfl, rfl, rfl⟩) rfl (Nat.le_of_ble_eq_true rfl) (by decide +kernel) (by decide +kernel) (by decide +kernel) (by decide +kernel) (by decide +kernel) (by decide +kernel) ?_
  refine ai_putR (pc := 17) (fs := [some (some 3), some none, some none, none]) (sh' := (pt 5 [(0, .inl (8, [some none, some none, some none, some none, some none, some none, none])), (1, .inl (0, [some none, some none, some none, some none, some none])), (2, .inl (3, [some (some 3), some (some 4), some none, none]))])) dX3_init_17 rfl ff_RX3_15 (by decide +kernel) (by decide +kernel) (by decide +kernel) ?_
  refine ai_ald_0 (pc := 20) dX3_init_20 ?_
  refine ai_bipush (pc := 21) dX3_init_21 bp_12 ?_
  refine ai_newarr (pc := 23) (N := 12) 5 (sh' := (pt 6 [(0, .inl (8, [some none, some none, some none, some none, some none, some none, none])), (1, .inl (0, [some none, some none, some none, some none, some none])), (2, .inl (3, [some (some 3), some (some 4), some none, none]))])) dX3_init_23 ka_int (Or.inl ⟨rfl, rfl, rfl⟩) rfl (Nat.le_of_ble_eq_true rfl) (by decide +kernel) (by decide +kernel) (by decide +kernel) (by decide +kernel) (by decide +kernel) (by decide +kernel) ?_
  refine ai_putR (pc := 25) (fs := [some (some 3), some (some 4), some none, none]) (sh' := (pt 6 [(0, .inl (8, [some none, some none, some none, some none, some none, some none, none])), (1, .inl (0, [some none, some none, some none, some none, some none]))])) dX3_init_25 rfl ff_RX3_18 (by decide +kernel) (by decide +kernel) (by decide +kernel) ?_
  refine ai_ald_0 (pc := 28) dX3_init_28 ?_
  refine ai_const (pc := 29) dX3_init_29 ?_
  refine ai_putI (pc := 30) (fs := [some (some 3), some (some 4), some (some 5), none]) (jz := 3) dX3_init_30 fn_RX3_21 (by decide +kernel) (by decide +kernel) rfl (fun z => by cases z) ?_
  refine ai_return (pc := 33) dX3_init_33 rfl (by decide +kernel) (by decide +kernel) (by decide +kernel) ?_
  refine ⟨fun k j hk => by (try simp (disch := omega) only [am_k, am_j, am_same, am_n0, am_nk]), fun k j h1 h2 => by
    rcases (by omega : k = 3 ∨ k = 4 ∨ k = 5) with rfl | rfl | rfl <;> simp (disch := omega) only [am_k, am_j, am_same, am_n0, am_nk], by simp (disch := omega) only [am_k, am_j, am_same, am_n0, am_nk]⟩

set_option maxHeartbeats 4000000 in
theorem iX5_init_6 (m : AM) : CI 1 mX5_init 5 76 [.inr 6] (pt 7 [(0, .inl (8, [some none, some none, some none, some none, some none, some none, none])), (1, .inl (0, [some (some 2), some none, some none, some none, some none])), (6, .inl (5, [some none, some none, some none, some none, some none]))]) m (pt 12 [(0, .inl (8, [some none, some none, some none, some none, some none, some none, none])), (1, .inl (0, [some (some 2), some none, some none, some none, some none]))]) (fun m' => (∀ (k : Nat) (j : Int), k < 6 → m' k j = m k j) ∧ (∀ (k : Nat) (j : Int), 6 < k → k ≤ 11 → m' k j = 0)) := by
  refine ci_of (nc := 12) (ns := 133) (by decide +kernel) (Nat.le_of_ble_eq_true rfl) (by decide +kernel) (by decide +kernel) rfl ?_
  refine ai_ald_0 (pc := 0) dX5_init_0 ?_
  refine ai_objInit (pc := 1) dX5_init_1 ol_RX5_3 (by decide) (by decide) ?_
  refine ai_ald_0 (pc := 4) dX5_init_4 ?_
  refine ai_bipush (pc := 5) dX5_init_5 bp_7 ?_
  refine ai_newarr (pc := 7) (N := 7) 7 (sh' := (pt 8 [(0, .inl (8, [some none, some none, some none, some none, some none, some none, none])), (1, .inl (0, [some (some 2), some none, some none, some none, some none])), (6, .inl (5, [some none, some none, some none, some none, some none]))])) dX5_init_7 ka_int (Or.inl ⟨rfl, rfl, rfl⟩) rfl (Nat.le_of_ble_eq_true rfl) (by decide +kernel) (by decide +kernel) (by decide +kernel) (by decide +kernel) (by decide +kernel) (by decide +kernel) ?_
  refine ai_putR (pc := 9) (fs := [some none, some none, some none, some none, some none]) (sh' := (pt 8 [(0, .inl (8, [some none, some none, some none, some none, some none, some none, none])), (1, .inl (0, [some (some 2), some none, some none, some none, some none])), (6, .inl (5, [some (some 7), some none, some none, some none, some none]))])) dX5_init_9 rfl ff_RX5_9 (by decide +kernel) (by decide +kernel) (by decide +kernel) ?_
  refine ai_ald_0 (pc := 12) dX5_init_12 ?_
  refine ai_bipush (pc := 13) dX5_init_13 bp_21 ?_
  refine ai_newarr (pc := 15) (N := 21) 8 (sh' := (pt 9 [(0, .inl (8, [some none, some none, some none, some none, some none, some none, none])), (1, .inl (0, [some (some 2), some none, some none, some none, some none])), (6, .inl (5, [some (some 7), some none, some none, some none, some none]))])) dX5_init_15 ka_int (Or.inl ⟨rfl, rfl, rfl⟩) rfl (Nat.le_of_ble_eq_true rfl) (by decide +kernel) (by decide +kernel) (by decide +kernel) (by decide +kernel) (by decide +kernel) (by decide +kernel) ?_
  refine ai_putR (pc := 17) (fs := [some (some 7), some none, some none, some none, some none]) (sh' := (pt 9 [(0, .inl (8, [some none, some none, some none, some none, some none, some none, none])), (1, .inl (0, [some (some 2), some none, some none, some none, some none])), (6, .inl (5, [some (some 7), some (some 8), some none, some none, some none]))])) dX5_init_17 rfl ff_RX5_15 (by decide +kernel) (by decide +kernel) (by decide +kernel) ?_
  refine ai_ald_0 (pc := 20) dX5_init_20 ?_
  refine ai_bipush (pc := 21) dX5_init_21 bp_21 ?_
  refine ai_newarr (pc := 23) (N := 21) 9 (sh' := (pt 10 [(0, .inl (8, [some none, some none, some none, some none, some none, some none, none])), (1, .inl (0, [some (some 2), some none, some none, some none, some none])), (6, .inl (5, [some (some 7), some (some 8), some none, some none, some none]))])) dX5_init_23 ka_int (Or.inl ⟨rfl, rfl, rfl⟩) rfl (Nat.le_of_ble_eq_true rfl) (by decide +kernel) (by decide +kernel) (by decide +kernel) (by decide +kernel) (by decide +kernel) (by decide +kernel) ?_
  refine ai_putR (pc := 25) (fs := [some (some 7), some (some 8), some none, some none, some none]) (sh' := (pt 10 [(0, .inl (8, [some none, some none, some none, some none, some none, some none, none])), (1, .inl (0, [some (some 2), some none, some none, some none, some none])), (6, .inl (5, [some (some 7), some (some 8), some (some 9), some none, some none]))])) dX5_init_25 rfl ff_RX5_18 (by decide +kernel) (by decide +kernel) (by decide +kernel) ?_
  refine ai_ald_0 (pc := 28) dX5_init_28 ?_
  refine ai_bipush (pc := 29) dX5_init_29 bp_21 ?_
  refine ai_newarr (pc := 31) (N := 21) 10 (sh' := (pt 11 [(0, .inl (8, [some none, some none, some none, some none, some none, some none, none])), (1, .inl (0, [some (some 2), some none, some none, some none, some none])), (6, .inl (5, [some (some 7), some (some 8), some (some 9), some none, some none]))])) dX5_init_31 ka_int (Or.inl ⟨rfl, rfl, rfl⟩) rfl (Nat.le_of_ble_eq_true rfl) (by decide +kernel) (by decide +kernel) (by decide +kernel) (by decide +kernel) (by decide +kernel) (by decide +kernel) ?_
  refine ai_putR (pc := 33) (fs := [some (some 7), some (some 8), some (some 9), some none, some none]) (sh' := (pt 11 [(0, .inl (8, [some none, some none, some none, some none, some none, some none, none])), (1, .inl (0, [some (some 2), some none, some none, some none, some none])), (6, .inl (5, [some (some 7), some (some 8), some (some 9), some (some 10), some none]))])) dX5_init_33 rfl ff_RX5_21 (by decide +kernel) (by decide +kernel) (by decide +kernel) ?_
  refine ai_ald_0 (pc := 36) dX5_init_36 ?_
  refine ai_bipush (pc := 37) dX5_init_37 bp_6 ?_
  refine ai_newarr (pc := 39) (N := 6) 11 (sh' := (pt 12 [(0, .inl (8, [some none, some none, some none, some none, some none, some none, none])), (1, .inl (0, [some (some 2), some none, some none, some none, some none])), (6, .inl (5, [some (some 7), some (some 8), some (some 9), some (some 10), some none]))])) dX5_init_39 ka_int (Or.inl ⟨rfl, rfl, rfl⟩) rfl (Nat.le_of_ble_eq_true rfl) (by decide +kernel) (by decide +kernel) (by decide +kernel) (by decide +kernel) (by decide +kernel) (by decide +kernel) ?_
  refine ai_putR (pc := 41) (fs := [some (some 7), some (some 8), some (some 9), some (some 10), some none]) (sh' := (pt 12 [(0, .inl (8, [some none, some none, some none, some none, some none, some none, none])), (1, .inl (0, [some (some 2), some none, some none, some none, some none]))])) dX5_init_41 rfl ff_RX5_24 (by decide +kernel) (by decide +kernel) (by decide +kernel) ?_
  refine ai_return (pc := 44) dX5_init_44 rfl (by decide +kernel) (by decide +kernel) (by decide +kernel) ?_
  refine ⟨fun k j hk => by (try simp (disch := omega) only [am_k, am_j, am_same, am_n0, am_nk]), fun k j h1 h2 => by
    rcases (by omega : k = 7 ∨ k = 8 ∨ k = 9 ∨ k = 10 ∨ k = 11) with rfl | rfl | rfl | rfl | rfl <;> simp (disch := omega) only [am_k, am_j, am_same, am_n0, am_nk]⟩

set_option maxHeartbeats 4000000 in
theorem iX7_init_12 (m : AM) : CI 1 mX7_init 2 24 [.inr 12] (pt 13 [(0, .inl (8, [some none, some none, some none, some none, some none, some none, none])), (1, .inl (0, [some (some 2), some (some 6), some none, some none, some none])), (12, .inl (7, [some none, some none]))]) m (pt 15 [(0, .inl (8, [some none, some none, some none, some none, some none, some none, none])), (1, .inl (0, [some (some 2), some (some 6), some none, some none, some none]))]) (fun m' => (∀ (k : Nat) (j : Int), k < 12 → m' k j = m k j) ∧ (∀ (k : Nat) (j : Int), 12 < k → k ≤ 14 → m' k j = 0)) := by
  refine ci_of (nc := 15) (ns := 159) (by decide +kernel) (Nat.le_of_ble_eq_true rfl) (by decide +kernel) (by decide +kernel) rfl ?_
  refine ai_ald_0 (pc := 0) dX7_init_0 ?_
  refine ai_objInit (pc := 1) dX7_init_1 ol_RX7_3 (by decide) (by decide) ?_
  refine ai_ald_0 (pc := 4) dX7_init_4 ?_
  refine ai_bipush (pc := 5) dX7_init_5 bp_6 ?_
  refine ai_newarr (pc := 7) (N := 6) 13 (sh' := (pt 14 [(0, .inl (8, [some none, some none, some none, some none, some none, some none, none])), (1, .inl (0, [some (some 2), some (some 6), some none, some none, some none])), (12, .inl (7, [some none, some none]))])) dX7_init_7 ka_int (Or.inl ⟨rfl, rfl, rfl⟩) rfl (Nat.le_of_ble_eq_true rfl) (by decide +kernel) (by decide +kernel) (by decide +kernel) (by decide +kernel) (by decide +kernel) (by decide +kernel) ?_
  refine ai_putR (pc := 9) (fs := [some none, some none]) (sh' := (pt 14 [(0, .inl (8, [some none, some none, some none, some none, some none, some none, none])), (1, .inl (0, [some (some 2), some (some 6), some none, some none, some none])), (12, .inl (7, [some (some 13), some none]))])) dX7_init_9 rfl ff_RX7_9 (by decide +kernel) (by decide +kernel) (by decide +kernel) ?_
  refine ai_ald_0 (pc := 12) dX7_init_12 ?_
  refine ai_bipush (pc := 13) dX7_init_13 bp_18 ?_
  refine ai_newarr (pc := 15) (N := 18) 14 (sh' := (pt 15 [(0, .inl (8, [some none, some none, some none, some none, some none, some none, none])), (1, .inl (0, [some (some 2), some (some 6), some none, some none, some none])), (12, .inl (7, [some (some 13), some none]))])) dX7_init_15 ka_int (Or.inl ⟨rfl, rfl, rfl⟩) rfl (Nat.le_of_ble_eq_true rfl) (by decide +kernel) (by decide +kernel) (by decide +kernel) (by decide +kernel) (by decide +kernel) (by decide +kernel) ?_
  refine ai_putR (pc := 17) (fs := [some (some 13), some none]) (sh' := (pt 15 [(0, .inl (8, [some none, some none, some none, some none, some none, some none, none])), (1, .inl (0, [some (some 2), some (some 6), some none, some none, some none]))])) dX7_init_17 rfl ff_RX7_15 (by decide +kernel) (by decide +kernel) (by decide +kernel) ?_
  refine ai_return (pc := 20) dX7_init_20 rfl (by decide +kernel) (by decide +kernel) (by decide +kernel) ?_
  refine ⟨fun k j hk => by (try simp (disch := omega) only [am_k, am_j, am_same, am_n0, am_nk]), fun k j h1 h2 => by
    rcases (by omega : k = 13 ∨ k = 14) with rfl | rfl <;> simp (disch := omega) only [am_k, am_j, am_same, am_n0, am_nk]⟩

set_option maxHeartbeats 4000000 in
theorem iX0_init_1 (m : AM) : CI 2 mX0_init 15 159 [.inr 1] (pt 2 [(0, .inl (8, [some none, some none, some none, some none, some none, some none, none])), (1, .inl (0, [some none, some none, some none, some none, some none]))]) m (pt 17 [(0, .inl (8, [some none, some none, some none, some none, some none, some none, none]))]) (fun m' => (∀ (k : Nat) (j : Int), k < 1 → m' k j = m k j) ∧ (∀ (k : Nat) (j : Int), (3 ≤ k ∧ k ≤ 5) ∨ (7 ≤ k ∧ k ≤ 11) ∨ (13 ≤ k ∧ k ≤ 14) ∨ k = 16 → m' k j = 0) ∧ m' 2 3 = 0 ∧ m' 15 0 = 3 ∧ m' 15 1 = 2 ∧ m' 15 2 = 120) := by
  refine ci_of (nc := 17) (ns := 171) (by decide +kernel) (Nat.le_of_ble_eq_true rfl) (by decide +kernel) (by decide +kernel) rfl ?_
  refine ai_ald_0 (pc := 0) dX0_init_0 ?_
  refine ai_objInit (pc := 1) dX0_init_1 ol_RX0_3 (by decide) (by decide) ?_
  refine ai_ald_0 (pc := 4) dX0_init_4 ?_
  refine ai_new (pc := 5) (fs := [some none, some none, some none, none]) 2 (sh' := (pt 3 [(0, .inl (8, [some none, some none, some none, some none, some none, some none, none])), (1, .inl (0, [some none, some none, some none, some none, some none])), (2, .inl (3, [some none, some none, some none, none]))])) dX0_init_5 kX3 kl_RX0_9 ki_RX3 kn_RX3 rfl (fun j hj => by rcases (by omega : j = 0 ∨ j = 1 ∨ j = 2 ∨ j = 3) with rfl | rfl | rfl | rfl <;> rfl) (by simp) (by decide +kernel) (by decide +kernel) (by decide +kernel) (by decide +kernel) (by decide +kernel) (by decide +kernel) ?_
  refine ai_dup (pc := 8) dX0_init_8 ?_
  refine ai_invI (pc := 9) dX0_init_9 mi_RX0_11 (iX3_init_2 _) (by decide) (by decide) (by decide) (by decide +kernel) (by decide +kernel) (by decide +kernel) (by decide +kernel) (fun m1 c1 => ?_)
  refine ai_putR (pc := 12) (fs := [some none, some none, some none, some none, some none]) (sh' := (pt 6 [(0, .inl (8, [some none, some none, some none, some none, some none, some none, none])), (1, .inl (0, [some (some 2), some none, some none, some none, some none]))])) dX0_init_12 rfl ff_RX0_12 (by decide +kernel) (by decide +kernel) (by decide +kernel) ?_
  refine ai_ald_0 (pc := 15) dX0_init_15 ?_
  refine ai_new (pc := 16) (fs := [some none, some none, some none, some none, some none]) 6 (sh' := (pt 7 [(0, .inl (8, [some none, some none, some none, some none, some none, some none, none])), (1, .inl (0, [some (some 2), some none, some none, some none, some none])), (6, .inl (5, [some none, some none, some none, some none, some none]))])) dX0_init_16 kX5 kl_RX0_18 ki_RX5 kn_RX5 rfl (fun j hj => by rcases (by omega : j = 0 ∨ j = 1 ∨ j = 2 ∨ j = 3 ∨ j = 4) with rfl | rfl | rfl | rfl | rfl <;> rfl) (by simp) (by decide +kernel) (by decide +kernel) (by decide +kernel) (by decide +kernel) (by decide +kernel) (by decide +kernel) ?_
  refine ai_dup (pc := 19) dX0_init_19 ?_
  refine ai_invI (pc := 20) dX0_init_20 mi_RX0_20 (iX5_init_6 _) (by decide) (by decide) (by decide) (by decide +kernel) (by decide +kernel) (by decide +kernel) (by decide +kernel) (fun m2 c2 => ?_)
  refine ai_putR (pc := 23) (fs := [some (some 2), some none, some none, some none, some none]) (sh' := (pt 12 [(0, .inl (8, [some none, some none, some none, some none, some none, some none, none])), (1, .inl (0, [some (some 2), some (some 6), some none, some none, some none]))])) dX0_init_23 rfl ff_RX0_21 (by decide +kernel) (by decide +kernel) (by decide +kernel) ?_
  refine ai_ald_0 (pc := 26) dX0_init_26 ?_
  refine ai_new (pc := 27) (fs := [some none, some none]) 12 (sh' := (pt 13 [(0, .inl (8, [some none, some none, some none, some none, some none, some none, none])), (1, .inl (0, [some (some 2), some (some 6), some none, some none, some none])), (12, .inl (7, [some none, some none]))])) dX0_init_27 kX7 kl_RX0_25 ki_RX7 kn_RX7 rfl (fun j hj => by rcases (by omega : j = 0 ∨ j = 1) with rfl | rfl <;> rfl) (by simp) (by decide +kernel) (by decide +kernel) (by decide +kernel) (by decide +kernel) (by decide +kernel) (by decide +kernel) ?_
  refine ai_dup (pc := 30) dX0_init_30 ?_
  refine ai_invI (pc := 31) dX0_init_31 mi_RX0_27 (iX7_init_12 _) (by decide) (by decide) (by decide) (by decide +kernel) (by decide +kernel) (by decide +kernel) (by decide +kernel) (fun m3 c3 => ?_)
  refine ai_putR (pc := 34) (fs := [some (some 2), some (some 6), some none, some none, some none]) (sh' := (pt 15 [(0, .inl (8, [some none, some none, some none, some none, some none, some none, none])), (1, .inl (0, [some (some 2), some (some 6), some (some 12), some none, some none]))])) dX0_init_34 rfl ff_RX0_28 (by decide +kernel) (by decide +kernel) (by decide +kernel) ?_
  refine ai_ald_0 (pc := 37) dX0_init_37 ?_
  refine ai_const (pc := 38) dX0_init_38 ?_
  refine ai_newarr (pc := 39) (N := 3) 15 (sh' := (pt 16 [(0, .inl (8, [some none, some none, some none, some none, some none, some none, none])), (1, .inl (0, [some (some 2), some (some 6), some (some 12), some none, some none]))])) dX0_init_39 ka_int (Or.inl ⟨rfl, rfl, rfl⟩) rfl (Nat.le_of_ble_eq_true rfl) (by decide +kernel) (by decide +kernel) (by decide +kernel) (by decide +kernel) (by decide +kernel) (by decide +kernel) ?_
  refine ai_dup (pc := 41) dX0_init_41 ?_
  refine ai_const (pc := 42) dX0_init_42 ?_
  refine ai_const (pc := 43) dX0_init_43 ?_
  refine ai_iastore (pc := 44) (n := 3) dX0_init_44 (by decide +kernel) (by decide) (by decide) (by decide) ?_
  refine ai_dup (pc := 45) dX0_init_45 ?_
  refine ai_const (pc := 46) dX0_init_46 ?_
  refine ai_const (pc := 47) dX0_init_47 ?_
  refine ai_iastore (pc := 48) (n := 3) dX0_init_48 (by decide +kernel) (by decide) (by decide) (by decide) ?_
  refine ai_dup (pc := 49) dX0_init_49 ?_
  refine ai_const (pc := 50) dX0_init_50 ?_
  refine ai_bipush (pc := 51) dX0_init_51 bp_120 ?_
  refine ai_iastore (pc := 53) (n := 3) dX0_init_53 (by decide +kernel) (by decide) (by decide) (by decide) ?_
  refine ai_putR (pc := 54) (fs := [some (some 2), some (some 6), some (some 12), some none, some none]) (sh' := (pt 16 [(0, .inl (8, [some none, some none, some none, some none, some none, some none, none])), (1, .inl (0, [some (some 2), some (some 6), some (some 12), some (some 15), some none]))])) dX0_init_54 rfl ff_RX0_32 (by decide +kernel) (by decide +kernel) (by decide +kernel) ?_
  refine ai_ald_0 (pc := 57) dX0_init_57 ?_
  refine ai_bipush (pc := 58) dX0_init_58 bp_9 ?_
  refine ai_newarr (pc := 60) (N := 9) 16 (sh' := (pt 17 [(0, .inl (8, [some none, some none, some none, some none, some none, some none, none])), (1, .inl (0, [some (some 2), some (some 6), some (some 12), some (some 15), some none]))])) dX0_init_60 ka_int (Or.inl ⟨rfl, rfl, rfl⟩) rfl (Nat.le_of_ble_eq_true rfl) (by decide +kernel) (by decide +kernel) (by decide +kernel) (by decide +kernel) (by decide +kernel) (by decide +kernel) ?_
  refine ai_putR (pc := 62) (fs := [some (some 2), some (some 6), some (some 12), some (some 15), some none]) (sh' := (pt 17 [(0, .inl (8, [some none, some none, some none, some none, some none, some none, none]))])) dX0_init_62 rfl ff_RX0_36 (by decide +kernel) (by decide +kernel) (by decide +kernel) ?_
  refine ai_return (pc := 65) dX0_init_65 rfl (by decide +kernel) (by decide +kernel) (by decide +kernel) ?_
  exact ⟨fun k j hk => by (try simp (disch := omega) only [am_k, am_j, am_same, am_n0, am_nk]); (try rw [c3.1 _ _ (by omega)]); (try simp (disch := omega) only [am_k, am_j, am_same, am_n0, am_nk]); (try rw [c2.1 _ _ (by omega)]); (try simp (disch := omega) only [am_k, am_j, am_same, am_n0, am_nk]); (try rw [c1.1 _ _ (by omega)]); (try simp (disch := omega) only [am_k, am_j, am_same, am_n0, am_nk]), fun k j h => by
    rcases h with h | h | h | h
    · (try simp (disch := omega) only [am_k, am_j, am_same, am_n0, am_nk]); (try rw [c3.1 _ _ (by omega)]); (try simp (disch := omega) only [am_k, am_j, am_same, am_n0, am_nk]); (try rw [c2.1 _ _ (by omega)]); (try simp (disch := omega) only [am_k, am_j, am_same, am_n0, am_nk]); exact c1.2.1 k j (by omega) (by omega)
    · (try simp (disch := omega) only [am_k, am_j, am_same, am_n0, am_nk]); (try rw [c3.1 _ _ (by omega)]); (try simp (disch := omega) only [am_k, am_j, am_same, am_n0, am_nk]); exact c2.2 k j (by omega) (by omega)
    · (try simp (disch := omega) only [am_k, am_j, am_same, am_n0, am_nk]); exact c3.2 k j (by omega) (by omega)
    · subst h; simp (disch := omega) only [am_k, am_j, am_same, am_n0, am_nk], by (try simp (disch := omega) only [am_k, am_j, am_same, am_n0, am_nk]); (try rw [c3.1 _ _ (by omega)]); (try simp (disch := omega) only [am_k, am_j, am_same, am_n0, am_nk]); (try rw [c2.1 _ _ (by omega)]); (try simp (disch := omega) only [am_k, am_j, am_same, am_n0, am_nk]); exact c1.2.2, by simp (disch := omega) only [am_k, am_j, am_same, am_n0, am_nk], by simp (disch := omega) only [am_k, am_j, am_same, am_n0, am_nk], by simp (disch := omega) only [am_k, am_j, am_same, am_n0, am_nk]⟩

set_option maxHeartbeats 4000000 in
theorem iX3_init_20 (m : AM) : CI 1 mX3_init 3 36 [.inr 20] (pt 21 [(0, .inl (8, [some (some 1), some none, some none, some none, some none, some none, none])), (17, .inl (2, [some none, none, none])), (18, .inr (.inr [none, none, none, none])), (19, .inl (0, [some none, some none, some none, some none, some none])), (20, .inl (3, [some none, some none, some none, none]))]) m (pt 24 [(0, .inl (8, [some (some 1), some none, some none, some none, some none, some none, none])), (17, .inl (2, [some none, none, none])), (18, .inr (.inr [none, none, none, none])), (19, .inl (0, [some none, some none, some none, some none, some none]))]) (fun m' => (∀ (k : Nat) (j : Int), k < 20 → m' k j = m k j) ∧ (∀ (k : Nat) (j : Int), 20 < k → k ≤ 23 → m' k j = 0) ∧ m' 20 3 = 0) := by
  refine ci_of (nc := 24) (ns := 223) (by decide +kernel) (Nat.le_of_ble_eq_true rfl) (by decide +kernel) (by decide +kernel) rfl ?_
  refine ai_ald_0 (pc := 0) dX3_init_0 ?_
  refine ai_objInit (pc := 1) dX3_init_1 ol_RX3_3 (by decide) (by decide) ?_
  refine ai_ald_0 (pc := 4) dX3_init_4 ?_
  refine ai_bipush (pc := 5) dX3_init_5 bp_12 ?_
  refine ai_newarr (pc := 7) (N := 12) 21 (sh' := (pt 22 [(0, .inl (8, [some (some 1), some none, some none, some none, some none, some none, none])), (17, .inl (2, [some none, none, none])), (18, .inr (.inr [none, none, none, none])), (19, .inl (0, [some none, some none, some none, some none, some none])), (20, .inl (3, [some none, some none, some none, none]))])) dX3_init_7 ka_int (Or.inl ⟨rfl, rfl, rfl⟩) rfl (Nat.le_of_ble_eq_true rfl) (by decide +kernel) (by decide +kernel) (by decide +kernel) (by decide +kernel) (by decide +kernel) (by decide +kernel) ?_
  refine ai_putR (pc := 9) (fs := [some none, some none, some none, none]) (sh' := (pt 22 [(0, .inl (8, [some (some 1), some none, some none, some none, some none, some none, none])), (17, .inl (2, [some none, none, none])), (18, .inr (.inr [none, none, none, none])), (19, .inl (0, [some none, some none, some none, some none, some none])), (20, .inl (3, [some (some 21), some none, some none, none]))])) dX3_init_9 rfl ff_RX3_9 (by decide +kernel) (by decide +kernel) (by decide +kernel) ?_
  refine ai_ald_0 (pc := 12) dX3_init_12 ?_
  refine ai_bipush (pc := 13) dX3_init_13 bp_12 ?_
  refine ai_newarr (pc := 15) (N := 12) 22 (sh' := (pt 23 [(0, .inl (8, [some (some 1), some none, some none, some none, some none, some none, none])), (17, .inl (2, [some none, none, none])), (18, .inr (.inr [none, none, none, none])), (19, .inl (0, [some none, some none, some none, some none, some none])), (20, .inl (3, [some (some 21), some none, some none, none]))])) dX3_init_15 ka_int (Or.inl ⟨rfl, rfl, rfl⟩) rfl (Nat.le_of_ble_eq_true rfl) (by decide +kernel) (by decide +kernel) (by decide +kernel) (by decide +kernel) (by decide +kernel) (by decide +kernel) ?_
  refine ai_putR (pc := 17) (fs := [some (some 21), some none, some none, none]) (sh' := (pt 23 [(0, .inl (8, [some (some 1), some none, some none, some none, some none, some none, none])), (17, .inl (2, [some none, none, none])), (18, .inr (.inr [none, none, none, none])), (19, .inl (0, [some none, some none, some none, some none, some none])), (20, .inl (3, [some (some 21), some (some 22), some none, none]))])) dX3_init_17 rfl ff_RX3_15 (by decide +kernel) (by decide +kernel) (by decide +kernel) ?_
  refine ai_ald_0 (pc := 20) dX3_init_20 ?_
  refine ai_bipush (pc := 21) dX3_init_21 bp_12 ?_
  refine ai_newarr (pc := 23) (N := 12) 23 (sh' := (pt 24 [(0, .inl (8, [some (some 1), some none, some none, some none, some none, some none, none])), (17, .inl (2, [some none, none, none])), (18, .inr (.inr [none, none, none, none])), (19, .inl (0, [some none, some none, some none, some none, some none])), (20, .inl (3, [some (some 21), some (some 22), some none, none]))])) dX3_init_23 ka_int (Or.inl ⟨rfl, rfl, rfl⟩) rfl (Nat.le_of_ble_eq_true rfl) (by decide +kernel) (by decide +kernel) (by decide +kernel) (by decide +kernel) (by decide +kernel) (by decide +kernel) ?_
  refine ai_putR (pc := 25) (fs := [some (some 21), some (some 22), some none, none]) (sh' := (pt 24 [(0, .inl (8, [some (some 1), some none, some none, some none, some none, some none, none])), (17, .inl (2, [some none, none, none])), (18, .inr (.inr [none, none, none, none])), (19, .inl (0, [some none, some none, some none, some none, some none]))])) dX3_init_25 rfl ff_RX3_18 (by decide +kernel) (by decide +kernel) (by decide +kernel) ?_
  refine ai_ald_0 (pc := 28) dX3_init_28 ?_
  refine ai_const (pc := 29) dX3_init_29 ?_
  refine ai_putI (pc := 30) (fs := [some (some 21), some (some 22), some (some 23), none]) (jz := 3) dX3_init_30 fn_RX3_21 (by decide +kernel) (by decide +kernel) rfl (fun z => by cases z) ?_
  refine ai_return (pc := 33) dX3_init_33 rfl (by decide +kernel) (by decide +kernel) (by decide +kernel) ?_
  refine ⟨fun k j hk => by (try simp (disch := omega) only [am_k, am_j, am_same, am_n0, am_nk]), fun k j h1 h2 => by
    rcases (by omega : k = 21 ∨ k = 22 ∨ k = 23) with rfl | rfl | rfl <;> simp (disch := omega) only [am_k, am_j, am_same, am_n0, am_nk], by simp (disch := omega) only [am_k, am_j, am_same, am_n0, am_nk]⟩

set_option maxHeartbeats 4000000 in
theorem iX5_init_24 (m : AM) : CI 1 mX5_init 5 76 [.inr 24] (pt 25 [(0, .inl (8, [some (some 1), some none, some none, some none, some none, some none, none])), (17, .inl (2, [some none, none, none])), (18, .inr (.inr [none, none, none, none])), (19, .inl (0, [some (some 20), some none, some none, some none, some none])), (24, .inl (5, [some none, some none, some none, some none, some none]))]) m (pt 30 [(0, .inl (8, [some (some 1), some none, some none, some none, some none, some none, none])), (17, .inl (2, [some none, none, none])), (18, .inr (.inr [none, none, none, none])), (19, .inl (0, [some (some 20), some none, some none, some none, some none]))]) (fun m' => (∀ (k : Nat) (j : Int), k < 24 → m' k j = m k j) ∧ (∀ (k : Nat) (j : Int), 24 < k → k ≤ 29 → m' k j = 0)) := by
  refine ci_of (nc := 30) (ns := 304) (by decide +kernel) (Nat.le_of_ble_eq_true rfl) (by decide +kernel) (by decide +kernel) rfl ?_
  refine ai_ald_0 (pc := 0) dX5_init_0 ?_
  refine ai_objInit (pc := 1) dX5_init_1 ol_RX5_3 (by decide) (by decide) ?_
  refine ai_ald_0 (pc := 4) dX5_init_4 ?_
  refine ai_bipush (pc := 5) dX5_init_5 bp_7 ?_
  refine ai_newarr (pc := 7) (N := 7) 25 (sh' := (pt 26 [(0, .inl (8, [some (some 1), some none, some none, some none, some none, some none, none])), (17, .inl (2, [some none, none, none])), (18, .inr (.inr [none, none, none, none])), (19, .inl (0, [some (some 20), some none, some none, some none, some none])), (24, .inl (5, [some none, some none, some none, some none, some none]))])) dX5_init_7 ka_int (Or.inl ⟨rfl, rfl, rfl⟩) rfl (Nat.le_of_ble_eq_true rfl) (by decide +kernel) (by decide +kernel) (by decide +kernel) (by decide +kernel) (by decide +kernel) (by decide +kernel) ?_
  refine ai_putR (pc := 9) (fs := [some none, some none, some none, some none, some none]) (sh' := (pt 26 [(0, .inl (8, [some (some 1), some none, some none, some none, some none, some none, none])), (17, .inl (2, [some none, none, none])), (18, .inr (.inr [none, none, none, none])), (19, .inl (0, [some (some 20), some none, some none, some none, some none])), (24, .inl (5, [some (some 25), some none, some none, some none, some none]))])) dX5_init_9 rfl ff_RX5_9 (by decide +kernel) (by decide +kernel) (by decide +kernel) ?_
  refine ai_ald_0 (pc := 12) dX5_init_12 ?_
  refine ai_bipush (pc := 13) dX5_init_13 bp_21 ?_
  refine ai_newarr (pc := 15) (N := 21) 26 (sh' := (pt 27 [(0, .inl (8, [some (some 1), some none, some none, some none, some none, some none, none])), (17, .inl (2, [some none, none, none])), (18, .inr (.inr [none, none, none, none])), (19, .inl (0, [some (some 20), some none, some none, some none, some none])), (24, .inl (5, [some (some 25), some none, some none, some none, some none]))])) dX5_init_15 ka_int (Or.inl ⟨rfl, rfl, rfl⟩) rfl (Nat.le_of_ble_eq_true rfl) (by decide +kernel) (by decide +kernel) (by decide +kernel) (by decide +kernel) (by decide +kernel) (by decide +kernel) ?_
  refine ai_putR (pc := 17) (fs := [some (some 25), some none, some none, some none, some none]) (sh' := (pt 27 [(0, .inl (8, [some (some 1), some none, some none, some none, some none, some none, none])), (17, .inl (2, [some none, none, none])), (18, .inr (.inr [none, none, none, none])), (19, .inl (0, [some (some 20), some none, some none, some none, some none])), (24, .inl (5, [some (some 25), some (some 26), some none, some none, some none]))])) dX5_init_17 rfl ff_RX5_15 (by decide +kernel) (by decide +kernel) (by decide +kernel) ?_
  refine ai_ald_0 (pc := 20) dX5_init_20 ?_
  refine ai_bipush (pc := 21) dX5_init_21 bp_21 ?_
  refine ai_newarr (pc := 23) (N := 21) 27 (sh' := (pt 28 [(0, .inl (8, [some (some 1), some none, some none, some none, some none, some none, none])), (17, .inl (2, [some none, none, none])), (18, .inr (.inr [none, none, none, none])), (19, .inl (0, [some (some 20), some none, some none, some none, some none])), (24, .inl (5, [some (some 25), some (some 26), some none, some none, some none]))])) dX5_init_23 ka_int (Or.inl ⟨rfl, rfl, rfl⟩) rfl (Nat.le_of_ble_eq_true rfl) (by decide +kernel) (by decide +kernel) (by decide +kernel) (by decide +kernel) (by decide +kernel) (by decide +kernel) ?_
  refine ai_putR (pc := 25) (fs := [some (some 25), some (some 26), some none, some none, some none]) (sh' := (pt 28 [(0, .inl (8, [some (some 1), some none, some none, some none, some none, some none, none])), (17, .inl (2, [some none, none, none])), (18, .inr (.inr [none, none, none, none])), (19, .inl (0, [some (some 20), some none, some none, some none, some none])), (24, .inl (5, [some (some 25), some (some 26), some (some 27), some none, some none]))])) dX5_init_25 rfl ff_RX5_18 (by decide +kernel) (by decide +kernel) (by decide +kernel) ?_
  refine ai_ald_0 (pc := 28) dX5_init_28 ?_
  refine ai_bipush (pc := 29) dX5_init_29 bp_21 ?_
  refine ai_newarr (pc := 31) (N := 21) 28 (sh' := (pt 29 [(0, .inl (8, [some (some 1), some none, some none, some none, some none, some none, none])), (17, .inl (2, [some none, none, none])), (18, .inr (.inr [none, none, none, none])), (19, .inl (0, [some (some 20), some none, some none, some none, some none])), (24, .inl (5, [some (some 25), some (some 26), some (some 27), some none, some none]))])) dX5_init_31 ka_int (Or.inl ⟨rfl, rfl, rfl⟩) rfl (Nat.le_of_ble_eq_true rfl) (by decide +kernel) (by decide +kernel) (by decide +kernel) (by decide +kernel) (by decide +kernel) (by decide +kernel) ?_
  refine ai_putR (pc := 33) (fs := [some (some 25), some (some 26), some (some 27), some none, some none]) (sh' := (pt 29 [(0, .inl (8, [some (some 1), some none, some none, some none, some none, some none, none])), (17, .inl (2, [some none, none, none])), (18, .inr (.inr [none, none, none, none])), (19, .inl (0, [some (some 20), some none, some none, some none, some none])), (24, .inl (5, [some (some 25), some (some 26), some (some 27), some (some 28), some none]))])) dX5_init_33 rfl ff_RX5_21 (by decide +kernel) (by decide +kernel) (by decide +kernel) ?_
  refine ai_ald_0 (pc := 36) dX5_init_36 ?_
  refine ai_bipush (pc := 37) dX5_init_37 bp_6 ?_
  refine ai_newarr (pc := 39) (N := 6) 29 (sh' := (pt 30 [(0, .inl (8, [some (some 1), some none, some none, some none, some none, some none, none])), (17, .inl (2, [some none, none, none])), (18, .inr (.inr [none, none, none, none])), (19, .inl (0, [some (some 20), some none, some none, some none, some none])), (24, .inl (5, [some (some 25), some (some 26), some (some 27), some (some 28), some none]))])) dX5_init_39 ka_int (Or.inl ⟨rfl, rfl, rfl⟩) rfl (Nat.le_of_ble_eq_true rfl) (by decide +kernel) (by decide +kernel) (by decide +kernel) (by decide +kernel) (by decide +kernel) (by decide +kernel) ?_
  refine ai_putR (pc := 41) (fs := [some (some 25), some (some 26), some (some 27), some (some 28), some none]) (sh' := (pt 30 [(0, .inl (8, [some (some 1), some none, some none, some none, some none, some none, none])), (17, .inl (2, [some none, none, none])), (18, .inr (.inr [none, none, none, none])), (19, .inl (0, [some (some 20), some none, some none, some none, some none]))])) dX5_init_41 rfl ff_RX5_24 (by decide +kernel) (by decide +kernel) (by decide +kernel) ?_
  refine ai_return (pc := 44) dX5_init_44 rfl (by decide +kernel) (by decide +kernel) (by decide +kernel) ?_
  refine ⟨fun k j hk => by (try simp (disch := omega) only [am_k, am_j, am_same, am_n0, am_nk]), fun k j h1 h2 => by
    rcases (by omega : k = 25 ∨ k = 26 ∨ k = 27 ∨ k = 28 ∨ k = 29) with rfl | rfl | rfl | rfl | rfl <;> simp (disch := omega) only [am_k, am_j, am_same, am_n0, am_nk]⟩

set_option maxHeartbeats 4000000 in
theorem iX7_init_30 (m : AM) : CI 1 mX7_init 2 24 [.inr 30] (pt 31 [(0, .inl (8, [some (some 1), some none, some none, some none, some none, some none, none])), (17, .inl (2, [some none, none, none])), (18, .inr (.inr [none, none, none, none])), (19, .inl (0, [some (some 20), some (some 24), some none, some none, some none])), (30, .inl (7, [some none, some none]))]) m (pt 33 [(0, .inl (8, [some (some 1), some none, some none, some none, some none, some none, none])), (17, .inl (2, [some none, none, none])), (18, .inr (.inr [none, none, none, none])), (19, .inl (0, [some (some 20), some (some 24), some none, some none, some none]))]) (fun m' => (∀ (k : Nat) (j : Int), k < 30 → m' k j = m k j) ∧ (∀ (k : Nat) (j : Int), 30 < k → k ≤ 32 → m' k j = 0)) := by
  refine ci_of (nc := 33) (ns := 330) (by decide +kernel) (Nat.le_of_ble_eq_true rfl) (by decide +kernel) (by decide +kernel) rfl ?_
  refine ai_ald_0 (pc := 0) dX7_init_0 ?_
  refine ai_objInit (pc := 1) dX7_init_1 ol_RX7_3 (by decide) (by decide) ?_
  refine ai_ald_0 (pc := 4) dX7_init_4 ?_
  refine ai_bipush (pc := 5) dX7_init_5 bp_6 ?_
  refine ai_newarr (pc := 7) (N := 6) 31 (sh' := (pt 32 [(0, .inl (8, [some (some 1), some none, some none, some none, some none, some none, none])), (17, .inl (2, [some none, none, none])), (18, .inr (.inr [none, none, none, none])), (19, .inl (0, [some (some 20), some (some 24), some none, some none, some none])), (30, .inl (7, [some none, some none]))])) dX7_init_7 ka_int (Or.inl ⟨rfl, rfl, rfl⟩) rfl (Nat.le_of_ble_eq_true rfl) (by decide +kernel) (by decide +kernel) (by decide +kernel) (by decide +kernel) (by decide +kernel) (by decide +kernel) ?_
  refine ai_putR (pc := 9) (fs := [some none, some none]) (sh' := (pt 32 [(0, .inl (8, [some (some 1), some none, some none, some none, some none, some none, none])), (17, .inl (2, [some none, none, none])), (18, .inr (.inr [none, none, none, none])), (19, .inl (0, [some (some 20), some (some 24), some none, some none, some none])), (30, .inl (7, [some (some 31), some none]))])) dX7_init_9 rfl ff_RX7_9 (by decide +kernel) (by decide +kernel) (by decide +kernel) ?_
  refine ai_ald_0 (pc := 12) dX7_init_12 ?_
  refine ai_bipush (pc := 13) dX7_init_13 bp_18 ?_
  refine ai_newarr (pc := 15) (N := 18) 32 (sh' := (pt 33 [(0, .inl (8, [some (some 1), some none, some none, some none, some none, some none, none])), (17, .inl (2, [some none, none, none])), (18, .inr (.inr [none, none, none, none])), (19, .inl (0, [some (some 20), some (some 24), some none, some none, some none])), (30, .inl (7, [some (some 31), some none]))])) dX7_init_15 ka_int (Or.inl ⟨rfl, rfl, rfl⟩) rfl (Nat.le_of_ble_eq_true rfl) (by decide +kernel) (by decide +kernel) (by decide +kernel) (by decide +kernel) (by decide +kernel) (by decide +kernel) ?_
  refine ai_putR (pc := 17) (fs := [some (some 31), some none]) (sh' := (pt 33 [(0, .inl (8, [some (some 1), some none, some none, some none, some none, some none, none])), (17, .inl (2, [some none, none, none])), (18, .inr (.inr [none, none, none, none])), (19, .inl (0, [some (some 20), some (some 24), some none, some none, some none]))])) dX7_init_17 rfl ff_RX7_15 (by decide +kernel) (by decide +kernel) (by decide +kernel) ?_
  refine ai_return (pc := 20) dX7_init_20 rfl (by decide +kernel) (by decide +kernel) (by decide +kernel) ?_
  refine ⟨fun k j hk => by (try simp (disch := omega) only [am_k, am_j, am_same, am_n0, am_nk]), fun k j h1 h2 => by
    rcases (by omega : k = 31 ∨ k = 32) with rfl | rfl <;> simp (disch := omega) only [am_k, am_j, am_same, am_n0, am_nk]⟩

set_option maxHeartbeats 4000000 in
theorem iX0_init_19 (m : AM) : CI 2 mX0_init 15 159 [.inr 19] (pt 20 [(0, .inl (8, [some (some 1), some none, some none, some none, some none, some none, none])), (17, .inl (2, [some none, none, none])), (18, .inr (.inr [none, none, none, none])), (19, .inl (0, [some none, some none, some none, some none, some none]))]) m (pt 35 [(0, .inl (8, [some (some 1), some none, some none, some none, some none, some none, none])), (17, .inl (2, [some none, none, none])), (18, .inr (.inr [none, none, none, none]))]) (fun m' => (∀ (k : Nat) (j : Int), k < 19 → m' k j = m k j) ∧ (∀ (k : Nat) (j : Int), (21 ≤ k ∧ k ≤ 23) ∨ (25 ≤ k ∧ k ≤ 29) ∨ (31 ≤ k ∧ k ≤ 32) ∨ k = 34 → m' k j = 0) ∧ m' 20 3 = 0 ∧ m' 33 0 = 3 ∧ m' 33 1 = 2 ∧ m' 33 2 = 120) := by
  refine ci_of (nc := 35) (ns := 342) (by decide +kernel) (Nat.le_of_ble_eq_true rfl) (by decide +kernel) (by decide +kernel) rfl ?_
  refine ai_ald_0 (pc := 0) dX0_init_0 ?_
  refine ai_objInit (pc := 1) dX0_init_1 ol_RX0_3 (by decide) (by decide) ?_
  refine ai_ald_0 (pc := 4) dX0_init_4 ?_
  refine ai_new (pc := 5) (fs := [some none, some none, some none, none]) 20 (sh' := (pt 21 [(0, .inl (8, [some (some 1), some none, some none, some none, some none, some none, none])), (17, .inl (2, [some none, none, none])), (18, .inr (.inr [none, none, none, none])), (19, .inl (0, [some none, some none, some none, some none, some none])), (20, .inl (3, [some none, some none, some none, none]))])) dX0_init_5 kX3 kl_RX0_9 ki_RX3 kn_RX3 rfl (fun j hj => by rcases (by omega : j = 0 ∨ j = 1 ∨ j = 2 ∨ j = 3) with rfl | rfl | rfl | rfl <;> rfl) (by simp) (by decide +kernel) (by decide +kernel) (by decide +kernel) (by decide +kernel) (by decide +kernel) (by decide +kernel) ?_
  refine ai_dup (pc := 8) dX0_init_8 ?_
  refine ai_invI (pc := 9) dX0_init_9 mi_RX0_11 (iX3_init_20 _) (by decide) (by decide) (by decide) (by decide +kernel) (by decide +kernel) (by decide +kernel) (by decide +kernel) (fun m1 c1 => ?_)
  refine ai_putR (pc := 12) (fs := [some none, some none, some none, some none, some none]) (sh' := (pt 24 [(0, .inl (8, [some (some 1), some none, some none, some none, some none, some none, none])), (17, .inl (2, [some none, none, none])), (18, .inr (.inr [none, none, none, none])), (19, .inl (0, [some (some 20), some none, some none, some none, some none]))])) dX0_init_12 rfl ff_RX0_12 (by decide +kernel) (by decide +kernel) (by decide +kernel) ?_
  refine ai_ald_0 (pc := 15) dX0_init_15 ?_
  refine ai_new (pc := 16) (fs := [some none, some none, some none, some none, some none]) 24 (sh' := (pt 25 [(0, .inl (8, [some (some 1), some none, some none, some none, some none, some none, none])), (17, .inl (2, [some none, none, none])), (18, .inr (.inr [none, none, none, none])), (19, .inl (0, [some (some 20), some none, some none, some none, some none])), (24, .inl (5, [some none, some none, some none, some none, some none]))])) dX0_init_16 kX5 kl_RX0_18 ki_RX5 kn_RX5 rfl (fun j hj => by rcases (by omega : j = 0 ∨ j = 1 ∨ j = 2 ∨ j = 3 ∨ j = 4) with rfl | rfl | rfl | rfl | rfl <;> rfl) (by simp) (by decide +kernel) (by decide +kernel) (by decide +kernel) (by decide +kernel) (by decide +kernel) (by decide +kernel) ?_
  refine ai_dup (pc := 19) dX0_init_19 ?_
  refine ai_invI (pc := 20) dX0_init_20 mi_RX0_20 (iX5_init_24 _) (by decide) (by decide) (by decide) (by decide +kernel) (by decide +kernel) (by decide +kernel) (by decide +kernel) (fun m2 c2 => ?_)
  refine ai_putR (pc := 23) (fs := [some (some 20), some none, some none, some none, some none]) (sh' := (pt 30 [(0, .inl (8, [some (some 1), some none, some none, some none, some none, some none, none])), (17, .inl (2, [some none, none, none])), (18, .inr (.inr [none, none, none, none])), (19, .inl (0, [some (some 20), some (some 24), some none, some none, some none]))])) dX0_init_23 rfl ff_RX0_21 (by decide +kernel) (by decide +kernel) (by decide +kernel) ?_
  refine ai_ald_0 (pc := 26) dX0_init_26 ?_
  refine ai_new (pc := 27) (fs := [some none, some none]) 30 (sh' := (pt 31 [(0, .inl (8, [some (some 1), some none, some none, some none, some none, some none, none])), (17, .inl (2, [some none, none, none])), (18, .inr (.inr [none, none, none, none])), (19, .inl (0, [some (some 20), some (some 24), some none, some none, some none])), (30, .inl (7, [some none, some none]))])) dX0_init_27 kX7 kl_RX0_25 ki_RX7 kn_RX7 rfl (fun j hj => by rcases (by omega : j = 0 ∨ j = 1) with rfl | rfl <;> rfl) (by simp) (by decide +kernel) (by decide +kernel) (by decide +kernel) (by decide +kernel) (by decide +kernel) (by decide +kernel) ?_
  refine ai_dup (pc := 30) dX0_init_30 ?_
  refine ai_invI (pc := 31) dX0_init_31 mi_RX0_27 (iX7_init_30 _) (by decide) (by decide) (by decide) (by decide +kernel) (by decide +kernel) (by decide +kernel) (by decide +kernel) (fun m3 c3 => ?_)
  refine ai_putR (pc := 34) (fs := [some (some 20), some (some 24), some none, some none, some none]) (sh' := (pt 33 [(0, .inl (8, [some (some 1), some none, some none, some none, some none, some none, none])), (17, .inl (2, [some none, none, none])), (18, .inr (.inr [none, none, none, none])), (19, .inl (0, [some (some 20), some (some 24), some (some 30), some none, some none]))])) dX0_init_34 rfl ff_RX0_28 (by decide +kernel) (by decide +kernel) (by decide +kernel) ?_
  refine ai_ald_0 (pc := 37) dX0_init_37 ?_
  refine ai_const (pc := 38) dX0_init_38 ?_
  refine ai_newarr (pc := 39) (N := 3) 33 (sh' := (pt 34 [(0, .inl (8, [some (some 1), some none, some none, some none, some none, some none, none])), (17, .inl (2, [some none, none, none])), (18, .inr (.inr [none, none, none, none])), (19, .inl (0, [some (some 20), some (some 24), some (some 30), some none, some none]))])) dX0_init_39 ka_int (Or.inl ⟨rfl, rfl, rfl⟩) rfl (Nat.le_of_ble_eq_true rfl) (by decide +kernel) (by decide +kernel) (by decide +kernel) (by decide +kernel) (by decide +kernel) (by decide +kernel) ?_
  refine ai_dup (pc := 41) dX0_init_41 ?_
  refine ai_const (pc := 42) dX0_init_42 ?_
  refine ai_const (pc := 43) dX0_init_43 ?_
  refine ai_iastore (pc := 44) (n := 3) dX0_init_44 (by decide +kernel) (by decide) (by decide) (by decide) ?_
  refine ai_dup (pc := 45) dX0_init_45 ?_
  refine ai_const (pc := 46) dX0_init_46 ?_
  refine ai_const (pc := 47) dX0_init_47 ?_
  refine ai_iastore (pc := 48) (n := 3) dX0_init_48 (by decide +kernel) (by decide) (by decide) (by decide) ?_
  refine ai_dup (pc := 49) dX0_init_49 ?_
  refine ai_const (pc := 50) dX0_init_50 ?_
  refine ai_bipush (pc := 51) dX0_init_51 bp_120 ?_
  refine ai_iastore (pc := 53) (n := 3) dX0_init_53 (by decide +kernel) (by decide) (by decide) (by decide) ?_
  refine ai_putR (pc := 54) (fs := [some (some 20), some (some 24), some (some 30), some none, some none]) (sh' := (pt 34 [(0, .inl (8, [some (some 1), some none, some none, some none, some none, some none, none])), (17, .inl (2, [some none, none, none])), (18, .inr (.inr [none, none, none, none])), (19, .inl (0, [some (some 20), some (some 24), some (some 30), some (some 33), some none]))])) dX0_init_54 rfl ff_RX0_32 (by decide +kernel) (by decide +kernel) (by decide +kernel) ?_
  refine ai_ald_0 (pc := 57) dX0_init_57 ?_
  refine ai_bipush (pc := 58) dX0_init_58 bp_9 ?_
  refine ai_newarr (pc := 60) (N := 9) 34 (sh' := (pt 35 [(0, .inl (8, [some (some 1), some none, some none, some none, some none, some none, none])), (17, .inl (2, [some none, none, none])), (18, .inr (.inr [none, none, none, none])), (19, .inl (0, [some (some 20), some (some 24), some (some 30), some (some 33), some none]))])) dX0_init_60 ka_int (Or.inl ⟨rfl, rfl, rfl⟩) rfl (Nat.le_of_ble_eq_true rfl) (by decide +kernel) (by decide +kernel) (by decide +kernel) (by decide +kernel) (by decide +kernel) (by decide +kernel) ?_
  refine ai_putR (pc := 62) (fs := [some (some 20), some (some 24), some (some 30), some (some 33), some none]) (sh' := (pt 35 [(0, .inl (8, [some (some 1), some none, some none, some none, some none, some none, none])), (17, .inl (2, [some none, none, none])), (18, .inr (.inr [none, none, none, none]))])) dX0_init_62 rfl ff_RX0_36 (by decide +kernel) (by decide +kernel) (by decide +kernel) ?_
  refine ai_return (pc := 65) dX0_init_65 rfl (by decide +kernel) (by decide +kernel) (by decide +kernel) ?_
  exact ⟨fun k j hk => by (try simp (disch := omega) only [am_k, am_j, am_same, am_n0, am_nk]); (try rw [c3.1 _ _ (by omega)]); (try simp (disch := omega) only [am_k, am_j, am_same, am_n0, am_nk]); (try rw [c2.1 _ _ (by omega)]); (try simp (disch := omega) only [am_k, am_j, am_same, am_n0, am_nk]); (try rw [c1.1 _ _ (by omega)]); (try simp (disch := omega) only [am_k, am_j, am_same, am_n0, am_nk]), fun k j h => by
    rcases h with h | h | h | h
    · (try simp (disch := omega) only [am_k, am_j, am_same, am_n0, am_nk]); (try rw [c3.1 _ _ (by omega)]); (try simp (disch := omega) only [am_k, am_j, am_same, am_n0, am_nk]); (try rw [c2.1 _ _ (by omega)]); (try simp (disch := omega) only [am_k, am_j, am_same, am_n0, am_nk]); exact c1.2.1 k j (by omega) (by omega)
    · (try simp (disch := omega) only [am_k, am_j, am_same, am_n0, am_nk]); (try rw [c3.1 _ _ (by omega)]); (try simp (disch := omega) only [am_k, am_j, am_same, am_n0, am_nk]); exact c2.2 k j (by omega) (by omega)
    · (try simp (disch := omega) only [am_k, am_j, am_same, am_n0, am_nk]); exact c3.2 k j (by omega) (by omega)
    · subst h; simp (disch := omega) only [am_k, am_j, am_same, am_n0, am_nk], by (try simp (disch := omega) only [am_k, am_j, am_same, am_n0, am_nk]); (try rw [c3.1 _ _ (by omega)]); (try simp (disch := omega) only [am_k, am_j, am_same, am_n0, am_nk]); (try rw [c2.1 _ _ (by omega)]); (try simp (disch := omega) only [am_k, am_j, am_same, am_n0, am_nk]); exact c1.2.2, by simp (disch := omega) only [am_k, am_j, am_same, am_n0, am_nk], by simp (disch := omega) only [am_k, am_j, am_same, am_n0, am_nk], by simp (disch := omega) only [am_k, am_j, am_same, am_n0, am_nk]⟩

set_option maxHeartbeats 4000000 in
theorem iX3_init_36 (m : AM) : CI 1 mX3_init 3 36 [.inr 36] (pt 37 [(0, .inl (8, [some (some 1), some none, some none, some none, some none, some none, none])), (17, .inl (2, [some none, none, none])), (18, .inr (.inr [some 19, none, none, none])), (35, .inl (0, [some none, some none, some none, some none, some none])), (36, .inl (3, [some none, some none, some none, none]))]) m (pt 40 [(0, .inl (8, [some (some 1), some none, some none, some none, some none, some none, none])), (17, .inl (2, [some none, none, none])), (18, .inr (.inr [some 19, none, none, none])), (35, .inl (0, [some none, some none, some none, some none, some none]))]) (fun m' => (∀ (k : Nat) (j : Int), k < 36 → m' k j = m k j) ∧ (∀ (k : Nat) (j : Int), 36 < k → k ≤ 39 → m' k j = 0) ∧ m' 36 3 = 0) := by
  refine ci_of (nc := 40) (ns := 387) (by decide +kernel) (Nat.le_of_ble_eq_true rfl) (by decide +kernel) (by decide +kernel) rfl ?_
  refine ai_ald_0 (pc := 0) dX3_init_0 ?_
  refine ai_objInit (pc := 1) dX3_init_1 ol_RX3_3 (by decide) (by decide) ?_
  refine ai_ald_0 (pc := 4) dX3_init_4 ?_
  refine ai_bipush (pc := 5) dX3_init_5 bp_12 ?_
  refine ai_newarr (pc := 7) (N := 12) 37 (sh' := (pt 38 [(0, .inl (8, [some (some 1), some none, some none, some none, some none, some none, none])), (17, .inl (2, [some none, none, none])), (18, .inr (.inr [some 19, none, none, none])), (35, .inl (0, [some none, some none, some none, some none, some none])), (36, .inl (3, [some none, some none, some none, none]))])) dX3_init_7 ka_int (Or.inl ⟨rfl, rfl, rfl⟩) rfl (Nat.le_of_ble_eq_true rfl) (by decide +kernel) (by decide +kernel) (by decide +kernel) (by decide +kernel) (by decide +kernel) (by decide +kernel) ?_
  refine ai_putR (pc := 9) (fs := [some none, some none, some none, none]) (sh' := (pt 38 [(0, .inl (8, [some (some 1), some none, some none, some none, some none, some none, none])), (17, .inl (2, [some none, none, none])), (18, .inr (.inr [some 19, none, none, none])), (35, .inl (0, [some none, some none, some none, some none, some none])), (36, .inl (3, [some (some 37), some none, some none, none]))])) dX3_init_9 rfl ff_RX3_9 (by decide +kernel) (by decide +kernel) (by decide +kernel) ?_
  refine ai_ald_0 (pc := 12) dX3_init_12 ?_
  refine ai_bipush (pc := 13) dX3_init_13 bp_12 ?_
  refine ai_newarr (pc := 15) (N := 12) 38 (sh' := (pt 39 [(0, .inl (8, [some (some 1), some none, some none, some none, some none, some none, none])), (17, .inl (2, [some none, none, none])), (18, .inr (.inr [some 19, none, none, none])), (35, .inl (0, [some none, some none, some none, some none, some none])), (36, .inl (3, [some (some 37), some none, some none, none]))])) dX3_init_15 ka_int (Or.inl ⟨rfl, rfl, rfl⟩) rfl (Nat.le_of_ble_eq_true rfl) (by decide +kernel) (by decide +kernel) (by decide +kernel) (by decide +kernel) (by decide +kernel) (by decide +kernel) ?_
  refine ai_putR (pc := 17) (fs := [some (some 37), some none, some none, none]) (sh' := (pt 39 [(0, .inl (8, [some (some 1), some none, some none, some none, some none, some none, none])), (17, .inl (2, [some none, none, none])), (18, .inr (.inr [some 19, none, none, none])), (35, .inl (0, [some none, some none, some none, some none, some none])), (36, .inl (3, [some (some 37), some (some 38), some none, none]))])) dX3_init_17 rfl ff_RX3_15 (by decide +kernel) (by decide +kernel) (by decide +kernel) ?_
  refine ai_ald_0 (pc := 20) dX3_init_20 ?_
  refine ai_bipush (pc := 21) dX3_init_21 bp_12 ?_
  refine ai_newarr (pc := 23) (N := 12) 39 (sh' := (pt 40 [(0, .inl (8, [some (some 1), some none, some none, some none, some none, some none, none])), (17, .inl (2, [some none, none, none])), (18, .inr (.inr [some 19, none, none, none])), (35, .inl (0, [some none, some none, some none, some none, some none])), (36, .inl (3, [some (some 37), some (some 38), some none, none]))])) dX3_init_23 ka_int (Or.inl ⟨rfl, rfl, rfl⟩) rfl (Nat.le_of_ble_eq_true rfl) (by decide +kernel) (by decide +kernel) (by decide +kernel) (by decide +kernel) (by decide +kernel) (by decide +kernel) ?_
  refine ai_putR (pc := 25) (fs := [some (some 37), some (some 38), some none, none]) (sh' := (pt 40 [(0, .inl (8, [some (some 1), some none, some none, some none, some none, some none, none])), (17, .inl (2, [some none, none, none])), (18, .inr (.inr [some 19, none, none, none])), (35, .inl (0, [some none, some none, some none, some none, some none]))])) dX3_init_25 rfl ff_RX3_18 (by decide +kernel) (by decide +kernel) (by decide +kernel) ?_
  refine ai_ald_0 (pc := 28) dX3_init_28 ?_
  refine ai_const (pc := 29) dX3_init_29 ?_
  refine ai_putI (pc := 30) (fs := [some (some 37), some (some 38), some (some 39), none]) (jz := 3) dX3_init_30 fn_RX3_21 (by decide +kernel) (by decide +kernel) rfl (fun z => by cases z) ?_
  refine ai_return (pc := 33) dX3_init_33 rfl (by decide +kernel) (by decide +kernel) (by decide +kernel) ?_
  refine ⟨fun k j hk => by (try simp (disch := omega) only [am_k, am_j, am_same, am_n0, am_nk]), fun k j h1 h2 => by
    rcases (by omega : k = 37 ∨ k = 38 ∨ k = 39) with rfl | rfl | rfl <;> simp (disch := omega) only [am_k, am_j, am_same, am_n0, am_nk], by simp (disch := omega) only [am_k, am_j, am_same, am_n0, am_nk]⟩

set_option maxHeartbeats 4000000 in
theorem iX5_init_40 (m : AM) : CI 1 mX5_init 5 76 [.inr 40] (pt 41 [(0, .inl (8, [some (some 1), some none, some none, some none, some none, some none, none])), (17, .inl (2, [some none, none, none])), (18, .inr (.inr [some 19, none, none, none])), (35, .inl (0, [some (some 36), some none, some none, some none, some none])), (40, .inl (5, [some none, some none, some none, some none, some none]))]) m (pt 46 [(0, .inl (8, [some (some 1), some none, some none, some none, some none, some none, none])), (17, .inl (2, [some none, none, none])), (18, .inr (.inr [some 19, none, none, none])), (35, .inl (0, [some (some 36), some none, some none, some none, some none]))]) (fun m' => (∀ (k : Nat) (j : Int), k < 40 → m' k j = m k j) ∧ (∀ (k : Nat) (j : Int), 40 < k → k ≤ 45 → m' k j = 0)) := by
  refine ci_of (nc := 46) (ns := 468) (by decide +kernel) (Nat.le_of_ble_eq_true rfl) (by decide +kernel) (by decide +kernel) rfl ?_
  refine ai_ald_0 (pc := 0) dX5_init_0 ?_
  refine ai_objInit (pc := 1) dX5_init_1 ol_RX5_3 (by decide) (by decide) ?_
  refine ai_ald_0 (pc := 4) dX5_init_4 ?_
  refine ai_bipush (pc := 5) dX5_init_5 bp_7 ?_
  refine ai_newarr (pc := 7) (N := 7) 41 (sh' := (pt 42 [(0, .inl (8, [some (some 1), some none, some none, some none, some none, some none, none])), (17, .inl (2, [some none, none, none])), (18, .inr (.inr [some 19, none, none, none])), (35, .inl (0, [some (some 36), some none, some none, some none, some none])), (40, .inl (5, [some none, some none, some none, some none, some none]))])) dX5_init_7 ka_int (Or.inl ⟨rfl, rfl, rfl⟩) rfl (Nat.le_of_ble_eq_true rfl) (by decide +kernel) (by decide +kernel) (by decide +kernel) (by decide +kernel) (by decide +kernel) (by decide +kernel) ?_
  refine ai_putR (pc := 9) (fs := [some none, some none, some none, some none, some none]) (sh' := (pt 42 [(0, .inl (8, [some (some 1), some none, some none, some none, some none, some none, none])), (17, .inl (2, [some none, none, none])), (18, .inr (.inr [some 19, none, none, none])), (35, .inl (0, [some (some 36), some none, some none, some none, some none])), (40, .inl (5, [some (some 41), some none, some none, some none, some none]))])) dX5_init_9 rfl ff_RX5_9 (by decide +kernel) (by decide +kernel) (by decide +kernel) ?_
  refine ai_ald_0 (pc := 12) dX5_init_12 ?_
  refine ai_bipush (pc := 13) dX5_init_13 bp_21 ?_
  refine ai_newarr (pc := 15) (N := 21) 42 (sh' := (pt 43 [(0, .inl (8, [some (some 1), some none, some none, some none, some none, some none, none])), (17, .inl (2, [some none, none, none])), (18, .inr (.inr [some 19, none, none, none])), (35, .inl (0, [some (some 36), some none, some none, some none, some none])), (40, .inl (5, [some (some 41), some none, some none, some none, some none]))])) dX5_init_15 ka_int (Or.inl ⟨rfl, rfl, rfl⟩) rfl (Nat.le_of_ble_eq_true rfl) (by decide +kernel) (by decide +kernel) (by decide +kernel) (by decide +kernel) (by decide +kernel) (by decide +kernel) ?_
  refine ai_putR (pc := 17) (fs := [some (some 41), some none, some none, some none, some none]) (sh' := (pt 43 [(0, .inl (8, [some (some 1), some none, some none, some none, some none, some none, none])), (17, .inl (2, [some none, none, none])), (18, .inr (.inr [some 19, none, none, none])), (35, .inl (0, [some (some 36), some none, some none, some none, some none])), (40, .inl (5, [some (some 41), some (some 42), some none, some none, some none]))])) dX5_init_17 rfl ff_RX5_15 (by decide +kernel) (by decide +kernel) (by decide +kernel) ?_
  refine ai_ald_0 (pc := 20) dX5_init_20 ?_
  refine ai_bipush (pc := 21) dX5_init_21 bp_21 ?_
  refine ai_newarr (pc := 23) (N := 21) 43 (sh' := (pt 44 [(0, .inl (8, [some (some 1), some none, some none, some none, some none, some none, none])), (17, .inl (2, [some none, none, none])), (18, .inr (.inr [some 19, none, none, none])), (35, .inl (0, [some (some 36), some none, some none, some none, some none])), (40, .inl (5, [some (some 41), some (some 42), some none, some none, some none]))])) dX5_init_23 ka_int (Or.inl ⟨rfl, rfl, rfl⟩) rfl (Nat.le_of_ble_eq_true rfl) (by decide +kernel) (by decide +kernel) (by decide +kernel) (by decide +kernel) (by decide +kernel) (by decide +kernel) ?_
  refine ai_putR (pc := 25) (fs := [some (some 41), some (some 42), some none, some none, some none]) (sh' := (pt 44 [(0, .inl (8, [some (some 1), some none, some none, some none, some none, some none, none])), (17, .inl (2, [some none, none, none])), (18, .inr (.inr [some 19, none, none, none])), (35, .inl (0, [some (some 36), some none, some none, some none, some none])), (40, .inl (5, [some (some 41), some (some 42), some (some 43), some none, some none]))])) dX5_init_25 rfl ff_RX5_18 (by decide +kernel) (by decide +kernel) (by decide +kernel) ?_
  refine ai_ald_0 (pc := 28) dX5_init_28 ?_
  refine ai_bipush (pc := 29) dX5_init_29 bp_21 ?_
  refine ai_newarr (pc := 31) (N := 21) 44 (sh' := (pt 45 [(0, .inl (8, [some (some 1), some none, some none, some none, some none, some none, none])), (17, .inl (2, [some none, none, none])), (18, .inr (.inr [some 19, none, none, none])), (35, .inl (0, [some (some 36), some none, some none, some none, some none])), (40, .inl (5, [some (some 41), some (some 42), some (some 43), some none, some none]))])) dX5_init_31 ka_int (Or.inl ⟨rfl, rfl, rfl⟩) rfl (Nat.le_of_ble_eq_true rfl) (by decide +kernel) (by decide +kernel) (by decide +kernel) (by decide +kernel) (by decide +kernel) (by decide +kernel) ?_
  refine ai_putR (pc := 33) (fs := [some (some 41), some (some 42), some (some 43), some none, some none]) (sh' := (pt 45 [(0, .inl (8, [some (some 1), some none, some none, some none, some none, some none, none])), (17, .inl (2, [some none, none, none])), (18, .inr (.inr [some 19, none, none, none])), (35, .inl (0, [some (some 36), some none, some none, some none, some none])), (40, .inl (5, [some (some 41), some (some 42), some (some 43), some (some 44), some none]))])) dX5_init_33 rfl ff_RX5_21 (by decide +kernel) (by decide +kernel) (by decide +kernel) ?_
  refine ai_ald_0 (pc := 36) dX5_init_36 ?_
  refine ai_bipush (pc := 37) dX5_init_37 bp_6 ?_
  refine ai_newarr (pc := 39) (N := 6) 45 (sh' := (pt 46 [(0, .inl (8, [some (some 1), some none, some none, some none, some none, some none, none])), (17, .inl (2, [some none, none, none])), (18, .inr (.inr [some 19, none, none, none])), (35, .inl (0, [some (some 36), some none, some none, some none, some none])), (40, .inl (5, [some (some 41), some (some 42), some (some 43), some (some 44), some none]))])) dX5_init_39 ka_int (Or.inl ⟨rfl, rfl, rfl⟩) rfl (Nat.le_of_ble_eq_true rfl) (by decide +kernel) (by decide +kernel) (by decide +kernel) (by decide +kernel) (by decide +kernel) (by decide +kernel) ?_
  refine ai_putR (pc := 41) (fs := [some (some 41), some (some 42), some (some 43), some (some 44), some none]) (sh' := (pt 46 [(0, .inl (8, [some (some 1), some none, some none, some none, some none, some none, none])), (17, .inl (2, [some none, none, none])), (18, .inr (.inr [some 19, none, none, none])), (35, .inl (0, [some (some 36), some none, some none, some none, some none]))])) dX5_init_41 rfl ff_RX5_24 (by decide +kernel) (by decide +kernel) (by decide +kernel) ?_
  refine ai_return (pc := 44) dX5_init_44 rfl (by decide +kernel) (by decide +kernel) (by decide +kernel) ?_
  refine ⟨fun k j hk => by (try simp (disch := omega) only [am_k, am_j, am_same, am_n0, am_nk]), fun k j h1 h2 => by
    rcases (by omega : k = 41 ∨ k = 42 ∨ k = 43 ∨ k = 44 ∨ k = 45) with rfl | rfl | rfl | rfl | rfl <;> simp (disch := omega) only [am_k, am_j, am_same, am_n0, am_nk]⟩

set_option maxHeartbeats 4000000 in
theorem iX7_init_46 (m : AM) : CI 1 mX7_init 2 24 [.inr 46] (pt 47 [(0, .inl (8, [some (some 1), some none, some none, some none, some none, some none, none])), (17, .inl (2, [some none, none, none])), (18, .inr (.inr [some 19, none, none, none])), (35, .inl (0, [some (some 36), some (some 40), some none, some none, some none])), (46, .inl (7, [some none, some none]))]) m (pt 49 [(0, .inl (8, [some (some 1), some none, some none, some none, some none, some none, none])), (17, .inl (2, [some none, none, none])), (18, .inr (.inr [some 19, none, none, none])), (35, .inl (0, [some (some 36), some (some 40), some none, some none, some none]))]) (fun m' => (∀ (k : Nat) (j : Int), k < 46 → m' k j = m k j) ∧ (∀ (k : Nat) (j : Int), 46 < k → k ≤ 48 → m' k j = 0)) := by
  refine ci_of (nc := 49) (ns := 494) (by decide +kernel) (Nat.le_of_ble_eq_true rfl) (by decide +kernel) (by decide +kernel) rfl ?_
  refine ai_ald_0 (pc := 0) dX7_init_0 ?_
  refine ai_objInit (pc := 1) dX7_init_1 ol_RX7_3 (by decide) (by decide) ?_
  refine ai_ald_0 (pc := 4) dX7_init_4 ?_
  refine ai_bipush (pc := 5) dX7_init_5 bp_6 ?_
  refine ai_newarr (pc := 7) (N := 6) 47 (sh' := (pt 48 [(0, .inl (8, [some (some 1), some none, some none, some none, some none, some none, none])), (17, .inl (2, [some none, none, none])), (18, .inr (.inr [some 19, none, none, none])), (35, .inl (0, [some (some 36), some (some 40), some none, some none, some none])), (46, .inl (7, [some none, some none]))])) dX7_init_7 ka_int (Or.inl ⟨rfl, rfl, rfl⟩) rfl (Nat.le_of_ble_eq_true rfl) (by decide +kernel) (by decide +kernel) (by decide +kernel) (by decide +kernel) (by decide +kernel) (by decide +kernel) ?_
  refine ai_putR (pc := 9) (fs := [some none, some none]) (sh' := (pt 48 [(0, .inl (8, [some (some 1), some none, some none, some none, some none, some none, none])), (17, .inl (2, [some none, none, none])), (18, .inr (.inr [some 19, none, none, none])), (35, .inl (0, [some (some 36), some (some 40), some none, some none, some none])), (46, .inl (7, [some (some 47), some none]))])) dX7_init_9 rfl ff_RX7_9 (by decide +kernel) (by decide +kernel) (by decide +kernel) ?_
  refine ai_ald_0 (pc := 12) dX7_init_12 ?_
  refine ai_bipush (pc := 13) dX7_init_13 bp_18 ?_
  refine ai_newarr (pc := 15) (N := 18) 48 (sh' := (pt 49 [(0, .inl (8, [some (some 1), some none, some none, some none, some none, some none, none])), (17, .inl (2, [some none, none, none])), (18, .inr (.inr [some 19, none, none, none])), (35, .inl (0, [some (some 36), some (some 40), some none, some none, some none])), (46, .inl (7, [some (some 47), some none]))])) dX7_init_15 ka_int (Or.inl ⟨rfl, rfl, rfl⟩) rfl (Nat.le_of_ble_eq_true rfl) (by decide +kernel) (by decide +kernel) (by decide +kernel) (by decide +kernel) (by decide +kernel) (by decide +kernel) ?_
  refine ai_putR (pc := 17) (fs := [some (some 47), some none]) (sh' := (pt 49 [(0, .inl (8, [some (some 1), some none, some none, some none, some none, some none, none])), (17, .inl (2, [some none, none, none])), (18, .inr (.inr [some 19, none, none, none])), (35, .inl (0, [some (some 36), some (some 40), some none, some none, some none]))])) dX7_init_17 rfl ff_RX7_15 (by decide +kernel) (by decide +kernel) (by decide +kernel) ?_
  refine ai_return (pc := 20) dX7_init_20 rfl (by decide +kernel) (by decide +kernel) (by decide +kernel) ?_
  refine ⟨fun k j hk => by (try simp (disch := omega) only [am_k, am_j, am_same, am_n0, am_nk]), fun k j h1 h2 => by
    rcases (by omega : k = 47 ∨ k = 48) with rfl | rfl <;> simp (disch := omega) only [am_k, am_j, am_same, am_n0, am_nk]⟩

set_option maxHeartbeats 4000000 in
theorem iX0_init_35 (m : AM) : CI 2 mX0_init 15 159 [.inr 35] (pt 36 [(0, .inl (8, [some (some 1), some none, some none, some none, some none, some none, none])), (17, .inl (2, [some none, none, none])), (18, .inr (.inr [some 19, none, none, none])), (35, .inl (0, [some none, some none, some none, some none, some none]))]) m (pt 51 [(0, .inl (8, [some (some 1), some none, some none, some none, some none, some none, none])), (17, .inl (2, [some none, none, none])), (18, .inr (.inr [some 19, none, none, none]))]) (fun m' => (∀ (k : Nat) (j : Int), k < 35 → m' k j = m k j) ∧ (∀ (k : Nat) (j : Int), (37 ≤ k ∧ k ≤ 39) ∨ (41 ≤ k ∧ k ≤ 45) ∨ (47 ≤ k ∧ k ≤ 48) ∨ k = 50 → m' k j = 0) ∧ m' 36 3 = 0 ∧ m' 49 0 = 3 ∧ m' 49 1 = 2 ∧ m' 49 2 = 120) := by
  refine ci_of (nc := 51) (ns := 506) (by decide +kernel) (Nat.le_of_ble_eq_true rfl) (by decide +kernel) (by decide +kernel) rfl ?_
  refine ai_ald_0 (pc := 0) dX0_init_0 ?_
  refine ai_objInit (pc := 1) dX0_init_1 ol_RX0_3 (by decide) (by decide) ?_
  refine ai_ald_0 (pc := 4) dX0_init_4 ?_
  refine ai_new (pc := 5) (fs := [some none, some none, some none, none]) 36 (sh' := (pt 37 [(0, .inl (8, [some (some 1), some none, some none, some none, some none, some none, none])), (17, .inl (2, [some none, none, none])), (18, .inr (.inr [some 19, none, none, none])), (35, .inl (0, [some none, some none, some none, some none, some none])), (36, .inl (3, [some none, some none, some none, none]))])) dX0_init_5 kX3 kl_RX0_9 ki_RX3 kn_RX3 rfl (fun j hj => by rcases (by omega : j = 0 ∨ j = 1 ∨ j = 2 ∨ j = 3) with rfl | rfl | rfl | rfl <;> rfl) (by simp) (by decide +kernel) (by decide +kernel) (by decide +kernel) (by decide +kernel) (by decide +kernel) (by decide +kernel) ?_
  refine ai_dup (pc := 8) dX0_init_8 ?_
  refine ai_invI (pc := 9) dX0_init_9 mi_RX0_11 (iX3_init_36 _) (by decide) (by decide) (by decide) (by decide +kernel) (by decide +kernel) (by decide +kernel) (by decide +kernel) (fun m1 c1 => ?_)
  refine ai_putR (pc := 12) (fs := [some none, some none, some none, some none, some none]) (sh' := (pt 40 [(0, .inl (8, [some (some 1), some none, some none, some none, some none, some none, none])), (17, .inl (2, [some none, none, none])), (18, .inr (.inr [some 19, none, none, none])), (35, .inl (0, [some (some 36), some none, some none, some none, some none]))])) dX0_init_12 rfl ff_RX0_12 (by decide +kernel) (by decide +kernel) (by decide +kernel) ?_
  refine ai_ald_0 (pc := 15) dX0_init_15 ?_
  refine ai_new (pc := 16) (fs := [some none, some none, some none, some none, some none]) 40 (sh' := (pt 41 [(0, .inl (8, [some (some 1), some none, some none, some none, some none, some none, none])), (17, .inl (2, [some none, none, none])), (18, .inr (.inr [some 19, none, none, none])), (35, .inl (0, [some (some 36), some none, some none, some none, some none])), (40, .inl (5, [some none, some none, some none, some none, some none]))])) dX0_init_16 kX5 kl_RX0_18 ki_RX5 kn_RX5 rfl (fun j hj => by rcases (by omega : j = 0 ∨ j = 1 ∨ j = 2 ∨ j = 3 ∨ j = 4) with rfl | rfl | rfl | rfl | rfl <;> rfl) (by simp) (by decide +kernel) (by decide +kernel) (by decide +kernel) (by decide +kernel) (by decide +kernel) (by decide +kernel) ?_
  refine ai_dup (pc := 19) dX0_init_19 ?_
  refine ai_invI (pc := 20) dX0_init_20 mi_RX0_20 (iX5_init_40 _) (by decide) (by decide) (by decide) (by decide +kernel) (by decide +kernel) (by decide +kernel) (by decide +kernel) (fun m2 c2 => ?_)
  refine ai_putR (pc := 23) (fs := [some (some 36), some none, some none, some none, some none]) (sh' := (pt 46 [(0, .inl (8, [some (some 1), some none, some none, some none, some none, some none, none])), (17, .inl (2, [some none, none, none])), (18, .inr (.inr [some 19, none, none, none])), (35, .inl (0, [some (some 36), some (some 40), some none, some none, some none]))])) dX0_init_23 rfl ff_RX0_21 (by decide +kernel) (by decide +kernel) (by decide +kernel) ?_
  refine ai_ald_0 (pc := 26) dX0_init_26 ?_
  refine ai_new (pc := 27) (fs := [some none, some none]) 46 (sh' := (pt 47 [(0, .inl (8, [some (some 1), some none, some none, some none, some none, some none, none])), (17, .inl (2, [some none, none, none])), (18, .inr (.inr [some 19, none, none, none])), (35, .inl (0, [some (some 36), some (some 40), some none, some none, some none])), (46, .inl (7, [some none, some none]))])) dX0_init_27 kX7 kl_RX0_25 ki_RX7 kn_RX7 rfl (fun j hj => by rcases (by omega : j = 0 ∨ j = 1) with rfl | rfl <;> rfl) (by simp) (by decide +kernel) (by decide +kernel) (by decide +kernel) (by decide +kernel) (by decide +kernel) (by decide +kernel) ?_
  refine ai_dup (pc := 30) dX0_init_30 ?_
  refine ai_invI (pc := 31) dX0_init_31 mi_RX0_27 (iX7_init_46 _) (by decide) (by decide) (by decide) (by decide +kernel) (by decide +kernel) (by decide +kernel) (by decide +kernel) (fun m3 c3 => ?_)
  refine ai_putR (pc := 34) (fs := [some (some 36), some (some 40), some none, some none, some none]) (sh' := (pt 49 [(0, .inl (8, [some (some 1), some none, some none, some none, some none, some none, none])), (17, .inl (2, [some none, none, none])), (18, .inr (.inr [some 19, none, none, none])), (35, .inl (0, [some (some 36), some (some 40), some (some 46), some none, some none]))])) dX0_init_34 rfl ff_RX0_28 (by decide +kernel) (by decide +kernel) (by decide +kernel) ?_
  refine ai_ald_0 (pc := 37) dX0_init_37 ?_
  refine ai_const (pc := 38) dX0_init_38 ?_
  refine ai_newarr (pc := 39) (N := 3) 49 (sh' := (pt 50 [(0, .inl (8, [some (some 1), some none, some none, some none, some none, some none, none])), (17, .inl (2, [some none, none, none])), (18, .inr (.inr [some 19, none, none, none])), (35, .inl (0, [some (some 36), some (some 40), some (some 46), some none, some none]))])) dX0_init_39 ka_int (Or.inl ⟨rfl, rfl, rfl⟩) rfl (Nat.le_of_ble_eq_true rfl) (by decide +kernel) (by decide +kernel) (by decide +kernel) (by decide +kernel) (by decide +kernel) (by decide +kernel) ?_
  refine ai_dup (pc := 41) dX0_init_41 ?_
  refine ai_const (pc := 42) dX0_init_42 ?_
  refine ai_const (pc := 43) dX0_init_43 ?_
  refine ai_iastore (pc := 44) (n := 3) dX0_init_44 (by decide +kernel) (by decide) (by decide) (by decide) ?_
  refine ai_dup (pc := 45) dX0_init_45 ?_
  refine ai_const (pc := 46) dX0_init_46 ?_
  refine ai_const (pc := 47) dX0_init_47 ?_
  refine ai_iastore (pc := 48) (n := 3) dX0_init_48 (by decide +kernel) (by decide) (by decide) (by decide) ?_
  refine ai_dup (pc := 49) dX0_init_49 ?_
  refine ai_const (pc := 50) dX0_init_50 ?_
  refine ai_bipush (pc := 51) dX0_init_51 bp_120 ?_
  refine ai_iastore (pc := 53) (n := 3) dX0_init_53 (by decide +kernel) (by decide) (by decide) (by decide) ?_
  refine ai_putR (pc := 54) (fs := [some (some 36), some (some 40), some (some 46), some none, some none]) (sh' := (pt 50 [(0, .inl (8, [some (some 1), some none, some none, some none, some none, some none, none])), (17, .inl (2, [some none, none, none])), (18, .inr (.inr [some 19, none, none, none])), (35, .inl (0, [some (some 36), some (some 40), some (some 46), some (some 49), some none]))])) dX0_init_54 rfl ff_RX0_32 (by decide +kernel) (by decide +kernel) (by decide +kernel) ?_
  refine ai_ald_0 (pc := 57) dX0_init_57 ?_
  refine ai_bipush (pc := 58) dX0_init_58 bp_9 ?_
  refine ai_newarr (pc := 60) (N := 9) 50 (sh' := (pt 51 [(0, .inl (8, [some (some 1), some none, some none, some none, some none, some none, none])), (17, .inl (2, [some none, none, none])), (18, .inr (.inr [some 19, none, none, none])), (35, .inl (0, [some (some 36), some (some 40), some (some 46), some (some 49), some none]))])) dX0_init_60 ka_int (Or.inl ⟨rfl, rfl, rfl⟩) rfl (Nat.le_of_ble_eq_true rfl) (by decide +kernel) (by decide +kernel) (by decide +kernel) (by decide +kernel) (by decide +kernel) (by decide +kernel) ?_
  refine ai_putR (pc := 62) (fs := [some (some 36), some (some 40), some (some 46), some (some 49), some none]) (sh' := (pt 51 [(0, .inl (8, [some (some 1), some none, some none, some none, some none, some none, none])), (17, .inl (2, [some none, none, none])), (18, .inr (.inr [some 19, none, none, none]))])) dX0_init_62 rfl ff_RX0_36 (by decide +kernel) (by decide +kernel) (by decide +kernel) ?_
  refine ai_return (pc := 65) dX0_init_65 rfl (by decide +kernel) (by decide +kernel) (by decide +kernel) ?_
  exact ⟨fun k j hk => by (try simp (disch := omega) only [am_k, am_j, am_same, am_n0, am_nk]); (try rw [c3.1 _ _ (by omega)]); (try simp (disch := omega) only [am_k, am_j, am_same, am_n0, am_nk]); (try rw [c2.1 _ _ (by omega)]); (try simp (disch := omega) only [am_k, am_j, am_same, am_n0, am_nk]); (try rw [c1.1 _ _ (by omega)]); (try simp (disch := omega) only [am_k, am_j, am_same, am_n0, am_nk]), fun k j h => by
    rcases h with h | h | h | h
    · (try simp (disch := omega) only [am_k, am_j, am_same, am_n0, am_nk]); (try rw [c3.1 _ _ (by omega)]); (try simp (disch := omega) only [am_k, am_j, am_same, am_n0, am_nk]); (try rw [c2.1 _ _ (by omega)]); (try simp (disch := omega) only [am_k, am_j, am_same, am_n0, am_nk]); exact c1.2.1 k j (by omega) (by omega)
    · (try simp (disch := omega) only [am_k, am_j, am_same, am_n0, am_nk]); (try rw [c3.1 _ _ (by omega)]); (try simp (disch := omega) only [am_k, am_j, am_same, am_n0, am_nk]); exact c2.2 k j (by omega) (by omega)
    · (try simp (disch := omega) only [am_k, am_j, am_same, am_n0, am_nk]); exact c3.2 k j (by omega) (by omega)
    · subst h; simp (disch := omega) only [am_k, am_j, am_same, am_n0, am_nk], by (try simp (disch := omega) only [am_k, am_j, am_same, am_n0, am_nk]); (try rw [c3.1 _ _ (by omega)]); (try simp (disch := omega) only [am_k, am_j, am_same, am_n0, am_nk]); (try rw [c2.1 _ _ (by omega)]); (try simp (disch := omega) only [am_k, am_j, am_same, am_n0, am_nk]); exact c1.2.2, by simp (disch := omega) only [am_k, am_j, am_same, am_n0, am_nk], by simp (disch := omega) only [am_k, am_j, am_same, am_n0, am_nk], by simp (disch := omega) only [am_k, am_j, am_same, am_n0, am_nk]⟩

set_option maxHeartbeats 4000000 in
theorem iX3_init_52 (m : AM) : CI 1 mX3_init 3 36 [.inr 52] (pt 53 [(0, .inl (8, [some (some 1), some none, some none, some none, some none, some none, none])), (17, .inl (2, [some none, none, none])), (18, .inr (.inr [some 19, some 35, none, none])), (51, .inl (0, [some none, some none, some none, some none, some none])), (52, .inl (3, [some none, some none, some none, none]))]) m (pt 56 [(0, .inl (8, [some (some 1), some none, some none, some none, some none, some none, none])), (17, .inl (2, [some none, none, none])), (18, .inr (.inr [some 19, some 35, none, none])), (51, .inl (0, [some none, some none, some none, some none, some none]))]) (fun m' => (∀ (k : Nat) (j : Int), k < 52 → m' k j = m k j) ∧ (∀ (k : Nat) (j : Int), 52 < k → k ≤ 55 → m' k j = 0) ∧ m' 52 3 = 0) := by
  refine ci_of (nc := 56) (ns := 551) (by decide +kernel) (Nat.le_of_ble_eq_true rfl) (by decide +kernel) (by decide +kernel) rfl ?_
  refine ai_ald_0 (pc := 0) dX3_init_0 ?_
  refine ai_objInit (pc := 1) dX3_init_1 ol_RX3_3 (by decide) (by decide) ?_
  refine ai_ald_0 (pc := 4) dX3_init_4 ?_
  refine ai_bipush (pc := 5) dX3_init_5 bp_12 ?_
  refine ai_newarr (pc := 7) (N := 12) 53 (sh' := (pt 54 [(0, .inl (8, [some (some 1), some none, some none, some none, some none, some none, none])), (17, .inl (2, [some none, none, none])), (18, .inr (.inr [some 19, some 35, none, none])), (51, .inl (0, [some none, some none, some none, some none, some none])), (52, .inl (3, [some none, some none, some none, none]))])) dX3_init_7 ka_int (Or.inl ⟨rfl, rfl, rfl⟩) rfl (Nat.le_of_ble_eq_true rfl) (by decide +kernel) (by decide +kernel) (by decide +kernel) (by decide +kernel) (by decide +kernel) (by decide +kernel) ?_
  refine ai_putR (pc := 9) (fs := [some none, some none, some none, none]) (sh' := (pt 54 [(0, .inl (8, [some (some 1), some none, some none, some none, some none, some none, none])), (17, .inl (2, [some none, none, none])), (18, .inr (.inr [some 19, some 35, none, none])), (51, .inl (0, [some none, some none, some none, some none, some none])), (52, .inl (3, [some (some 53), some none, some none, none]))])) dX3_init_9 rfl ff_RX3_9 (by decide +kernel) (by decide +kernel) (by decide +kernel) ?_
  refine ai_ald_0 (pc := 12) dX3_init_12 ?_
  refine ai_bipush (pc := 13) dX3_init_13 bp_12 ?_
  refine ai_newarr (pc := 15) (N := 12) 54 (sh' := (pt 55 [(0, .inl (8, [some (some 1), some none, some none, some none, some none, some none, none])), (17, .inl (2, [some none, none, none])), (18, .inr (.inr [some 19, some 35, none, none])), (51, .inl (0, [some none, some none, some none, some none, some none])), (52, .inl (3, [some (some 53), some none, some none, none]))])) dX3_init_15 ka_int (Or.inl ⟨rfl, rfl, rfl⟩) rfl (Nat.le_of_ble_eq_true rfl) (by decide +kernel) (by decide +kernel) (by decide +kernel) (by decide +kernel) (by decide +kernel) (by decide +kernel) ?_
  refine ai_putR (pc := 17) (fs := [some (some 53), some none, some none, none]) (sh' := (pt 55 [(0, .inl (8, [some (some 1), some none, some none, some none, some none, some none, none])), (17, .inl (2, [some none, none, none])), (18, .inr (.inr [some 19, some 35, none, none])), (51, .inl (0, [some none, some none, some none, some none, some none])), (52, .inl (3, [some (some 53), some (some 54), some none, none]))])) dX3_init_17 rfl ff_RX3_15 (by decide +kernel) (by decide +kernel) (by decide +kernel) ?_
  refine ai_ald_0 (pc := 20) dX3_init_20 ?_
  refine ai_bipush (pc := 21) dX3_init_21 bp_12 ?_
  refine ai_newarr (pc := 23) (N := 12) 55 (sh' := (pt 56 [(0, .inl (8, [some (some 1), some none, some none, some none, some none, some none, none])), (17, .inl (2, [some none, none, none])), (18, .inr (.inr [some 19, some 35, none, none])), (51, .inl (0, [some none, some none, some none, some none, some none])), (52, .inl (3, [some (some 53), some (some 54), some none, none]))])) dX3_init_23 ka_int (Or.inl ⟨rfl, rfl, rfl⟩) rfl (Nat.le_of_ble_eq_true rfl) (by decide +kernel) (by decide +kernel) (by decide +kernel) (by decide +kernel) (by decide +kernel) (by decide +kernel) ?_
  refine ai_putR (pc := 25) (fs := [some (some 53), some (some 54), some none, none]) (sh' := (pt 56 [(0, .inl (8, [some (some 1), some none, some none, some none, some none, some none, none])), (17, .inl (2, [some none, none, none])), (18, .inr (.inr [some 19, some 35, none, none])), (51, .inl (0, [some none, some none, some none, some none, some none]))])) dX3_init_25 rfl ff_RX3_18 (by decide +kernel) (by decide +kernel) (by decide +kernel) ?_
  refine ai_ald_0 (pc := 28) dX3_init_28 ?_
  refine ai_const (pc := 29) dX3_init_29 ?_
  refine ai_putI (pc := 30) (fs := [some (some 53), some (some 54), some (some 55), none]) (jz := 3) dX3_init_30 fn_RX3_21 (by decide +kernel) (by decide +kernel) rfl (fun z => by cases z) ?_
  refine ai_return (pc := 33) dX3_init_33 rfl (by decide +kernel) (by decide +kernel) (by decide +kernel) ?_
  refine ⟨fun k j hk => by (try simp (disch := omega) only [am_k, am_j, am_same, am_n0, am_nk]), fun k j h1 h2 => by
    rcases (by omega : k = 53 ∨ k = 54 ∨ k = 55) with rfl | rfl | rfl <;> simp (disch := omega) only [am_k, am_j, am_same, am_n0, am_nk], by simp (disch := omega) only [am_k, am_j, am_same, am_n0, am_nk]⟩

set_option maxHeartbeats 4000000 in
theorem iX5_init_56 (m : AM) : CI 1 mX5_init 5 76 [.inr 56] (pt 57 [(0, .inl (8, [some (some 1), some none, some none, some none, some none, some none, none])), (17, .inl (2, [some none, none, none])), (18, .inr (.inr [some 19, some 35, none, none])), (51, .inl (0, [some (some 52), some none, some none, some none, some none])), (56, .inl (5, [some none, some none, some none, some none, some none]))]) m (pt 62 [(0, .inl (8, [some (some 1), some none, some none, some none, some none, some none, none])), (17, .inl (2, [some none, none, none])), (18, .inr (.inr [some 19, some 35, none, none])), (51, .inl (0, [some (some 52), some none, some none, some none, some none]))]) (fun m' => (∀ (k : Nat) (j : Int), k < 56 → m' k j = m k j) ∧ (∀ (k : Nat) (j : Int), 56 < k → k ≤ 61 → m' k j = 0)) := by
  refine ci_of (nc := 62) (ns := 632) (by decide +kernel) (Nat.le_of_ble_eq_true rfl) (by decide +kernel) (by decide +kernel) rfl ?_
  refine ai_ald_0 (pc := 0) dX5_init_0 ?_
  refine ai_objInit (pc := 1) dX5_init_1 ol_RX5_3 (by decide) (by decide) ?_
  refine ai_ald_0 (pc := 4) dX5_init_4 ?_
  refine ai_bipush (pc := 5) dX5_init_5 bp_7 ?_
  refine ai_newarr (pc := 7) (N := 7) 57 (sh' := (pt 58 [(0, .inl (8, [some (some 1), some none, some none, some none, some none, some none, none])), (17, .inl (2, [some none, none, none])), (18, .inr (.inr [some 19, some 35, none, none])), (51, .inl (0, [some (some 52), some none, some none, some none, some none])), (56, .inl (5, [some none, some none, some none, some none, some none]))])) dX5_init_7 ka_int (Or.inl ⟨rfl, rfl, rfl⟩) rfl (Nat.le_of_ble_eq_true rfl) (by decide +kernel) (by decide +kernel) (by decide +kernel) (by decide +kernel) (by decide +kernel) (by decide +kernel) ?_
  refine ai_putR (pc := 9) (fs := [some none, some none, some none, some none, some none]) (sh' := (pt 58 [(0, .inl (8, [some (some 1), some none, some none, some none, some none, some none, none])), (17, .inl (2, [some none, none, none])), (18, .inr (.inr [some 19, some 35, none, none])), (51, .inl (0, [some (some 52), some none, some none, some none, some none])), (56, .inl (5, [some (some 57), some none, some none, some none, some none]))])) dX5_init_9 rfl ff_RX5_9 (by decide +kernel) (by decide +kernel) (by decide +kernel) ?_
  refine ai_ald_0 (pc := 12) dX5_init_12 ?_
  refine ai_bipush (pc := 13) dX5_init_13 bp_21 ?_
  refine ai_newarr (pc := 15) (N := 21) 58 (sh' := (pt 59 [(0, .inl (8, [some (some 1), some none, some none, some none, some none, some none, none])), (17, .inl (2, [some none, none, none])), (18, .inr (.inr [some 19, some 35, none, none])), (51, .inl (0, [some (some 52), some none, some none, some none, some none])), (56, .inl (5, [some (some 57), some none, some none, some none, some none]))])) dX5_init_15 ka_int (Or.inl ⟨rfl, rfl, rfl⟩) rfl (Nat.le_of_ble_eq_true rfl) (by decide +kernel) (by decide +kernel) (by decide +kernel) (by decide +kernel) (by decide +kernel) (by decide +kernel) ?_
  refine ai_putR (pc := 17) (fs := [some (some 57), some none, some none, some none, some none]) (sh' := (pt 59 [(0, .inl (8, [some (some 1), some none, some none, some none, some none, some none, none])), (17, .inl (2, [some none, none, none])), (18, .inr (.inr [some 19, some 35, none, none])), (51, .inl (0, [some (some 52), some none, some none, some none, some none])), (56, .inl (5, [some (some 57), some (some 58), some none, some none, some none]))])) dX5_init_17 rfl ff_RX5_15 (by decide +kernel) (by decide +kernel) (by decide +kernel) ?_
  refine ai_ald_0 (pc := 20) dX5_init_20 ?_
  refine ai_bipush (pc := 21) dX5_init_21 bp_21 ?_
  refine ai_newarr (pc := 23) (N := 21) 59 (sh' := (pt 60 [(0, .inl (8, [some (some 1), some none, some none, some none, some none, some none, none])), (17, .inl (2, [some none, none, none])), (18, .inr (.inr [some 19, some 35, none, none])), (51, .inl (0, [some (some 52), some none, some none, some none, some none])), (56, .inl (5, [some (some 57), some (some 58), some none, some none, some none]))])) dX5_init_23 ka_int (Or.inl ⟨rfl, rfl, rfl⟩) rfl (Nat.le_of_ble_eq_true rfl) (by decide +kernel) (by decide +kernel) (by decide +kernel) (by decide +kernel) (by decide +kernel) (by decide +kernel) ?_
  refine ai_putR (pc := 25) (fs := [some (some 57), some (some 58), some none, some none, some none]) (sh' := (pt 60 [(0, .inl (8, [some (some 1), some none, some none, some none, some none, some none, none])), (17, .inl (2, [some none, none, none])), (18, .inr (.inr [some 19, some 35, none, none])), (51, .inl (0, [some (some 52), some none, some none, some none, some none])), (56, .inl (5, [some (some 57), some (some 58), some (some 59), some none, some none]))])) dX5_init_25 rfl ff_RX5_18 (by decide +kernel) (by decide +kernel) (by decide +kernel) ?_
  refine ai_ald_0 (pc := 28) dX5_init_28 ?_
  refine ai_bipush (pc := 29) dX5_init_29 bp_21 ?_
  refine ai_newarr (pc := 31) (N := 21) 60 (sh' := (pt 61 [(0, .inl (8, [some (some 1), some none, some none, some none, some none, some none, none])), (17, .inl (2, [some none, none, none])), (18, .inr (.inr [some 19, some 35, none, none])), (51, .inl (0, [some (some 52), some none, some none, some none, some none])), (56, .inl (5, [some (some 57), some (some 58), some (some 59), some none, some none]))])) dX5_init_31 ka_int (Or.inl ⟨rfl, rfl, rfl⟩) rfl (Nat.le_of_ble_eq_true rfl) (by decide +kernel) (by decide +kernel) (by decide +kernel) (by decide +kernel) (by decide +kernel) (by decide +kernel) ?_
  refine ai_putR (pc := 33) (fs := [some (some 57), some (some 58), some (some 59), some none, some none]) (sh' := (pt 61 [(0, .inl (8, [some (some 1), some none, some none, some none, some none, some none, none])), (17, .inl (2, [some none, none, none])), (18, .inr (.inr [some 19, some 35, none, none])), (51, .inl (0, [some (some 52), some none, some none, some none, some none])), (56, .inl (5, [some (some 57), some (some 58), some (some 59), some (some 60), some none]))])) dX5_init_33 rfl ff_RX5_21 (by decide +kernel) (by decide +kernel) (by decide +kernel) ?_
  refine ai_ald_0 (pc := 36) dX5_init_36 ?_
  refine ai_bipush (pc := 37) dX5_init_37 bp_6 ?_
  refine ai_newarr (pc := 39) (N := 6) 61 (sh' := (pt 62 [(0, .inl (8, [some (some 1), some none, some none, some none, some none, some none, none])), (17, .inl (2, [some none, none, none])), (18, .inr (.inr [some 19, some 35, none, none])), (51, .inl (0, [some (some 52), some none, some none, some none, some none])), (56, .inl (5, [some (some 57), some (some 58), some (some 59), some (some 60), some none]))])) dX5_init_39 ka_int (Or.inl ⟨rfl, rfl, rfl⟩) rfl (Nat.le_of_ble_eq_true rfl) (by decide +kernel) (by decide +kernel) (by decide +kernel) (by decide +kernel) (by decide +kernel) (by decide +kernel) ?_
  refine ai_putR (pc := 41) (fs := [some (some 57), some (some 58), some (some 59), some (some 60), some none]) (sh' := (pt 62 [(0, .inl (8, [some (some 1), some none, some none, some none, some none, some none, none])), (17, .inl (2, [some none, none, none])), (18, .inr (.inr [some 19, some 35, none, none])), (51, .inl (0, [some (some 52), some none, some none, some none, some none]))])) dX5_init_41 rfl ff_RX5_24 (by decide +kernel) (by decide +kernel) (by decide +kernel) ?_
  refine ai_return (pc := 44) dX5_init_44 rfl (by decide +kernel) (by decide +kernel) (by decide +kernel) ?_
  refine ⟨fun k j hk => by (try simp (disch := omega) only [am_k, am_j, am_same, am_n0, am_nk]), fun k j h1 h2 => by
    rcases (by omega : k = 57 ∨ k = 58 ∨ k = 59 ∨ k = 60 ∨ k = 61) with rfl | rfl | rfl | rfl | rfl <;> simp (disch := omega) only [am_k, am_j, am_same, am_n0, am_nk]⟩

set_option maxHeartbeats 4000000 in
theorem iX7_init_62 (m : AM) : CI 1 mX7_init 2 24 [.inr 62] (pt 63 [(0, .inl (8, [some (some 1), some none, some none, some none, some none, some none, none])), (17, .inl (2, [some none, none, none])), (18, .inr (.inr [some 19, some 35, none, none])), (51, .inl (0, [some (some 52), some (some 56), some none, some none, some none])), (62, .inl (7, [some none, some none]))]) m (pt 65 [(0, .inl (8, [some (some 1), some none, some none, some none, some none, some none, none])), (17, .inl (2, [some none, none, none])), (18, .inr (.inr [some 19, some 35, none, none])), (51, .inl (0, [some (some 52), some (some 56), some none, some none, some none]))]) (fun m' => (∀ (k : Nat) (j : Int), k < 62 → m' k j = m k j) ∧ (∀ (k : Nat) (j : Int), 62 < k → k ≤ 64 → m' k j = 0)) := by
  refine ci_of (nc := 65) (ns := 658) (by decide +kernel) (Nat.le_of_ble_eq_true rfl) (by decide +kernel) (by decide +kernel) rfl ?_
  refine ai_ald_0 (pc := 0) dX7_init_0 ?_
  refine ai_objInit (pc := 1) dX7_init_1 ol_RX7_3 (by decide) (by decide) ?_
  refine ai_ald_0 (pc := 4) dX7_init_4 ?_
  refine ai_bipush (pc := 5) dX7_init_5 bp_6 ?_
  refine ai_newarr (pc := 7) (N := 6) 63 (sh' := (pt 64 [(0, .inl (8, [some (some 1), some none, some none, some none, some none, some none, none])), (17, .inl (2, [some none, none, none])), (18, .inr (.inr [some 19, some 35, none, none])), (51, .inl (0, [some (some 52), some (some 56), some none, some none, some none])), (62, .inl (7, [some none, some none]))])) dX7_init_7 ka_int (Or.inl ⟨rfl, rfl, rfl⟩) rfl (Nat.le_of_ble_eq_true rfl) (by decide +kernel) (by decide +kernel) (by decide +kernel) (by decide +kernel) (by decide +kernel) (by decide +kernel) ?_
  refine ai_putR (pc := 9) (fs := [some none, some none]) (sh' := (pt 64 [(0, .inl (8, [some (some 1), some none, some none, some none, some none, some none, none])), (17, .inl (2, [some none, none, none])), (18, .inr (.inr [some 19, some 35, none, none])), (51, .inl (0, [some (some 52), some (some 56), some none, some none, some none])), (62, .inl (7, [some (some 63), some none]))])) dX7_init_9 rfl ff_RX7_9 (by decide +kernel) (by decide +kernel) (by decide +kernel) ?_
  refine ai_ald_0 (pc := 12) dX7_init_12 ?_
  refine ai_bipush (pc := 13) dX7_init_13 bp_18 ?_
  refine ai_newarr (pc := 15) (N := 18) 64 (sh' := (pt 65 [(0, .inl (8, [some (some 1), some none, some none, some none, some none, some none, none])), (17, .inl (2, [some none, none, none])), (18, .inr (.inr [some 19, some 35, none, none])), (51, .inl (0, [some (some 52), some (some 56), some none, some none, some none])), (62, .inl (7, [some (some 63), some none]))])) dX7_init_15 ka_int (Or.inl ⟨rfl, rfl, rfl⟩) rfl (Nat.le_of_ble_eq_true rfl) (by decide +kernel) (by decide +kernel) (by decide +kernel) (by decide +kernel) (by decide +kernel) (by decide +kernel) ?_
  refine ai_putR (pc := 17) (fs := [some (some 63), some none]) (sh' := (pt 65 [(0, .inl (8, [some (some 1), some none, some none, some none, some none, some none, none])), (17, .inl (2, [some none, none, none])), (18, .inr (.inr [some 19, some 35, none, none])), (51, .inl (0, [some (some 52), some (some 56), some none, some none, some none]))])) dX7_init_17 rfl ff_RX7_15 (by decide +kernel) (by decide +kernel) (by decide +kernel) ?_
  refine ai_return (pc := 20) dX7_init_20 rfl (by decide +kernel) (by decide +kernel) (by decide +kernel) ?_
  refine ⟨fun k j hk => by (try simp (disch := omega) only [am_k, am_j, am_same, am_n0, am_nk]), fun k j h1 h2 => by
    rcases (by omega : k = 63 ∨ k = 64) with rfl | rfl <;> simp (disch := omega) only [am_k, am_j, am_same, am_n0, am_nk]⟩

set_option maxHeartbeats 4000000 in
theorem iX0_init_51 (m : AM) : CI 2 mX0_init 15 159 [.inr 51] (pt 52 [(0, .inl (8, [some (some 1), some none, some none, some none, some none, some none, none])), (17, .inl (2, [some none, none, none])), (18, .inr (.inr [some 19, some 35, none, none])), (51, .inl (0, [some none, some none, some none, some none, some none]))]) m (pt 67 [(0, .inl (8, [some (some 1), some none, some none, some none, some none, some none, none])), (17, .inl (2, [some none, none, none])), (18, .inr (.inr [some 19, some 35, none, none]))]) (fun m' => (∀ (k : Nat) (j : Int), k < 51 → m' k j = m k j) ∧ (∀ (k : Nat) (j : Int), (53 ≤ k ∧ k ≤ 55) ∨ (57 ≤ k ∧ k ≤ 61) ∨ (63 ≤ k ∧ k ≤ 64) ∨ k = 66 → m' k j = 0) ∧ m' 52 3 = 0 ∧ m' 65 0 = 3 ∧ m' 65 1 = 2 ∧ m' 65 2 = 120) := by
  refine ci_of (nc := 67) (ns := 670) (by decide +kernel) (Nat.le_of_ble_eq_true rfl) (by decide +kernel) (by decide +kernel) rfl ?_
  refine ai_ald_0 (pc := 0) dX0_init_0 ?_
  refine ai_objInit (pc := 1) dX0_init_1 ol_RX0_3 (by decide) (by decide) ?_
  refine ai_ald_0 (pc := 4) dX0_init_4 ?_
  refine ai_new (pc := 5) (fs := [some none, some none, some none, none]) 52 (sh' := (pt 53 [(0, .inl (8, [some (some 1), some none, some none, some none, some none, some none, none])), (17, .inl (2, [some none, none, none])), (18, .inr (.inr [some 19, some 35, none, none])), (51, .inl (0, [some none, some none, some none, some none, some none])), (52, .inl (3, [some none, some none, some none, none]))])) dX0_init_5 kX3 kl_RX0_9 ki_RX3 kn_RX3 rfl (fun j hj => by rcases (by omega : j = 0 ∨ j = 1 ∨ j = 2 ∨ j = 3) with rfl | rfl | rfl | rfl <;> rfl) (by simp) (by decide +kernel) (by decide +kernel) (by decide +kernel) (by decide +kernel) (by decide +kernel) (by decide +kernel) ?_
  refine ai_dup (pc := 8) dX0_init_8 ?_
  refine ai_invI (pc := 9) dX0_init_9 mi_RX0_11 (iX3_init_52 _) (by decide) (by decide) (by decide) (by decide +kernel) (by decide +kernel) (by decide +kernel) (by decide +kernel) (fun m1 c1 => ?_)
  refine ai_putR (pc := 12) (fs := [some none, some none, some none, some none, some none]) (sh' := (pt 56 [(0, .inl (8, [some (some 1), some none, some none, some none, some none, some none, none])), (17, .inl (2, [some none, none, none])), (18, .inr (.inr [some 19, some 35, none, none])), (51, .inl (0, [some (some 52), some none, some none, some none, some none]))])) dX0_init_12 rfl ff_RX0_12 (by decide +kernel) (by decide +kernel) (by decide +kernel) ?_
  refine ai_ald_0 (pc := 15) dX0_init_15 ?_
  refine ai_new (pc := 16) (fs := [some none, some none, some none, some none, some none]) 56 (sh' := (pt 57 [(0, .inl (8, [some (some 1), some none, some none, some none, some none, some none, none])), (17, .inl (2, [some none, none, none])), (18, .inr (.inr [some 19, some 35, none, none])), (51, .inl (0, [some (some 52), some none, some none, some none, some none])), (56, .inl (5, [some none, some none, some none, some none, some none]))])) dX0_init_16 kX5 kl_RX0_18 ki_RX5 kn_RX5 rfl (fun j hj => by rcases (by omega : j = 0 ∨ j = 1 ∨ j = 2 ∨ j = 3 ∨ j = 4) with rfl | rfl | rfl | rfl | rfl <;> rfl) (by simp) (by decide +kernel) (by decide +kernel) (by decide +kernel) (by decide +kernel) (by decide +kernel) (by decide +kernel) ?_
  refine ai_dup (pc := 19) dX0_init_19 ?_
  refine ai_invI (pc := 20) dX0_init_20 mi_RX0_20 (iX5_init_56 _) (by decide) (by decide) (by decide) (by decide +kernel) (by decide +kernel) (by decide +kernel) (by decide +kernel) (fun m2 c2 => ?_)
  refine ai_putR (pc := 23) (fs := [some (some 52), some none, some none, some none, some none]) (sh' := (pt 62 [(0, .inl (8, [some (some 1), some none, some none, some none, some none, some none, none])), (17, .inl (2, [some none, none, none])), (18, .inr (.inr [some 19, some 35, none, none])), (51, .inl (0, [some (some 52), some (some 56), some none, some none, some none]))])) dX0_init_23 rfl ff_RX0_21 (by decide +kernel) (by decide +kernel) (by decide +kernel) ?_
  refine ai_ald_0 (pc := 26) dX0_init_26 ?_
  refine ai_new (pc := 27) (fs := [some none, some none]) 62 (sh' := (pt 63 [(0, .inl (8, [some (some 1), some none, some none, some none, some none, some none, none])), (17, .inl (2, [some none, none, none])), (18, .inr (.inr [some 19, some 35, none, none])), (51, .inl (0, [some (some 52), some (some 56), some none, some none, some none])), (62, .inl (7, [some none, some none]))])) dX0_init_27 kX7 kl_RX0_25 ki_RX7 kn_RX7 rfl (fun j hj => by rcases (by omega : j = 0 ∨ j = 1) with rfl | rfl <;> rfl) (by simp) (by decide +kernel) (by decide +kernel) (by decide +kernel) (by decide +kernel) (by decide +kernel) (by decide +kernel) ?_
  refine ai_dup (pc := 30) dX0_init_30 ?_
  refine ai_invI (pc := 31) dX0_init_31 mi_RX0_27 (iX7_init_62 _) (by decide) (by decide) (by decide) (by decide +kernel) (by decide +kernel) (by decide +kernel) (by decide +kernel) (fun m3 c3 => ?_)
  refine ai_putR (pc := 34) (fs := [some (some 52), some (some 56), some none, some none, some none]) (sh' := (pt 65 [(0, .inl (8, [some (some 1), some none, some none, some none, some none, some none, none])), (17, .inl (2, [some none, none, none])), (18, .inr (.inr [some 19, some 35, none, none])), (51, .inl (0, [some (some 52), some (some 56), some (some 62), some none, some none]))])) dX0_init_34 rfl ff_RX0_28 (by decide +kernel) (by decide +kernel) (by decide +kernel) ?_
  refine ai_ald_0 (pc := 37) dX0_init_37 ?_
  refine ai_const (pc := 38) dX0_init_38 ?_
  refine ai_newarr (pc := 39) (N := 3) 65 (sh' := (pt 66 [(0, .inl (8, [some (some 1), some none, some none, some none, some none, some none, none])), (17, .inl (2, [some none, none, none])), (18, .inr (.inr [some 19, some 35, none, none])), (51, .inl (0, [some (some 52), some (some 56), some (some 62), some none, some none]))])) dX0_init_39 ka_int (Or.inl ⟨rfl, rfl, rfl⟩) rfl (Nat.le_of_ble_eq_true rfl) (by decide +kernel) (by decide +kernel) (by decide +kernel) (by decide +kernel) (by decide +kernel) (by decide +kernel) ?_
  refine ai_dup (pc := 41) dX0_init_41 ?_
  refine ai_const (pc := 42) dX0_init_42 ?_
  refine ai_const (pc := 43) dX0_init_43 ?_
  refine ai_iastore (pc := 44) (n := 3) dX0_init_44 (by decide +kernel) (by decide) (by decide) (by decide) ?_
  refine ai_dup (pc := 45) dX0_init_45 ?_
  refine ai_const (pc := 46) dX0_init_46 ?_
  refine ai_const (pc := 47) dX0_init_47 ?_
  refine ai_iastore (pc := 48) (n := 3) dX0_init_48 (by decide +kernel) (by decide) (by decide) (by decide) ?_
  refine ai_dup (pc := 49) dX0_init_49 ?_
  refine ai_const (pc := 50) dX0_init_50 ?_
  refine ai_bipush (pc := 51) dX0_init_51 bp_120 ?_
  refine ai_iastore (pc := 53) (n := 3) dX0_init_53 (by decide +kernel) (by decide) (by decide) (by decide) ?_
  refine ai_putR (pc := 54) (fs := [some (some 52), some (some 56), some (some 62), some none, some none]) (sh' := (pt 66 [(0, .inl (8, [some (some 1), some none, some none, some none, some none, some none, none])), (17, .inl (2, [some none, none, none])), (18, .inr (.inr [some 19, some 35, none, none])), (51, .inl (0, [some (some 52), some (some 56), some (some 62), some (some 65), some none]))])) dX0_init_54 rfl ff_RX0_32 (by decide +kernel) (by decide +kernel) (by decide +kernel) ?_
  refine ai_ald_0 (pc := 57) dX0_init_57 ?_
  refine ai_bipush (pc := 58) dX0_init_58 bp_9 ?_
  refine ai_newarr (pc := 60) (N := 9) 66 (sh' := (pt 67 [(0, .inl (8, [some (some 1), some none, some none, some none, some none, some none, none])), (17, .inl (2, [some none, none, none])), (18, .inr (.inr [some 19, some 35, none, none])), (51, .inl (0, [some (some 52), some (some 56), some (some 62), some (some 65), some none]))])) dX0_init_60 ka_int (Or.inl ⟨rfl, rfl, rfl⟩) rfl (Nat.le_of_ble_eq_true rfl) (by decide +kernel) (by decide +kernel) (by decide +kernel) (by decide +kernel) (by decide +kernel) (by decide +kernel) ?_
  refine ai_putR (pc := 62) (fs := [some (some 52), some (some 56), some (some 62), some (some 65), some none]) (sh' := (pt 67 [(0, .inl (8, [some (some 1), some none, some none, some none, some none, some none, none])), (17, .inl (2, [some none, none, none])), (18, .inr (.inr [some 19, some 35, none, none]))])) dX0_init_62 rfl ff_RX0_36 (by decide +kernel) (by decide +kernel) (by decide +kernel) ?_
  refine ai_return (pc := 65) dX0_init_65 rfl (by decide +kernel) (by decide +kernel) (by decide +kernel) ?_
  exact ⟨fun k j hk => by (try simp (disch := omega) only [am_k, am_j, am_same, am_n0, am_nk]); (try rw [c3.1 _ _ (by omega)]); (try simp (disch := omega) only [am_k, am_j, am_same, am_n0, am_nk]); (try rw [c2.1 _ _ (by omega)]); (try simp (disch := omega) only [am_k, am_j, am_same, am_n0, am_nk]); (try rw [c1.1 _ _ (by omega)]); (try simp (disch := omega) only [am_k, am_j, am_same, am_n0, am_nk]), fun k j h => by
    rcases h with h | h | h | h
    · (try simp (disch := omega) only [am_k, am_j, am_same, am_n0, am_nk]); (try rw [c3.1 _ _ (by omega)]); (try simp (disch := omega) only [am_k, am_j, am_same, am_n0, am_nk]); (try rw [c2.1 _ _ (by omega)]); (try simp (disch := omega) only [am_k, am_j, am_same, am_n0, am_nk]); exact c1.2.1 k j (by omega) (by omega)
    · (try simp (disch := omega) only [am_k, am_j, am_same, am_n0, am_nk]); (try rw [c3.1 _ _ (by omega)]); (try simp (disch := omega) only [am_k, am_j, am_same, am_n0, am_nk]); exact c2.2 k j (by omega) (by omega)
    · (try simp (disch := omega) only [am_k, am_j, am_same, am_n0, am_nk]); exact c3.2 k j (by omega) (by omega)
    · subst h; simp (disch := omega) only [am_k, am_j, am_same, am_n0, am_nk], by (try simp (disch := omega) only [am_k, am_j, am_same, am_n0, am_nk]); (try rw [c3.1 _ _ (by omega)]); (try simp (disch := omega) only [am_k, am_j, am_same, am_n0, am_nk]); (try rw [c2.1 _ _ (by omega)]); (try simp (disch := omega) only [am_k, am_j, am_same, am_n0, am_nk]); exact c1.2.2, by simp (disch := omega) only [am_k, am_j, am_same, am_n0, am_nk], by simp (disch := omega) only [am_k, am_j, am_same, am_n0, am_nk], by simp (disch := omega) only [am_k, am_j, am_same, am_n0, am_nk]⟩

set_option maxHeartbeats 4000000 in
theorem iX3_init_68 (m : AM) : CI 1 mX3_init 3 36 [.inr 68] (pt 69 [(0, .inl (8, [some (some 1), some none, some none, some none, some none, some none, none])), (17, .inl (2, [some none, none, none])), (18, .inr (.inr [some 19, some 35, some 51, none])), (67, .inl (0, [some none, some none, some none, some none, some none])), (68, .inl (3, [some none, some none, some none, none]))]) m (pt 72 [(0, .inl (8, [some (some 1), some none, some none, some none, some none, some none, none])), (17, .inl (2, [some none, none, none])), (18, .inr (.inr [some 19, some 35, some 51, none])), (67, .inl (0, [some none, some none, some none, some none, some none]))]) (fun m' => (∀ (k : Nat) (j : Int), k < 68 → m' k j = m k j) ∧ (∀ (k : Nat) (j : Int), 68 < k → k ≤ 71 → m' k j = 0) ∧ m' 68 3 = 0) := by
  refine ci_of (nc := 72) (ns := 715) (by decide +kernel) (Nat.le_of_ble_eq_true rfl) (by decide +kernel) (by decide +kernel) rfl ?_
  refine ai_ald_0 (pc := 0) dX3_init_0 ?_
  refine ai_objInit (pc := 1) dX3_init_1 ol_RX3_3 (by decide) (by decide) ?_
  refine ai_ald_0 (pc := 4) dX3_init_4 ?_
  refine ai_bipush (pc := 5) dX3_init_5 bp_12 ?_
  refine ai_newarr (pc := 7) (N := 12) 69 (sh' := (pt 70 [(0, .inl (8, [some (some 1), some none, some none, some none, some none, some none, none])), (17, .inl (2, [some none, none, none])), (18, .inr (.inr [some 19, some 35, some 51, none])), (67, .inl (0, [some none, some none, some none, some none, some none])), (68, .inl (3, [some none, some none, some none, none]))])) dX3_init_7 ka_int (Or.inl ⟨rfl, rfl, rfl⟩) rfl (Nat.le_of_ble_eq_true rfl) (by decide +kernel) (by decide +kernel) (by decide +kernel) (by decide +kernel) (by decide +kernel) (by decide +kernel) ?_
  refine ai_putR (pc := 9) (fs := [some none, some none, some none, none]) (sh' := (pt 70 [(0, .inl (8, [some (some 1), some none, some none, some none, some none, some none, none])), (17, .inl (2, [some none, none, none])), (18, .inr (.inr [some 19, some 35, some 51, none])), (67, .inl (0, [some none, some none, some none, some none, some none])), (68, .inl (3, [some (some 69), some none, some none, none]))])) dX3_init_9 rfl ff_RX3_9 (by decide +kernel) (by decide +kernel) (by decide +kernel) ?_
  refine ai_ald_0 (pc := 12) dX3_init_12 ?_
  refine ai_bipush (pc := 13) dX3_init_13 bp_12 ?_
  refine ai_newarr (pc := 15) (N := 12) 70 (sh' := (pt 71 [(0, .inl (8, [some (some 1), some none, some none, some none, some none, some none, none])), (17, .inl (2, [some none, none, none])), (18, .inr (.inr [some 19, some 35, some 51, none])), (67, .inl (0, [some none, some none, some none, some none, some none])), (68, .inl (3, [some (some 69), some none, some none, none]))])) dX3_init_15 ka_int (Or.inl ⟨rfl, rfl, rfl⟩) rfl (Nat.le_of_ble_eq_true rfl) (by decide +kernel) (by decide +kernel) (by decide +kernel) (by decide +kernel) (by decide +kernel) (by decide +kernel) ?_
  refine ai_putR (pc := 17) (fs := [some (some 69), some none, some none, none]) (sh' := (pt 71 [(0, .inl (8, [some (some 1), some none, some none, some none, some none, some none, none])), (17, .inl (2, [some none, none, none])), (18, .inr (.inr [some 19, some 35, some 51, none])), (67, .inl (0, [some none, some none, some none, some none, some none])), (68, .inl (3, [some (some 69), some (some 70), some none, none]))])) dX3_init_17 rfl ff_RX3_15 (by decide +kernel) (by decide +kernel) (by decide +kernel) ?_
  refine ai_ald_0 (pc := 20) dX3_init_20 ?_
  refine ai_bipush (pc := 21) dX3_init_21 bp_12 ?_
  refine ai_newarr (pc := 23) (N := 12) 71 (sh' := (pt 72 [(0, .inl (8, [some (some 1), some none, some none, some none, some none, some none, none])), (17, .inl (2, [some none, none, none])), (18, .inr (.inr [some 19, some 35, some 51, none])), (67, .inl (0, [some none, some none, some none, some none, some none])), (68, .inl (3, [some (some 69), some (some 70), some none, none]))])) dX3_init_23 ka_int (Or.inl ⟨rfl, rfl, rfl⟩) rfl (Nat.le_of_ble_eq_true rfl) (by decide +kernel) (by decide +kernel) (by decide +kernel) (by decide +kernel) (by decide +kernel) (by decide +kernel) ?_
  refine ai_putR (pc := 25) (fs := [some (some 69), some (some 70), some none, none]) (sh' := (pt 72 [(0, .inl (8, [some (some 1), some none, some none, some none, some none, some none, none])), (17, .inl (2, [some none, none, none])), (18, .inr (.inr [some 19, some 35, some 51, none])), (67, .inl (0, [some none, some none, some none, some none, some none]))])) dX3_init_25 rfl ff_RX3_18 (by decide +kernel) (by decide +kernel) (by decide +kernel) ?_
  refine ai_ald_0 (pc := 28) dX3_init_28 ?_
  refine ai_const (pc := 29) dX3_init_29 ?_
  refine ai_putI (pc := 30) (fs := [some (some 69), some (some 70), some (some 71), none]) (jz := 3) dX3_init_30 fn_RX3_21 (by decide +kernel) (by decide +kernel) rfl (fun z => by cases z) ?_
  refine ai_return (pc := 33) dX3_init_33 rfl (by decide +kernel) (by decide +kernel) (by decide +kernel) ?_
  refine ⟨fun k j hk => by (try simp (disch := omega) only [am_k, am_j, am_same, am_n0, am_nk]), fun k j h1 h2 => by
    rcases (by omega : k = 69 ∨ k = 70 ∨ k = 71) with rfl | rfl | rfl <;> simp (disch := omega) only [am_k, am_j, am_same, am_n0, am_nk], by simp (disch := omega) only [am_k, am_j, am_same, am_n0, am_nk]⟩

set_option maxHeartbeats 4000000 in
theorem iX5_init_72 (m : AM) : CI 1 mX5_init 5 76 [.inr 72] (pt 73 [(0, .inl (8, [some (some 1), some none, some none, some none, some none, some none, none])), (17, .inl (2, [some none, none, none])), (18, .inr (.inr [some 19, some 35, some 51, none])), (67, .inl (0, [some (some 68), some none, some none, some none, some none])), (72, .inl (5, [some none, some none, some none, some none, some none]))]) m (pt 78 [(0, .inl (8, [some (some 1), some none, some none, some none, some none, some none, none])), (17, .inl (2, [some none, none, none])), (18, .inr (.inr [some 19, some 35, some 51, none])), (67, .inl (0, [some (some 68), some none, some none, some none, some none]))]) (fun m' => (∀ (k : Nat) (j : Int), k < 72 → m' k j = m k j) ∧ (∀ (k : Nat) (j : Int), 72 < k → k ≤ 77 → m' k j = 0)) := by
  refine ci_of (nc := 78) (ns := 796) (by decide +kernel) (Nat.le_of_ble_eq_true rfl) (by decide +kernel) (by decide +kernel) rfl ?_
  refine ai_ald_0 (pc := 0) dX5_init_0 ?_
  refine ai_objInit (pc := 1) dX5_init_1 ol_RX5_3 (by decide) (by decide) ?_
  refine ai_ald_0 (pc := 4) dX5_init_4 ?_
  refine ai_bipush (pc := 5) dX5_init_5 bp_7 ?_
  refine ai_newarr (pc := 7) (N := 7) 73 (sh' := (pt 74 [(0, .inl (8, [some (some 1), some none, some none, some none, some none, some none, none])), (17, .inl (2, [some none, none, none])), (18, .inr (.inr [some 19, some 35, some 51, none])), (67, .inl (0, [some (some 68), some none, some none, some none, some none])), (72, .inl (5, [some none, some none, some none, some none, some none]))])) dX5_init_7 ka_int (Or.inl ⟨rfl, rfl, rfl⟩) rfl (Nat.le_of_ble_eq_true rfl) (by decide +kernel) (by decide +kernel) (by decide +kernel) (by decide +kernel) (by decide +kernel) (by decide +kernel) ?_
  refine ai_putR (pc := 9) (fs := [some none, some none, some none, some none, some none]) (sh' := (pt 74 [(0, .inl (8, [some (some 1), some none, some none, some none, some none, some none, none])), (17, .inl (2, [some none, none, none])), (18, .inr (.inr [some 19, some 35, some 51, none])), (67, .inl (0, [some (some 68), some none, some none, some none, some none])), (72, .inl (5, [some (some 73), some none, some none, some none, some none]))])) dX5_init_9 rfl ff_RX5_9 (by decide +kernel) (by decide +kernel) (by decide +kernel) ?_
  refine ai_ald_0 (pc := 12) dX5_init_12 ?_
  refine ai_bipush (pc := 13) dX5_init_13 bp_21 ?_
  refine ai_newarr (pc := 15) (N := 21) 74 (sh' := (pt 75 [(0, .inl (8, [some (some 1), some none, some none, some none, some none, some none, none])), (17, .inl (2, [some none, none, none])), (18, .inr (.inr [some 19, some 35, some 51, none])), (67, .inl (0, [some (some 68), some none, some none, some none, some none])), (72, .inl (5, [some (some 73), some none, some none, some none, some none]))])) dX5_init_15 ka_int (Or.inl ⟨rfl, rfl, rfl⟩) rfl (Nat.le_of_ble_eq_true rfl) (by decide +kernel) (by decide +kernel) (by decide +kernel) (by decide +kernel) (by decide +kernel) (by decide +kernel) ?_
  refine ai_putR (pc := 17) (fs := [some (some 73), some none, some none, some none, some none]) (sh' := (pt 75 [(0, .inl (8, [some (some 1), some none, some none, some none, some none, some none, none])), (17, .inl (2, [some none, none, none])), (18, .inr (.inr [some 19, some 35, some 51, none])), (67, .inl (0, [some (some 68), some none, some none, some none, some none])), (72, .inl (5, [some (some 73), some (some 74), some none, some none, some none]))])) dX5_init_17 rfl ff_RX5_15 (by decide +kernel) (by decide +kernel) (by decide +kernel) ?_
  refine ai_ald_0 (pc := 20) dX5_init_20 ?_
  refine ai_bipush (pc := 21) dX5_init_21 bp_21 ?_
  refine ai_newarr (pc := 23) (N := 21) 75 (sh' := (pt 76 [(0, .inl (8, [some (some 1), some none, some none, some none, some none, some none, none])), (17, .inl (2, [some none, none, none])), (18, .inr (.inr [some 19, some 35, some 51, none])), (67, .inl (0, [some (some 68), some none, some none, some none, some none])), (72, .inl (5, [some (some 73), some (some 74), some none, some none, some none]))])) dX5_init_23 ka_int (Or.inl ⟨rfl, rfl, rfl⟩) rfl (Nat.le_of_ble_eq_true rfl) (by decide +kernel) (by decide +kernel) (by decide +kernel) (by decide +kernel) (by decide +kernel) (by decide +kernel) ?_
  refine ai_putR (pc := 25) (fs := [some (some 73), some (some 74), some none, some none, some none]) (sh' := (pt 76 [(0, .inl (8, [some (some 1), some none, some none, some none, some none, some none, none])), (17, .inl (2, [some none, none, none])), (18, .inr (.inr [some 19, some 35, some 51, none])), (67, .inl (0, [some (some 68), some none, some none, some none, some none])), (72, .inl (5, [some (some 73), some (some 74), some (some 75), some none, some none]))])) dX5_init_25 rfl ff_RX5_18 (by decide +kernel) (by decide +kernel) (by decide +kernel) ?_
  refine ai_ald_0 (pc := 28) dX5_init_28 ?_
  refine ai_bipush (pc := 29) dX5_init_29 bp_21 ?_
  refine ai_newarr (pc := 31) (N := 21) 76 (sh' := (pt 77 [(0, .inl (8, [some (some 1), some none, some none, some none, some none, some none, none])), (17, .inl (2, [some none, none, none])), (18, .inr (.inr [some 19, some 35, some 51, none])), (67, .inl (0, [some (some 68), some none, some none, some none, some none])), (72, .inl (5, [some (some 73), some (some 74), some (some 75), some none, some none]))])) dX5_init_31 ka_int (Or.inl ⟨rfl, rfl, rfl⟩) rfl (Nat.le_of_ble_eq_true rfl) (by decide +kernel) (by decide +kernel) (by decide +kernel) (by decide +kernel) (by decide +kernel) (by decide +kernel) ?_
  refine ai_putR (pc := 33) (fs := [some (some 73), some (some 74), some (some 75), some none, some none]) (sh' := (pt 77 [(0, .inl (8, [some (some 1), some none, some none, some none, some none, some none, none])), (17, .inl (2, [some none, none, none])), (18, .inr (.inr [some 19, some 35, some 51, none])), (67, .inl (0, [some (some 68), some none, some none, some none, some none])), (72, .inl (5, [some (some 73), some (some 74), some (some 75), some (some 76), some none]))])) dX5_init_33 rfl ff_RX5_21 (by decide +kernel) (by decide +kernel) (by decide +kernel) ?_
  refine ai_ald_0 (pc := 36) dX5_init_36 ?_
  refine ai_bipush (pc := 37) dX5_init_37 bp_6 ?_
  refine ai_newarr (pc := 39) (N := 6) 77 (sh' := (pt 78 [(0, .inl (8, [some (some 1), some none, some none, some none, some none, some none, none])), (17, .inl (2, [some none, none, none])), (18, .inr (.inr [some 19, some 35, some 51, none])), (67, .inl (0, [some (some 68), some none, some none, some none, some none])), (72, .inl (5, [some (some 73), some (some 74), some (some 75), some (some 76), some none]))])) dX5_init_39 ka_int (Or.inl ⟨rfl, rfl, rfl⟩) rfl (Nat.le_of_ble_eq_true rfl) (by decide +kernel) (by decide +kernel) (by decide +kernel) (by decide +kernel) (by decide +kernel) (by decide +kernel) ?_
  refine ai_putR (pc := 41) (fs := [some (some 73), some (some 74), some (some 75), some (some 76), some none]) (sh' := (pt 78 [(0, .inl (8, [some (some 1), some none, some none, some none, some none, some none, none])), (17, .inl (2, [some none, none, none])), (18, .inr (.inr [some 19, some 35, some 51, none])), (67, .inl (0, [some (some 68), some none, some none, some none, some none]))])) dX5_init_41 rfl ff_RX5_24 (by decide +kernel) (by decide +kernel) (by decide +kernel) ?_
  refine ai_return (pc := 44) dX5_init_44 rfl (by decide +kernel) (by decide +kernel) (by decide +kernel) ?_
  refine ⟨fun k j hk => by (try simp (disch := omega) only [am_k, am_j, am_same, am_n0, am_nk]), fun k j h1 h2 => by
    rcases (by omega : k = 73 ∨ k = 74 ∨ k = 75 ∨ k = 76 ∨ k = 77) with rfl | rfl | rfl | rfl | rfl <;> simp (disch := omega) only [am_k, am_j, am_same, am_n0, am_nk]⟩

set_option maxHeartbeats 4000000 in
theorem iX7_init_78 (m : AM) : CI 1 mX7_init 2 24 [.inr 78] (pt 79 [(0, .inl (8, [some (some 1), some none, some none, some none, some none, some none, none])), (17, .inl (2, [some none, none, none])), (18, .inr (.inr [some 19, some 35, some 51, none])), (67, .inl (0, [some (some 68), some (some 72), some none, some none, some none])), (78, .inl (7, [some none, some none]))]) m (pt 81 [(0, .inl (8, [some (some 1), some none, some none, some none, some none, some none, none])), (17, .inl (2, [some none, none, none])), (18, .inr (.inr [some 19, some 35, some 51, none])), (67, .inl (0, [some (some 68), some (some 72), some none, some none, some none]))]) (fun m' => (∀ (k : Nat) (j : Int), k < 78 → m' k j = m k j) ∧ (∀ (k : Nat) (j : Int), 78 < k → k ≤ 80 → m' k j = 0)) := by
  refine ci_of (nc := 81) (ns := 822) (by decide +kernel) (Nat.le_of_ble_eq_true rfl) (by decide +kernel) (by decide +kernel) rfl ?_
  refine ai_ald_0 (pc := 0) dX7_init_0 ?_
  refine ai_objInit (pc := 1) dX7_init_1 ol_RX7_3 (by decide) (by decide) ?_
  refine ai_ald_0 (pc := 4) dX7_init_4 ?_
  refine ai_bipush (pc := 5) dX7_init_5 bp_6 ?_
  refine ai_newarr (pc := 7) (N := 6) 79 (sh' := (pt 80 [(0, .inl (8, [some (some 1), some none, some none, some none, some none, some none, none])), (17, .inl (2, [some none, none, none])), (18, .inr (.inr [some 19, some 35, some 51, none])), (67, .inl (0, [some (some 68), some (some 72), some none, some none, some none])), (78, .inl (7, [some none, some none]))])) dX7_init_7 ka_int (Or.inl ⟨rfl, rfl, rfl⟩) rfl (Nat.le_of_ble_eq_true rfl) (by decide +kernel) (by decide +kernel) (by decide +kernel) (by decide +kernel) (by decide +kernel) (by decide +kernel) ?_
  refine ai_putR (pc := 9) (fs := [some none, some none]) (sh' := (pt 80 [(0, .inl (8, [some (some 1), some none, some none, some none, some none, some none, none])), (17, .inl (2, [some none, none, none])), (18, .inr (.inr [some 19, some 35, some 51, none])), (67, .inl (0, [some (some 68), some (some 72), some none, some none, some none])), (78, .inl (7, [some (some 79), some none]))])) dX7_init_9 rfl ff_RX7_9 (by decide +kernel) (by decide +kernel) (by decide +kernel) ?_
  refine ai_ald_0 (pc := 12) dX7_init_12 ?_
  refine ai_bipush (pc := 13) dX7_init_13 bp_18 ?_
  refine ai_newarr (pc := 15) (N := 18) 80 (sh' := (pt 81 [(0, .inl (8, [some (some 1), some none, some none, some none, some none, some none, none])), (17, .inl (2, [some none, none, none])), (18, .inr (.inr [some 19, some 35, some 51, none])), (67, .inl (0, [some (some 68), some (some 72), some none, some none, some none])), (78, .inl (7, [some (some 79), some none]))])) dX7_init_15 ka_int (Or.inl ⟨rfl, rfl, rfl⟩) rfl (Nat.le_of_ble_eq_true rfl) (by decide +kernel) (by decide +kernel) (by decide +kernel) (by decide +kernel) (by decide +kernel) (by decide +kernel) ?_
  refine ai_putR (pc := 17) (fs := [some (some 79), some none]) (sh' := (pt 81 [(0, .inl (8, [some (some 1), some none, some none, some none, some none, some none, none])), (17, .inl (2, [some none, none, none])), (18, .inr (.inr [some 19, some 35, some 51, none])), (67, .inl (0, [some (some 68), some (some 72), some none, some none, some none]))])) dX7_init_17 rfl ff_RX7_15 (by decide +kernel) (by decide +kernel) (by decide +kernel) ?_
  refine ai_return (pc := 20) dX7_init_20 rfl (by decide +kernel) (by decide +kernel) (by decide +kernel) ?_
  refine ⟨fun k j hk => by (try simp (disch := omega) only [am_k, am_j, am_same, am_n0, am_nk]), fun k j h1 h2 => by
    rcases (by omega : k = 79 ∨ k = 80) with rfl | rfl <;> simp (disch := omega) only [am_k, am_j, am_same, am_n0, am_nk]⟩

set_option maxHeartbeats 4000000 in
theorem iX0_init_67 (m : AM) : CI 2 mX0_init 15 159 [.inr 67] (pt 68 [(0, .inl (8, [some (some 1), some none, some none, some none, some none, some none, none])), (17, .inl (2, [some none, none, none])), (18, .inr (.inr [some 19, some 35, some 51, none])), (67, .inl (0, [some none, some none, some none, some none, some none]))]) m (pt 83 [(0, .inl (8, [some (some 1), some none, some none, some none, some none, some none, none])), (17, .inl (2, [some none, none, none])), (18, .inr (.inr [some 19, some 35, some 51, none]))]) (fun m' => (∀ (k : Nat) (j : Int), k < 67 → m' k j = m k j) ∧ (∀ (k : Nat) (j : Int), (69 ≤ k ∧ k ≤ 71) ∨ (73 ≤ k ∧ k ≤ 77) ∨ (79 ≤ k ∧ k ≤ 80) ∨ k = 82 → m' k j = 0) ∧ m' 68 3 = 0 ∧ m' 81 0 = 3 ∧ m' 81 1 = 2 ∧ m' 81 2 = 120) := by
  refine ci_of (nc := 83) (ns := 834) (by decide +kernel) (Nat.le_of_ble_eq_true rfl) (by decide +kernel) (by decide +kernel) rfl ?_
  refine ai_ald_0 (pc := 0) dX0_init_0 ?_
  refine ai_objInit (pc := 1) dX0_init_1 ol_RX0_3 (by decide) (by decide) ?_
  refine ai_ald_0 (pc := 4) dX0_init_4 ?_
  refine ai_new (pc := 5) (fs := [some none, some none, some none, none]) 68 (sh' := (pt 69 [(0, .inl (8, [some (some 1), some none, some none, some none, some none, some none, none])), (17, .inl (2, [some none, none, none])), (18, .inr (.inr [some 19, some 35, some 51, none])), (67, .inl (0, [some none, some none, some none, some none, some none])), (68, .inl (3, [some none, some none, some none, none]))])) dX0_init_5 kX3 kl_RX0_9 ki_RX3 kn_RX3 rfl (fun j hj => by rcases (by omega : j = 0 ∨ j = 1 ∨ j = 2 ∨ j = 3) with rfl | rfl | rfl | rfl <;> rfl) (by simp) (by decide +kernel) (by decide +kernel) (by decide +kernel) (by decide +kernel) (by decide +kernel) (by decide +kernel) ?_
  refine ai_dup (pc := 8) dX0_init_8 ?_
  refine ai_invI (pc := 9) dX0_init_9 mi_RX0_11 (iX3_init_68 _) (by decide) (by decide) (by decide) (by decide +kernel) (by decide +kernel) (by decide +kernel) (by decide +kernel) (fun m1 c1 => ?_)
  refine ai_putR (pc := 12) (fs := [some none, some none, some none, some none, some none]) (sh' := (pt 72 [(0, .inl (8, [some (some 1), some none, some none, some none, some none, some none, none])), (17, .inl (2, [some none, none, none])), (18, .inr (.inr [some 19, some 35, some 51, none])), (67, .inl (0, [some (some 68), some none, some none, some none, some none]))])) dX0_init_12 rfl ff_RX0_12 (by decide +kernel) (by decide +kernel) (by decide +kernel) ?_
  refine ai_ald_0 (pc := 15) dX0_init_15 ?_
  refine ai_new (pc := 16) (fs := [some none, some none, some none, some none, some none]) 72 (sh' := (pt 73 [(0, .inl (8, [some (some 1), some none, some none, some none, some none, some none, none])), (17, .inl (2, [some none, none, none])), (18, .inr (.inr [some 19, some 35, some 51, none])), (67, .inl (0, [some (some 68), some none, some none, some none, some none])), (72, .inl (5, [some none, some none, some none, some none, some none]))])) dX0_init_16 kX5 kl_RX0_18 ki_RX5 kn_RX5 rfl (fun j hj => by rcases (by omega : j = 0 ∨ j = 1 ∨ j = 2 ∨ j = 3 ∨ j = 4) with rfl | rfl | rfl | rfl | rfl <;> rfl) (by simp) (by decide +kernel) (by decide +kernel) (by decide +kernel) (by decide +kernel) (by decide +kernel) (by decide +kernel) ?_
  refine ai_dup (pc := 19) dX0_init_19 ?_
  refine ai_invI (pc := 20) dX0_init_20 mi_RX0_20 (iX5_init_72 _) (by decide) (by decide) (by decide) (by decide +kernel) (by decide +kernel) (by decide +kernel) (by decide +kernel) (fun m2 c2 => ?_)
  refine ai_putR (pc := 23) (fs := [some (some 68), some none, some none, some none, some none]) (sh' := (pt 78 [(0, .inl (8, [some (some 1), some none, some none, some none, some none, some none, none])), (17, .inl (2, [some none, none, none])), (18, .inr (.inr [some 19, some 35, some 51, none])), (67, .inl (0, [some (some 68), some (some 72), some none, some none, some none]))])) dX0_init_23 rfl ff_RX0_21 (by decide +kernel) (by decide +kernel) (by decide +kernel) ?_
  refine ai_ald_0 (pc := 26) dX0_init_26 ?_
  refine ai_new (pc := 27) (fs := [some none, some none]) 78 (sh' := (pt 79 [(0, .inl (8, [some (some 1), some none, some none, some none, some none, some none, none])), (17, .inl (2, [some none, none, none])), (18, .inr (.inr [some 19, some 35, some 51, none])), (67, .inl (0, [some (some 68), some (some 72), some none, some none, some none])), (78, .inl (7, [some none, some none]))])) dX0_init_27 kX7 kl_RX0_25 ki_RX7 kn_RX7 rfl (fun j hj => by rcases (by omega : j = 0 ∨ j = 1) with rfl | rfl <;> rfl) (by simp) (by decide +kernel) (by decide +kernel) (by decide +kernel) (by decide +kernel) (by decide +kernel) (by decide +kernel) ?_
  refine ai_dup (pc := 30) dX0_init_30 ?_
  refine ai_invI (pc := 31) dX0_init_31 mi_RX0_27 (iX7_init_78 _) (by decide) (by decide) (by decide) (by decide +kernel) (by decide +kernel) (by decide +kernel) (by decide +kernel) (fun m3 c3 => ?_)
  refine ai_putR (pc := 34) (fs := [some (some 68), some (some 72), some none, some none, some none]) (sh' := (pt 81 [(0, .inl (8, [some (some 1), some none, some none, some none, some none, some none, none])), (17, .inl (2, [some none, none, none])), (18, .inr (.inr [some 19, some 35, some 51, none])), (67, .inl (0, [some (some 68), some (some 72), some (some 78), some none, some none]))])) dX0_init_34 rfl ff_RX0_28 (by decide +kernel) (by decide +kernel) (by decide +kernel) ?_
  refine ai_ald_0 (pc := 37) dX0_init_37 ?_
  refine ai_const (pc := 38) dX0_init_38 ?_
  refine ai_newarr (pc := 39) (N := 3) 81 (sh' := (pt 82 [(0, .inl (8, [some (some 1), some none, some none, some none, some none, some none, none])), (17, .inl (2, [some none, none, none])), (18, .inr (.inr [some 19, some 35, some 51, none])), (67, .inl (0, [some (some 68), some (some 72), some (some 78), some none, some none]))])) dX0_init_39 ka_int (Or.inl ⟨rfl, rfl, rfl⟩) rfl (Nat.le_of_ble_eq_true rfl) (by decide +kernel) (by decide +kernel) (by decide +kernel) (by decide +kernel) (by decide +kernel) (by decide +kernel) ?_
  refine ai_dup (pc := 41) dX0_init_41 ?_
  refine ai_const (pc := 42) dX0_init_42 ?_
  refine ai_const (pc := 43) dX0_init_43 ?_
  refine ai_iastore (pc := 44) (n := 3) dX0_init_44 (by decide +kernel) (by decide) (by decide) (by decide) ?_
  refine ai_dup (pc := 45) dX0_init_45 ?_
  refine ai_const (pc := 46) dX0_init_46 ?_
  refine ai_const (pc := 47) dX0_init_47 ?_
  refine ai_iastore (pc := 48) (n := 3) dX0_init_48 (by decide +kernel) (by decide) (by decide) (by decide) ?_
  refine ai_dup (pc := 49) dX0_init_49 ?_
  refine ai_const (pc := 50) dX0_init_50 ?_
  refine ai_bipush (pc := 51) dX0_init_51 bp_120 ?_
  refine ai_iastore (pc := 53) (n := 3) dX0_init_53 (by decide +kernel) (by decide) (by decide) (by decide) ?_
  refine ai_putR (pc := 54) (fs := [some (some 68), some (some 72), some (some 78), some none, some none]) (sh' := (pt 82 [(0, .inl (8, [some (some 1), some none, some none, some none, some none, some none, none])), (17, .inl (2, [some none, none, none])), (18, .inr (.inr [some 19, some 35, some 51, none])), (67, .inl (0, [some (some 68), some (some 72), some (some 78), some (some 81), some none]))])) dX0_init_54 rfl ff_RX0_32 (by decide +kernel) (by decide +kernel) (by decide +kernel) ?_
  refine ai_ald_0 (pc := 57) dX0_init_57 ?_
  refine ai_bipush (pc := 58) dX0_init_58 bp_9 ?_
  refine ai_newarr (pc := 60) (N := 9) 82 (sh' := (pt 83 [(0, .inl (8, [some (some 1), some none, some none, some none, some none, some none, none])), (17, .inl (2, [some none, none, none])), (18, .inr (.inr [some 19, some 35, some 51, none])), (67, .inl (0, [some (some 68), some (some 72), some (some 78), some (some 81), some none]))])) dX0_init_60 ka_int (Or.inl ⟨rfl, rfl, rfl⟩) rfl (Nat.le_of_ble_eq_true rfl) (by decide +kernel) (by decide +kernel) (by decide +kernel) (by decide +kernel) (by decide +kernel) (by decide +kernel) ?_
  refine ai_putR (pc := 62) (fs := [some (some 68), some (some 72), some (some 78), some (some 81), some none]) (sh' := (pt 83 [(0, .inl (8, [some (some 1), some none, some none, some none, some none, some none, none])), (17, .inl (2, [some none, none, none])), (18, .inr (.inr [some 19, some 35, some 51, none]))])) dX0_init_62 rfl ff_RX0_36 (by decide +kernel) (by decide +kernel) (by decide +kernel) ?_
  refine ai_return (pc := 65) dX0_init_65 rfl (by decide +kernel) (by decide +kernel) (by decide +kernel) ?_
  exact ⟨fun k j hk => by (try simp (disch := omega) only [am_k, am_j, am_same, am_n0, am_nk]); (try rw [c3.1 _ _ (by omega)]); (try simp (disch := omega) only [am_k, am_j, am_same, am_n0, am_nk]); (try rw [c2.1 _ _ (by omega)]); (try simp (disch := omega) only [am_k, am_j, am_same, am_n0, am_nk]); (try rw [c1.1 _ _ (by omega)]); (try simp (disch := omega) only [am_k, am_j, am_same, am_n0, am_nk]), fun k j h => by
    rcases h with h | h | h | h
    · (try simp (disch := omega) only [am_k, am_j, am_same, am_n0, am_nk]); (try rw [c3.1 _ _ (by omega)]); (try simp (disch := omega) only [am_k, am_j, am_same, am_n0, am_nk]); (try rw [c2.1 _ _ (by omega)]); (try simp (disch := omega) only [am_k, am_j, am_same, am_n0, am_nk]); exact c1.2.1 k j (by omega) (by omega)
    · (try simp (disch := omega) only [am_k, am_j, am_same, am_n0, am_nk]); (try rw [c3.1 _ _ (by omega)]); (try simp (disch := omega) only [am_k, am_j, am_same, am_n0, am_nk]); exact c2.2 k j (by omega) (by omega)
    · (try simp (disch := omega) only [am_k, am_j, am_same, am_n0, am_nk]); exact c3.2 k j (by omega) (by omega)
    · subst h; simp (disch := omega) only [am_k, am_j, am_same, am_n0, am_nk], by (try simp (disch := omega) only [am_k, am_j, am_same, am_n0, am_nk]); (try rw [c3.1 _ _ (by omega)]); (try simp (disch := omega) only [am_k, am_j, am_same, am_n0, am_nk]); (try rw [c2.1 _ _ (by omega)]); (try simp (disch := omega) only [am_k, am_j, am_same, am_n0, am_nk]); exact c1.2.2, by simp (disch := omega) only [am_k, am_j, am_same, am_n0, am_nk], by simp (disch := omega) only [am_k, am_j, am_same, am_n0, am_nk], by simp (disch := omega) only [am_k, am_j, am_same, am_n0, am_nk]⟩

set_option maxHeartbeats 4000000 in
theorem iX2_init_17 (m : AM) : CI 3 mX2_init 65 660 [.inr 17] (pt 18 [(0, .inl (8, [some (some 1), some none, some none, some none, some none, some none, none])), (17, .inl (2, [some none, none, none]))]) m (pt 83 [(0, .inl (8, [some (some 1), some none, some none, some none, some none, some none, none]))]) (fun m' => (∀ (k : Nat) (j : Int), k < 17 → m' k j = m k j) ∧ m' 17 1 = 0 ∧ m' 17 2 = 0) := by
  refine ci_of (nc := 83) (ns := 834) (by decide +kernel) (Nat.le_of_ble_eq_true rfl) (by decide +kernel) (by decide +kernel) rfl ?_
  refine ai_ald_0 (pc := 0) dX2_init_0 ?_
  refine ai_objInit (pc := 1) dX2_init_1 ol_RX2_3 (by decide) (by decide) ?_
  refine ai_ald_0 (pc := 4) dX2_init_4 ?_
  refine ai_const (pc := 5) dX2_init_5 ?_
  refine ai_anew (pc := 6) (N := 4) 18 (sh' := (pt 19 [(0, .inl (8, [some (some 1), some none, some none, some none, some none, some none, none])), (17, .inl (2, [some none, none, none])), (18, .inr (.inr [none, none, none, none]))])) dX2_init_6 kl_RX2_9 rfl (Nat.le_of_ble_eq_true rfl) (by decide +kernel) (by decide +kernel) (by decide +kernel) (by decide +kernel) (by decide +kernel) (by decide +kernel) ?_
  refine ai_dup (pc := 9) dX2_init_9 ?_
  refine ai_const (pc := 10) dX2_init_10 ?_
  refine ai_new (pc := 11) (fs := [some none, some none, some none, some none, some none]) 19 (sh' := (pt 20 [(0, .inl (8, [some (some 1), some none, some none, some none, some none, some none, none])), (17, .inl (2, [some none, none, none])), (18, .inr (.inr [none, none, none, none])), (19, .inl (0, [some none, some none, some none, some none, some none]))])) dX2_init_11 kX0 kl_RX2_9 ki_RX0 kn_RX0 rfl (fun j hj => by rcases (by omega : j = 0 ∨ j = 1 ∨ j = 2 ∨ j = 3 ∨ j = 4) with rfl | rfl | rfl | rfl | rfl <;> rfl) (by simp) (by decide +kernel) (by decide +kernel) (by decide +kernel) (by decide +kernel) (by decide +kernel) (by decide +kernel) ?_
  refine ai_dup (pc := 14) dX2_init_14 ?_
  refine ai_invI (pc := 15) dX2_init_15 mi_RX2_11 (iX0_init_19 _) (by decide) (by decide) (by decide) (by decide +kernel) (by decide +kernel) (by decide +kernel) (by decide +kernel) (fun m1 c1 => ?_)
  refine ai_aastore (pc := 18) (rs := [none, none, none, none]) (qc := 0) (fs := [some (some 20), some (some 24), some (some 30), some (some 33), some (some 34)]) (sh' := (pt 35 [(0, .inl (8, [some (some 1), some none, some none, some none, some none, some none, none])), (17, .inl (2, [some none, none, none])), (18, .inr (.inr [some 19, none, none, none]))])) dX2_init_18 (by decide +kernel) (by decide) (by decide) (by decide) (by decide +kernel) rfl (by decide +kernel) ?_
  refine ai_dup (pc := 19) dX2_init_19 ?_
  refine ai_const (pc := 20) dX2_init_20 ?_
  refine ai_new (pc := 21) (fs := [some none, some none, some none, some none, some none]) 35 (sh' := (pt 36 [(0, .inl (8, [some (some 1), some none, some none, some none, some none, some none, none])), (17, .inl (2, [some none, none, none])), (18, .inr (.inr [some 19, none, none, none])), (35, .inl (0, [some none, some none, some none, some none, some none]))])) dX2_init_21 kX0 kl_RX2_9 ki_RX0 kn_RX0 rfl (fun j hj => by rcases (by omega : j = 0 ∨ j = 1 ∨ j = 2 ∨ j = 3 ∨ j = 4) with rfl | rfl | rfl | rfl | rfl <;> rfl) (by simp) (by decide +kernel) (by decide +kernel) (by decide +kernel) (by decide +kernel) (by decide +kernel) (by decide +kernel) ?_
  refine ai_dup (pc := 24) dX2_init_24 ?_
  refine ai_invI (pc := 25) dX2_init_25 mi_RX2_11 (iX0_init_35 _) (by decide) (by decide) (by decide) (by decide +kernel) (by decide +kernel) (by decide +kernel) (by decide +kernel) (fun m2 c2 => ?_)
  refine ai_aastore (pc := 28) (rs := [some 19, none, none, none]) (qc := 0) (fs := [some (some 36), some (some 40), some (some 46), some (some 49), some (some 50)]) (sh' := (pt 51 [(0, .inl (8, [some (some 1), some none, some none, some none, some none, some none, none])), (17, .inl (2, [some none, none, none])), (18, .inr (.inr [some 19, some 35, none, none]))])) dX2_init_28 (by decide +kernel) (by decide) (by decide) (by decide) (by decide +kernel) rfl (by decide +kernel) ?_
  refine ai_dup (pc := 29) dX2_init_29 ?_
  refine ai_const (pc := 30) dX2_init_30 ?_
  refine ai_new (pc := 31) (fs := [some none, some none, some none, some none, some none]) 51 (sh' := (pt 52 [(0, .inl (8, [some (some 1), some none, some none, some none, some none, some none, none])), (17, .inl (2, [some none, none, none])), (18, .inr (.inr [some 19, some 35, none, none])), (51, .inl (0, [some none, some none, some none, some none, some none]))])) dX2_init_31 kX0 kl_RX2_9 ki_RX0 kn_RX0 rfl (fun j hj => by rcases (by omega : j = 0 ∨ j = 1 ∨ j = 2 ∨ j = 3 ∨ j = 4) with rfl | rfl | rfl | rfl | rfl <;> rfl) (by simp) (by decide +kernel) (by decide +kernel) (by decide +kernel) (by decide +kernel) (by decide +kernel) (by decide +kernel) ?_
  refine ai_dup (pc := 34) dX2_init_34 ?_
  refine ai_invI (pc := 35) dX2_init_35 mi_RX2_11 (iX0_init_51 _) (by decide) (by decide) (by decide) (by decide +kernel) (by decide +kernel) (by decide +kernel) (by decide +kernel) (fun m3 c3 => ?_)
  refine ai_aastore (pc := 38) (rs := [some 19, some 35, none, none]) (qc := 0) (fs := [some (some 52), some (some 56), some (some 62), some (some 65), some (some 66)]) (sh' := (pt 67 [(0, .inl (8, [some (some 1), some none, some none, some none, some none, some none, none])), (17, .inl (2, [some none, none, none])), (18, .inr (.inr [some 19, some 35, some 51, none]))])) dX2_init_38 (by decide +kernel) (by decide) (by decide) (by decide) (by decide +kernel) rfl (by decide +kernel) ?_
  refine ai_dup (pc := 39) dX2_init_39 ?_
  refine ai_const (pc := 40) dX2_init_40 ?_
  refine ai_new (pc := 41) (fs := [some none, some none, some none, some none, some none]) 67 (sh' := (pt 68 [(0, .inl (8, [some (some 1), some none, some none, some none, some none, some none, none])), (17, .inl (2, [some none, none, none])), (18, .inr (.inr [some 19, some 35, some 51, none])), (67, .inl (0, [some none, some none, some none, some none, some none]))])) dX2_init_41 kX0 kl_RX2_9 ki_RX0 kn_RX0 rfl (fun j hj => by rcases (by omega : j = 0 ∨ j = 1 ∨ j = 2 ∨ j = 3 ∨ j = 4) with rfl | rfl | rfl | rfl | rfl <;> rfl) (by simp) (by decide +kernel) (by decide +kernel) (by decide +kernel) (by decide +kernel) (by decide +kernel) (by decide +kernel) ?_
  refine ai_dup (pc := 44) dX2_init_44 ?_
  refine ai_invI (pc := 45) dX2_init_45 mi_RX2_11 (iX0_init_67 _) (by decide) (by decide) (by decide) (by decide +kernel) (by decide +kernel) (by decide +kernel) (by decide +kernel) (fun m4 c4 => ?_)
  refine ai_aastore (pc := 48) (rs := [some 19, some 35, some 51, none]) (qc := 0) (fs := [some (some 68), some (some 72), some (some 78), some (some 81), some (some 82)]) (sh' := (pt 83 [(0, .inl (8, [some (some 1), some none, some none, some none, some none, some none, none])), (17, .inl (2, [some none, none, none]))])) dX2_init_48 (by decide +kernel) (by decide) (by decide) (by decide) (by decide +kernel) rfl (by decide +kernel) ?_
  refine ai_putR (pc := 49) (fs := [some none, none, none]) (sh' := (pt 83 [(0, .inl (8, [some (some 1), some none, some none, some none, some none, some none, none]))])) dX2_init_49 rfl ff_RX2_12 (by decide +kernel) (by decide +kernel) (by decide +kernel) ?_
  refine ai_ald_0 (pc := 52) dX2_init_52 ?_
  refine ai_const (pc := 53) dX2_init_53 ?_
  refine ai_putI (pc := 54) (fs := [some (some 18), none, none]) (jz := 1) dX2_init_54 fn_RX2_18 (by decide +kernel) (by decide +kernel) rfl (fun z => by cases z) ?_
  refine ai_ald_0 (pc := 57) dX2_init_57 ?_
  refine ai_const (pc := 58) dX2_init_58 ?_
  refine ai_putI (pc := 59) (fs := [some (some 18), none, none]) (jz := 2) dX2_init_59 fn_RX2_22 (by decide +kernel) (by decide +kernel) rfl (fun z => by cases z) ?_
  refine ai_return (pc := 62) dX2_init_62 rfl (by decide +kernel) (by decide +kernel) (by decide +kernel) ?_
  exact ⟨fun k j hk => by (try simp (disch := omega) only [am_k, am_j, am_same, am_n0, am_nk]); (try rw [c4.1 _ _ (by omega)]); (try simp (disch := omega) only [am_k, am_j, am_same, am_n0, am_nk]); (try rw [c3.1 _ _ (by omega)]); (try simp (disch := omega) only [am_k, am_j, am_same, am_n0, am_nk]); (try rw [c2.1 _ _ (by omega)]); (try simp (disch := omega) only [am_k, am_j, am_same, am_n0, am_nk]); (try rw [c1.1 _ _ (by omega)]); (try simp (disch := omega) only [am_k, am_j, am_same, am_n0, am_nk]), by simp (disch := omega) only [am_k, am_j, am_same, am_n0, am_nk], by simp (disch := omega) only [am_k, am_j, am_same, am_n0, am_nk]⟩

set_option maxHeartbeats 4000000 in
theorem iX1_init_83 (m : AM) : CI 1 mX1_init 1 21 [.inr 83] (pt 84 [(0, .inl (8, [some (some 1), some (some 17), some none, some none, some none, some none, none])), (83, .inl (1, [some none, none, none, none, none, none]))]) m (pt 85 [(0, .inl (8, [some (some 1), some (some 17), some none, some none, some none, some none, none]))]) (fun m' => (∀ (k : Nat) (j : Int), k < 83 → m' k j = m k j) ∧ True) := by
  refine ci_of (nc := 85) (ns := 861) (by decide +kernel) (Nat.le_of_ble_eq_true rfl) (by decide +kernel) (by decide +kernel) rfl ?_
  refine ai_ald_0 (pc := 0) dX1_init_0 ?_
  refine ai_objInit (pc := 1) dX1_init_1 ol_RX1_3 (by decide) (by decide) ?_
  refine ai_ald_0 (pc := 4) dX1_init_4 ?_
  refine ai_bipush (pc := 5) dX1_init_5 bp_21 ?_
  refine ai_newarr (pc := 7) (N := 21) 84 (sh' := (pt 85 [(0, .inl (8, [some (some 1), some (some 17), some none, some none, some none, some none, none])), (83, .inl (1, [some none, none, none, none, none, none]))])) dX1_init_7 ka_boolean (Or.inr (Or.inl ⟨rfl, rfl, rfl⟩)) rfl (Nat.le_of_ble_eq_true rfl) (by decide +kernel) (by decide +kernel) (by decide +kernel) (by decide +kernel) (by decide +kernel) (by decide +kernel) ?_
  refine ai_putR (pc := 9) (fs := [some none, none, none, none, none, none]) (sh' := (pt 85 [(0, .inl (8, [some (some 1), some (some 17), some none, some none, some none, some none, none]))])) dX1_init_9 rfl ff_RX1_9 (by decide +kernel) (by decide +kernel) (by decide +kernel) ?_
  refine ai_ald_0 (pc := 12) dX1_init_12 ?_
  refine ai_const (pc := 13) dX1_init_13 ?_
  refine ai_putI (pc := 14) (fs := [some (some 84), none, none, none, none, none]) (jz := 1) dX1_init_14 fn_RX1_15 (by decide +kernel) (by decide +kernel) rfl (fun z => by cases z) ?_
  refine ai_ald_0 (pc := 17) dX1_init_17 ?_
  refine ai_const (pc := 18) dX1_init_18 ?_
  refine ai_putI (pc := 19) (fs := [some (some 84), none, none, none, none, none]) (jz := 2) dX1_init_19 fn_RX1_19 (by decide +kernel) (by decide +kernel) rfl (fun z => by cases z) ?_
  refine ai_ald_0 (pc := 22) dX1_init_22 ?_
  refine ai_const (pc := 23) dX1_init_23 ?_
  refine ai_putI (pc := 24) (fs := [some (some 84), none, none, none, none, none]) (jz := 3) dX1_init_24 fn_RX1_22 (by decide +kernel) (by decide +kernel) rfl (fun z => by cases z) ?_
  refine ai_ald_0 (pc := 27) dX1_init_27 ?_
  refine ai_const (pc := 28) dX1_init_28 ?_
  refine ai_putI (pc := 29) (fs := [some (some 84), none, none, none, none, none]) (jz := 4) dX1_init_29 fn_RX1_25 (by decide +kernel) (by decide +kernel) rfl (fun z => by cases z) ?_
  refine ai_ald_0 (pc := 32) dX1_init_32 ?_
  refine ai_const (pc := 33) dX1_init_33 ?_
  refine ai_putI (pc := 34) (fs := [some (some 84), none, none, none, none, none]) (jz := 5) dX1_init_34 fn_RX1_28 (by decide +kernel) (by decide +kernel) rfl (fun z => by cases z) ?_
  refine ai_return (pc := 37) dX1_init_37 rfl (by decide +kernel) (by decide +kernel) (by decide +kernel) ?_
  exact ⟨fun k j hk => by (try simp (disch := omega) only [am_k, am_j, am_same, am_n0, am_nk]), trivial⟩

set_option maxHeartbeats 4000000 in
theorem iX5_init_85 (m : AM) : CI 1 mX5_init 5 76 [.inr 85] (pt 86 [(0, .inl (8, [some (some 1), some (some 17), some (some 83), some none, some none, some none, none])), (85, .inl (5, [some none, some none, some none, some none, some none]))]) m (pt 91 [(0, .inl (8, [some (some 1), some (some 17), some (some 83), some none, some none, some none, none]))]) (fun m' => (∀ (k : Nat) (j : Int), k < 85 → m' k j = m k j) ∧ (∀ (k : Nat) (j : Int), 85 < k → k ≤ 90 → m' k j = 0)) := by
  refine ci_of (nc := 91) (ns := 942) (by decide +kernel) (Nat.le_of_ble_eq_true rfl) (by decide +kernel) (by decide +kernel) rfl ?_
  refine ai_ald_0 (pc := 0) dX5_init_0 ?_
  refine ai_objInit (pc := 1) dX5_init_1 ol_RX5_3 (by decide) (by decide) ?_
  refine ai_ald_0 (pc := 4) dX5_init_4 ?_
  refine ai_bipush (pc := 5) dX5_init_5 bp_7 ?_
  refine ai_newarr (pc := 7) (N := 7) 86 (sh' := (pt 87 [(0, .inl (8, [some (some 1), some (some 17), some (some 83), some none, some none, some none, none])), (85, .inl (5, [some none, some none, some none, some none, some none]))])) dX5_init_7 ka_int (Or.inl ⟨rfl, rfl, rfl⟩) rfl (Nat.le_of_ble_eq_true rfl) (by decide +kernel) (by decide +kernel) (by decide +kernel) (by decide +kernel) (by decide +kernel) (by decide +kernel) ?_
  refine ai_putR (pc := 9) (fs := [some none, some none, some none, some none, some none]) (sh' := (pt 87 [(0, .inl (8, [some (some 1), some (some 17), some (some 83), some none, some none, some none, none])), (85, .inl (5, [some (some 86), some none, some none, some none, some none]))])) dX5_init_9 rfl ff_RX5_9 (by decide +kernel) (by decide +kernel) (by decide +kernel) ?_
  refine ai_ald_0 (pc := 12) dX5_init_12 ?_
  refine ai_bipush (pc := 13) dX5_init_13 bp_21 ?_
  refine ai_newarr (pc := 15) (N := 21) 87 (sh' := (pt 88 [(0, .inl (8, [some (some 1), some (some 17), some (some 83), some none, some none, some none, none])), (85, .inl (5, [some (some 86), some none, some none, some none, some none]))])) dX5_init_15 ka_int (Or.inl ⟨rfl, rfl, rfl⟩) rfl (Nat.le_of_ble_eq_true rfl) (by decide +kernel) (by decide +kernel) (by decide +kernel) (by decide +kernel) (by decide +kernel) (by decide +kernel) ?_
  refine ai_putR (pc := 17) (fs := [some (some 86), some none, some none, some none, some none]) (sh' := (pt 88 [(0, .inl (8, [some (some 1), some (some 17), some (some 83), some none, some none, some none, none])), (85, .inl (5, [some (some 86), some (some 87), some none, some none, some none]))])) dX5_init_17 rfl ff_RX5_15 (by decide +kernel) (by decide +kernel) (by decide +kernel) ?_
  refine ai_ald_0 (pc := 20) dX5_init_20 ?_
  refine ai_bipush (pc := 21) dX5_init_21 bp_21 ?_
  refine ai_newarr (pc := 23) (N := 21) 88 (sh' := (pt 89 [(0, .inl (8, [some (some 1), some (some 17), some (some 83), some none, some none, some none, none])), (85, .inl (5, [some (some 86), some (some 87), some none, some none, some none]))])) dX5_init_23 ka_int (Or.inl ⟨rfl, rfl, rfl⟩) rfl (Nat.le_of_ble_eq_true rfl) (by decide +kernel) (by decide +kernel) (by decide +kernel) (by decide +kernel) (by decide +kernel) (by decide +kernel) ?_
  refine ai_putR (pc := 25) (fs := [some (some 86), some (some 87), some none, some none, some none]) (sh' := (pt 89 [(0, .inl (8, [some (some 1), some (some 17), some (some 83), some none, some none, some none, none])), (85, .inl (5, [some (some 86), some (some 87), some (some 88), some none, some none]))])) dX5_init_25 rfl ff_RX5_18 (by decide +kernel) (by decide +kernel) (by decide +kernel) ?_
  refine ai_ald_0 (pc := 28) dX5_init_28 ?_
  refine ai_bipush (pc := 29) dX5_init_29 bp_21 ?_
  refine ai_newarr (pc := 31) (N := 21) 89 (sh' := (pt 90 [(0, .inl (8, [some (some 1), some (some 17), some (some 83), some none, some none, some none, none])), (85, .inl (5, [some (some 86), some (some 87), some (some 88), some none, some none]))])) dX5_init_31 ka_int (Or.inl ⟨rfl, rfl, rfl⟩) rfl (Nat.le_of_ble_eq_true rfl) (by decide +kernel) (by decide +kernel) (by decide +kernel) (by decide +kernel) (by decide +kernel) (by decide +kernel) ?_
  refine ai_putR (pc := 33) (fs := [some (some 86), some (some 87), some (some 88), some none, some none]) (sh' := (pt 90 [(0, .inl (8, [some (some 1), some (some 17), some (some 83), some none, some none, some none, none])), (85, .inl (5, [some (some 86), some (some 87), some (some 88), some (some 89), some none]))])) dX5_init_33 rfl ff_RX5_21 (by decide +kernel) (by decide +kernel) (by decide +kernel) ?_
  refine ai_ald_0 (pc := 36) dX5_init_36 ?_
  refine ai_bipush (pc := 37) dX5_init_37 bp_6 ?_
  refine ai_newarr (pc := 39) (N := 6) 90 (sh' := (pt 91 [(0, .inl (8, [some (some 1), some (some 17), some (some 83), some none, some none, some none, none])), (85, .inl (5, [some (some 86), some (some 87), some (some 88), some (some 89), some none]))])) dX5_init_39 ka_int (Or.inl ⟨rfl, rfl, rfl⟩) rfl (Nat.le_of_ble_eq_true rfl) (by decide +kernel) (by decide +kernel) (by decide +kernel) (by decide +kernel) (by decide +kernel) (by decide +kernel) ?_
  refine ai_putR (pc := 41) (fs := [some (some 86), some (some 87), some (some 88), some (some 89), some none]) (sh' := (pt 91 [(0, .inl (8, [some (some 1), some (some 17), some (some 83), some none, some none, some none, none]))])) dX5_init_41 rfl ff_RX5_24 (by decide +kernel) (by decide +kernel) (by decide +kernel) ?_
  refine ai_return (pc := 44) dX5_init_44 rfl (by decide +kernel) (by decide +kernel) (by decide +kernel) ?_
  refine ⟨fun k j hk => by (try simp (disch := omega) only [am_k, am_j, am_same, am_n0, am_nk]), fun k j h1 h2 => by
    rcases (by omega : k = 86 ∨ k = 87 ∨ k = 88 ∨ k = 89 ∨ k = 90) with rfl | rfl | rfl | rfl | rfl <;> simp (disch := omega) only [am_k, am_j, am_same, am_n0, am_nk]⟩

set_option maxHeartbeats 4000000 in
theorem iX4_init_91 (m : AM) : CI 1 mX4_init 6 4324 [.inr 91] (pt 92 [(0, .inl (8, [some (some 1), some (some 17), some (some 83), some (some 85), some none, some none, none])), (91, .inl (4, [some none, some none, some none, some none, some none, some none, none, none]))]) m (pt 98 [(0, .inl (8, [some (some 1), some (some 17), some (some 83), some (some 85), some none, some none, none]))]) (fun m' => (∀ (k : Nat) (j : Int), k < 91 → m' k j = m k j) ∧ ∀ x : Int, 0 ≤ x → x < 64 → m' 93 x = stp x) := by
  refine ci_of (nc := 98) (ns := 5274) (by decide +kernel) (Nat.le_of_ble_eq_true rfl) (by decide +kernel) (by decide +kernel) rfl ?_
  refine ai_ald_0 (pc := 0) dX4_init_0 ?_
  refine ai_objInit (pc := 1) dX4_init_1 ol_RX4_5 (by decide) (by decide) ?_
  refine ai_ald_0 (pc := 4) dX4_init_4 ?_
  refine ai_sipush (pc := 5) dX4_init_5 sp_4096 ?_
  refine ai_newarr (pc := 8) (N := 4096) 92 (sh' := (pt 93 [(0, .inl (8, [some (some 1), some (some 17), some (some 83), some (some 85), some none, some none, none])), (91, .inl (4, [some none, some none, some none, some none, some none, some none, none, none]))])) dX4_init_8 ka_int (Or.inl ⟨rfl, rfl, rfl⟩) rfl (Nat.le_of_ble_eq_true rfl) (by decide +kernel) (by decide +kernel) (by decide +kernel) (by decide +kernel) (by decide +kernel) (by decide +kernel) ?_
  refine ai_putR (pc := 10) (fs := [some none, some none, some none, some none, some none, some none, none, none]) (sh' := (pt 93 [(0, .inl (8, [some (some 1), some (some 17), some (some 83), some (some 85), some none, some none, none])), (91, .inl (4, [some (some 92), some none, some none, some none, some none, some none, none, none]))])) dX4_init_10 rfl ff_RX4_11 (by decide +kernel) (by decide +kernel) (by decide +kernel) ?_
  refine ai_ald_0 (pc := 13) dX4_init_13 ?_
  refine ai_bipush (pc := 14) dX4_init_14 bp_64 ?_
  refine ai_newarr (pc := 16) (N := 64) 93 (sh' := (pt 94 [(0, .inl (8, [some (some 1), some (some 17), some (some 83), some (some 85), some none, some none, none])), (91, .inl (4, [some (some 92), some none, some none, some none, some none, some none, none, none]))])) dX4_init_16 ka_int (Or.inl ⟨rfl, rfl, rfl⟩) rfl (Nat.le_of_ble_eq_true rfl) (by decide +kernel) (by decide +kernel) (by decide +kernel) (by decide +kernel) (by decide +kernel) (by decide +kernel) ?_
  refine ai_putR (pc := 18) (fs := [some (some 92), some none, some none, some none, some none, some none, none, none]) (sh' := (pt 94 [(0, .inl (8, [some (some 1), some (some 17), some (some 83), some (some 85), some none, some none, none])), (91, .inl (4, [some (some 92), some (some 93), some none, some none, some none, some none, none, none]))])) dX4_init_18 rfl ff_RX4_15 (by decide +kernel) (by decide +kernel) (by decide +kernel) ?_
  refine ai_ald_0 (pc := 21) dX4_init_21 ?_
  refine ai_bipush (pc := 22) dX4_init_22 bp_64 ?_
  refine ai_newarr (pc := 24) (N := 64) 94 (sh' := (pt 95 [(0, .inl (8, [some (some 1), some (some 17), some (some 83), some (some 85), some none, some none, none])), (91, .inl (4, [some (some 92), some (some 93), some none, some none, some none, some none, none, none]))])) dX4_init_24 ka_int (Or.inl ⟨rfl, rfl, rfl⟩) rfl (Nat.le_of_ble_eq_true rfl) (by decide +kernel) (by decide +kernel) (by decide +kernel) (by decide +kernel) (by decide +kernel) (by decide +kernel) ?_
  refine ai_putR (pc := 26) (fs := [some (some 92), some (some 93), some none, some none, some none, some none, none, none]) (sh' := (pt 95 [(0, .inl (8, [some (some 1), some (some 17), some (some 83), some (some 85), some none, some none, none])), (91, .inl (4, [some (some 92), some (some 93), some (some 94), some none, some none, some none, none, none]))])) dX4_init_26 rfl ff_RX4_18 (by decide +kernel) (by decide +kernel) (by decide +kernel) ?_
  refine ai_ald_0 (pc := 29) dX4_init_29 ?_
  refine ai_bipush (pc := 30) dX4_init_30 bp_64 ?_
  refine ai_newarr (pc := 32) (N := 64) 95 (sh' := (pt 96 [(0, .inl (8, [some (some 1), some (some 17), some (some 83), some (some 85), some none, some none, none])), (91, .inl (4, [some (some 92), some (some 93), some (some 94), some none, some none, some none, none, none]))])) dX4_init_32 ka_int (Or.inl ⟨rfl, rfl, rfl⟩) rfl (Nat.le_of_ble_eq_true rfl) (by decide +kernel) (by decide +kernel) (by decide +kernel) (by decide +kernel) (by decide +kernel) (by decide +kernel) ?_
  refine ai_putR (pc := 34) (fs := [some (some 92), some (some 93), some (some 94), some none, some none, some none, none, none]) (sh' := (pt 96 [(0, .inl (8, [some (some 1), some (some 17), some (some 83), some (some 85), some none, some none, none])), (91, .inl (4, [some (some 92), some (some 93), some (some 94), some (some 95), some none, some none, none, none]))])) dX4_init_34 rfl ff_RX4_21 (by decide +kernel) (by decide +kernel) (by decide +kernel) ?_
  refine ai_ald_0 (pc := 37) dX4_init_37 ?_
  refine ai_bipush (pc := 38) dX4_init_38 bp_18 ?_
  refine ai_newarr (pc := 40) (N := 18) 96 (sh' := (pt 97 [(0, .inl (8, [some (some 1), some (some 17), some (some 83), some (some 85), some none, some none, none])), (91, .inl (4, [some (some 92), some (some 93), some (some 94), some (some 95), some none, some none, none, none]))])) dX4_init_40 ka_int (Or.inl ⟨rfl, rfl, rfl⟩) rfl (Nat.le_of_ble_eq_true rfl) (by decide +kernel) (by decide +kernel) (by decide +kernel) (by decide +kernel) (by decide +kernel) (by decide +kernel) ?_
  refine ai_putR (pc := 42) (fs := [some (some 92), some (some 93), some (some 94), some (some 95), some none, some none, none, none]) (sh' := (pt 97 [(0, .inl (8, [some (some 1), some (some 17), some (some 83), some (some 85), some none, some none, none])), (91, .inl (4, [some (some 92), some (some 93), some (some 94), some (some 95), some (some 96), some none, none, none]))])) dX4_init_42 rfl ff_RX4_24 (by decide +kernel) (by decide +kernel) (by decide +kernel) ?_
  refine ai_ald_0 (pc := 45) dX4_init_45 ?_
  refine ai_bipush (pc := 46) dX4_init_46 bp_18 ?_
  refine ai_newarr (pc := 48) (N := 18) 97 (sh' := (pt 98 [(0, .inl (8, [some (some 1), some (some 17), some (some 83), some (some 85), some none, some none, none])), (91, .inl (4, [some (some 92), some (some 93), some (some 94), some (some 95), some (some 96), some none, none, none]))])) dX4_init_48 ka_int (Or.inl ⟨rfl, rfl, rfl⟩) rfl (Nat.le_of_ble_eq_true rfl) (by decide +kernel) (by decide +kernel) (by decide +kernel) (by decide +kernel) (by decide +kernel) (by decide +kernel) ?_
  refine ai_putR (pc := 50) (fs := [some (some 92), some (some 93), some (some 94), some (some 95), some (some 96), some none, none, none]) (sh' := (pt 98 [(0, .inl (8, [some (some 1), some (some 17), some (some 83), some (some 85), some none, some none, none]))])) dX4_init_50 rfl ff_RX4_27 (by decide +kernel) (by decide +kernel) (by decide +kernel) ?_
  refine ai_ald_0 (pc := 53) dX4_init_53 ?_
  refine ai_const (pc := 54) dX4_init_54 ?_
  refine ai_putI (pc := 55) (fs := [some (some 92), some (some 93), some (some 94), some (some 95), some (some 96), some (some 97), none, none]) (jz := 6) dX4_init_55 fn_RX4_30 (by decide +kernel) (by decide +kernel) rfl (fun z => by cases z) ?_
  refine ai_ald_0 (pc := 58) dX4_init_58 ?_
  refine ai_const (pc := 59) dX4_init_59 ?_
  refine ai_putI (pc := 60) (fs := [some (some 92), some (some 93), some (some 94), some (some 95), some (some 96), some (some 97), none, none]) (jz := 7) dX4_init_60 fn_RX4_34 (by decide +kernel) (by decide +kernel) rfl (fun _ => by decide) ?_
  refine ai_const (pc := 63) dX4_init_63 ?_
  refine ai_ist_1 (pc := 64) dX4_init_64 (by decide) ?_
  have outer : ∀ n : Nat, ∀ (s : Nat) (mi : AM), s + n = 64 → 1 ≤ s → (∀ (k : Nat) (j : Int), k < 91 → mi k j = m k j) → (∀ x : Int, 0 ≤ x → x < 64 → (x < s → mi 93 x = stp x) ∧ (¬ x < s → mi 93 x = 0)) → ∀ o : Option AV, AI 1 98 5274 mX4_init 65 [some (.inr 91), some (.inl (s : Int)), o] [] (pt 98 [(0, .inl (8, [some (some 1), some (some 17), some (some 83), some (some 85), some none, some none, none]))]) mi (pt 98 [(0, .inl (8, [some (some 1), some (some 17), some (some 83), some (some 85), some none, some none, none]))]) (fun m' => (∀ (k : Nat) (j : Int), k < 91 → m' k j = m k j) ∧ ∀ x : Int, 0 ≤ x → x < 64 → m' 93 x = stp x) := by
    intro n
    induction n with
    | zero =>
      intro s mi hs h1 u1 u2 o
      obtain rfl : s = 64 := by omega
      refine ai_ild_1 (pc := 65) dX4_init_65 ?_
      refine ai_bipush (pc := 66) dX4_init_66 bp_64 ?_
      refine ai_icmp_ge (pc := 68) 113 dX4_init_68 rfl ⟨by omega, by omega⟩ ⟨by omega, by omega⟩ (fun c68 => ?_) (fun c68 => by omega)
      exact ai_return (pc := 113) dX4_init_113 rfl (by decide +kernel) (by decide +kernel) rfl ⟨u1, fun x a b => (u2 x a b).1 (by omega)⟩
    | succ n ih =>
      intro s mi hs h1 u1 u2 o
      refine ai_ild_1 (pc := 65) dX4_init_65 ?_
      refine ai_bipush (pc := 66) dX4_init_66 bp_64 ?_
      refine ai_icmp_ge (pc := 68) 113 dX4_init_68 rfl ⟨by omega, by omega⟩ ⟨by omega, by omega⟩ (fun c68 => by omega) (fun c68 => ?_)
      refine ai_const (pc := 71) dX4_init_71 ?_
      refine ai_ist_2 (pc := 72) dX4_init_72 (by decide) ?_
      have inner : ∀ n2 : Nat, ∀ (f : Nat) (mj : AM), f + n2 = 6 → (∀ (k : Nat) (j : Int), k < 91 → mj k j = m k j) → (∀ x : Int, 0 ≤ x → x < 64 → (x < s → mj 93 x = stp x) ∧ (x = s → mj 93 x = accL (nxG s) 0 f) ∧ (s < x → mj 93 x = 0)) → AI 1 98 5274 mX4_init 73 [some (.inr 91), some (.inl (s : Int)), some (.inl (f : Int))] [] (pt 98 [(0, .inl (8, [some (some 1), some (some 17), some (some 83), some (some 85), some none, some none, none]))]) mj (pt 98 [(0, .inl (8, [some (some 1), some (some 17), some (some 83), some (some 85), some none, some none, none]))]) (fun m' => (∀ (k : Nat) (j : Int), k < 91 → m' k j = m k j) ∧ ∀ x : Int, 0 ≤ x → x < 64 → m' 93 x = stp x) := by
        intro n2
        induction n2 with
        | zero =>
          intro f mj hf v1 v2
          obtain rfl : f = 6 := by omega
          refine ai_ild_2 (pc := 73) dX4_init_73 ?_
          refine ai_bipush (pc := 74) dX4_init_74 bp_6 ?_
          refine ai_icmp_ge (pc := 76) 107 dX4_init_76 rfl ⟨by omega, by omega⟩ ⟨by omega, by omega⟩ (fun c76 => ?_) (fun c76 => by omega)
          refine ai_iinc_1 (pc := 107) dX4_init_107 (by decide) ?_
          refine ai_goto (pc := 110) 65 dX4_init_110 rfl ?_
          have e : ((s : Int) + 1) = ((s + 1 : Nat) : Int) := by omega
          rw [e]
          refine ih (s + 1) mj (by omega) (by omega) v1 (fun x a b => ⟨fun z => ?_, fun z => (v2 x a b).2.2 (by omega)⟩) _
          by_cases ex : x = s
          · rw [(v2 x a b).2.1 ex, nx_6, ex]; omega
          · exact (v2 x a b).1 (by omega)
        | succ n2 jh =>
          intro f mj hf v1 v2
          refine ai_ild_2 (pc := 73) dX4_init_73 ?_
          refine ai_bipush (pc := 74) dX4_init_74 bp_6 ?_
          refine ai_icmp_ge (pc := 76) 107 dX4_init_76 rfl ⟨by omega, by omega⟩ ⟨by omega, by omega⟩ (fun c76 => by omega) (fun c76 => ?_)
          refine ai_ild_1 (pc := 79) dX4_init_79 ?_
          refine ai_const (pc := 80) dX4_init_80 ?_
          refine ai_ild_2 (pc := 81) dX4_init_81 ?_
          refine ai_ishl (pc := 82) dX4_init_82 ?_
          rw [shl_i (by omega) (by omega)]
          refine ai_iand (pc := 83) dX4_init_83 ?_
          have hb := bt2_i (x := s) (f := f) (by omega) (by omega) (by omega) (by omega)
          have e1 : ((f : Int) + 1) = ((f + 1 : Nat) : Int) := by omega
          have hbt := bt_bd s f
          refine ai_if_eq (pc := 84) 101 dX4_init_84 rfl ⟨by omega, by omega⟩ (fun c84 => ?_) (fun c84 => ?_)
          · refine ai_iinc_2 (pc := 101) dX4_init_101 (by decide) ?_
            refine ai_goto (pc := 104) 73 dX4_init_104 rfl ?_
            rw [e1]
            refine jh (f + 1) mj (by omega) v1 (fun x a b => ⟨(v2 x a b).1, fun z => ?_, (v2 x a b).2.2⟩)
            rw [(v2 x a b).2.1 z, accL_succ]; simp only [nxG]
            rw [if_neg (by have := hb.1.1 c84; omega)]
          · refine ai_ald_0 (pc := 87) dX4_init_87 ?_
            refine ai_getR (pc := 88) (fs := [some (some 92), some (some 93), some (some 94), some (some 95), some (some 96), some (some 97), none, none]) dX4_init_88 fl_RX4_15 (by decide +kernel) rfl ?_
            refine ai_ild_1 (pc := 91) dX4_init_91 ?_
            refine ai_dup2 (pc := 92) dX4_init_92 ?_
            refine ai_iaload (pc := 93) (n := 64) dX4_init_93 (by decide +kernel) (by omega) (by omega) (by decide) ?_
            refine ai_const (pc := 94) dX4_init_94 ?_
            refine ai_const (pc := 95) dX4_init_95 ?_
            refine ai_ild_2 (pc := 96) dX4_init_96 ?_
            refine ai_imul (pc := 97) dX4_init_97 ?_
            refine ai_ishl (pc := 98) dX4_init_98 ?_
            rw [shl2_i (by omega) (by omega)]
            refine ai_iadd (pc := 99) dX4_init_99 ?_
            refine ai_iastore (pc := 100) (n := 64) dX4_init_100 (by decide +kernel) (by omega) (by omega) (by decide) ?_
            refine ai_iinc_2 (pc := 101) dX4_init_101 (by decide) ?_
            refine ai_goto (pc := 104) 73 dX4_init_104 rfl ?_
            rw [e1]
            refine jh (f + 1) _ (by omega) (fun k j hk => by rw [am_k (by omega)]; exact v1 k j hk) (fun x a b => ⟨fun z => by rw [am_j (by omega)]; exact (v2 x a b).1 z, fun z => ?_, fun z => by rw [am_j (by omega)]; exact (v2 x a b).2.2 z⟩)
            subst z
            rw [am_same, (v2 _ a b).2.1 rfl, accL_succ]; simp only [nxG]
            rw [if_pos (by have : bt (s : Int) f ≠ 0 := fun z => c84 (hb.1.2 z); omega)]
      refine inner 6 0 mi rfl u1 (fun x a b => ⟨(u2 x a b).1, fun z => ?_, fun z => (u2 x a b).2 (by omega)⟩)
      rw [(u2 x a b).2 (by omega)]; rfl
  refine outer 63 1 _ rfl (by omega) (fun k j hk => by simp (disch := omega) only [am_k, am_j, am_same, am_n0, am_nk]) (fun x a b => ⟨fun z => ?_, fun z => ?_⟩) none
  · obtain rfl : x = 0 := by omega
    simp (disch := omega) only [am_k, am_j, am_same, am_n0, am_nk]; rfl
  · simp (disch := omega) only [am_k, am_j, am_same, am_n0, am_nk]

set_option maxHeartbeats 4000000 in
theorem iX6_init_98 (m : AM) : CI 1 mX6_init 1 80 [.inr 98] (pt 99 [(0, .inl (8, [some (some 1), some (some 17), some (some 83), some (some 85), some (some 91), some none, none])), (98, .inl (6, [some none, none, none, none]))]) m (pt 100 [(0, .inl (8, [some (some 1), some (some 17), some (some 83), some (some 85), some (some 91), some none, none]))]) (fun m' => (∀ (k : Nat) (j : Int), k < 98 → m' k j = m k j) ∧ m' 98 1 = 0) := by
  refine ci_of (nc := 100) (ns := 5358) (by decide +kernel) (Nat.le_of_ble_eq_true rfl) (by decide +kernel) (by decide +kernel) rfl ?_
  refine ai_ald_0 (pc := 0) dX6_init_0 ?_
  refine ai_objInit (pc := 1) dX6_init_1 ol_RX6_3 (by decide) (by decide) ?_
  refine ai_ald_0 (pc := 4) dX6_init_4 ?_
  refine ai_bipush (pc := 5) dX6_init_5 bp_80 ?_
  refine ai_newarr (pc := 7) (N := 80) 99 (sh' := (pt 100 [(0, .inl (8, [some (some 1), some (some 17), some (some 83), some (some 85), some (some 91), some none, none])), (98, .inl (6, [some none, none, none, none]))])) dX6_init_7 ka_char (Or.inr (Or.inr ⟨rfl, rfl, rfl⟩)) rfl (Nat.le_of_ble_eq_true rfl) (by decide +kernel) (by decide +kernel) (by decide +kernel) (by decide +kernel) (by decide +kernel) (by decide +kernel) ?_
  refine ai_putR (pc := 9) (fs := [some none, none, none, none]) (sh' := (pt 100 [(0, .inl (8, [some (some 1), some (some 17), some (some 83), some (some 85), some (some 91), some none, none]))])) dX6_init_9 rfl ff_RX6_9 (by decide +kernel) (by decide +kernel) (by decide +kernel) ?_
  refine ai_ald_0 (pc := 12) dX6_init_12 ?_
  refine ai_const (pc := 13) dX6_init_13 ?_
  refine ai_putI (pc := 14) (fs := [some (some 99), none, none, none]) (jz := 1) dX6_init_14 fn_RX6_15 (by decide +kernel) (by decide +kernel) rfl (fun z => by cases z) ?_
  refine ai_ald_0 (pc := 17) dX6_init_17 ?_
  refine ai_const (pc := 18) dX6_init_18 ?_
  refine ai_putI (pc := 19) (fs := [some (some 99), none, none, none]) (jz := 2) dX6_init_19 fn_RX6_19 (by decide +kernel) (by decide +kernel) rfl (fun z => by cases z) ?_
  refine ai_ald_0 (pc := 22) dX6_init_22 ?_
  refine ai_const (pc := 23) dX6_init_23 ?_
  refine ai_putI (pc := 24) (fs := [some (some 99), none, none, none]) (jz := 3) dX6_init_24 fn_RX6_22 (by decide +kernel) (by decide +kernel) rfl (fun z => by cases z) ?_
  refine ai_return (pc := 27) dX6_init_27 rfl (by decide +kernel) (by decide +kernel) (by decide +kernel) ?_
  exact ⟨fun k j hk => by (try simp (disch := omega) only [am_k, am_j, am_same, am_n0, am_nk]), by simp (disch := omega) only [am_k, am_j, am_same, am_n0, am_nk]⟩

set_option maxHeartbeats 4000000 in
theorem iX8_init_0 (m : AM) : CI 4 mX8_init 99 5351 [.inr 0] (pt 1 [(0, .inl (8, [some none, some none, some none, some none, some none, some none, none]))]) m (pt 100 []) (fun m' => (∀ (k : Nat) (j : Int), (3 ≤ k ∧ k ≤ 5) ∨ (7 ≤ k ∧ k ≤ 11) ∨ (13 ≤ k ∧ k ≤ 14) ∨ k = 16 → m' k j = 0) ∧ m' 2 3 = 0 ∧ m' 15 0 = 3 ∧ m' 15 1 = 2 ∧ m' 15 2 = 120 ∧ m' 17 1 = 0 ∧ m' 17 2 = 0 ∧ (∀ x : Int, 0 ≤ x → x < 64 → m' 93 x = stp x) ∧ m' 98 1 = 0 ∧ m' 0 6 = 1) := by
  refine ci_of (nc := 100) (ns := 5358) (by decide +kernel) (Nat.le_of_ble_eq_true rfl) (by decide +kernel) (by decide +kernel) rfl ?_
  refine ai_ald_0 (pc := 0) dX8_init_0 ?_
  refine ai_objInit (pc := 1) dX8_init_1 ol_RX8_1 (by decide) (by decide) ?_
  refine ai_ald_0 (pc := 4) dX8_init_4 ?_
  refine ai_new (pc := 5) (fs := [some none, some none, some none, some none, some none]) 1 (sh' := (pt 2 [(0, .inl (8, [some none, some none, some none, some none, some none, some none, none])), (1, .inl (0, [some none, some none, some none, some none, some none]))])) dX8_init_5 kX0 kl_RX8_7 ki_RX0 kn_RX0 rfl (fun j hj => by rcases (by omega : j = 0 ∨ j = 1 ∨ j = 2 ∨ j = 3 ∨ j = 4) with rfl | rfl | rfl | rfl | rfl <;> rfl) (by simp) (by decide +kernel) (by decide +kernel) (by decide +kernel) (by decide +kernel) (by decide +kernel) (by decide +kernel) ?_
  refine ai_dup (pc := 8) dX8_init_8 ?_
  refine ai_invI (pc := 9) dX8_init_9 mi_RX8_9 (iX0_init_1 _) (by decide) (by decide) (by decide) (by decide +kernel) (by decide +kernel) (by decide +kernel) (by decide +kernel) (fun m1 c1 => ?_)
  refine ai_putR (pc := 12) (fs := [some none, some none, some none, some none, some none, some none, none]) (sh' := (pt 17 [(0, .inl (8, [some (some 1), some none, some none, some none, some none, some none, none]))])) dX8_init_12 rfl ff_RX8_10 (by decide +kernel) (by decide +kernel) (by decide +kernel) ?_
  refine ai_ald_0 (pc := 15) dX8_init_15 ?_
  refine ai_new (pc := 16) (fs := [some none, none, none]) 17 (sh' := (pt 18 [(0, .inl (8, [some (some 1), some none, some none, some none, some none, some none, none])), (17, .inl (2, [some none, none, none]))])) dX8_init_16 kX2 kl_RX8_16 ki_RX2 kn_RX2 rfl (fun j hj => by rcases (by omega : j = 0 ∨ j = 1 ∨ j = 2) with rfl | rfl | rfl <;> rfl) (by simp) (by decide +kernel) (by decide +kernel) (by decide +kernel) (by decide +kernel) (by decide +kernel) (by decide +kernel) ?_
  refine ai_dup (pc := 19) dX8_init_19 ?_
  refine ai_invI (pc := 20) dX8_init_20 mi_RX8_18 (iX2_init_17 _) (by decide) (by decide) (by decide) (by decide +kernel) (by decide +kernel) (by decide +kernel) (by decide +kernel) (fun m2 c2 => ?_)
  refine ai_putR (pc := 23) (fs := [some (some 1), some none, some none, some none, some none, some none, none]) (sh' := (pt 83 [(0, .inl (8, [some (some 1), some (some 17), some none, some none, some none, some none, none]))])) dX8_init_23 rfl ff_RX8_19 (by decide +kernel) (by decide +kernel) (by decide +kernel) ?_
  refine ai_ald_0 (pc := 26) dX8_init_26 ?_
  refine ai_new (pc := 27) (fs := [some none, none, none, none, none, none]) 83 (sh' := (pt 84 [(0, .inl (8, [some (some 1), some (some 17), some none, some none, some none, some none, none])), (83, .inl (1, [some none, none, none, none, none, none]))])) dX8_init_27 kX1 kl_RX8_23 ki_RX1 kn_RX1 rfl (fun j hj => by rcases (by omega : j = 0 ∨ j = 1 ∨ j = 2 ∨ j = 3 ∨ j = 4 ∨ j = 5) with rfl | rfl | rfl | rfl | rfl | rfl <;> rfl) (by simp) (by decide +kernel) (by decide +kernel) (by decide +kernel) (by decide +kernel) (by decide +kernel) (by decide +kernel) ?_
  refine ai_dup (pc := 30) dX8_init_30 ?_
  refine ai_invI (pc := 31) dX8_init_31 mi_RX8_25 (iX1_init_83 _) (by decide) (by decide) (by decide) (by decide +kernel) (by decide +kernel) (by decide +kernel) (by decide +kernel) (fun m3 c3 => ?_)
  refine ai_putR (pc := 34) (fs := [some (some 1), some (some 17), some none, some none, some none, some none, none]) (sh' := (pt 85 [(0, .inl (8, [some (some 1), some (some 17), some (some 83), some none, some none, some none, none]))])) dX8_init_34 rfl ff_RX8_26 (by decide +kernel) (by decide +kernel) (by decide +kernel) ?_
  refine ai_ald_0 (pc := 37) dX8_init_37 ?_
  refine ai_new (pc := 38) (fs := [some none, some none, some none, some none, some none]) 85 (sh' := (pt 86 [(0, .inl (8, [some (some 1), some (some 17), some (some 83), some none, some none, some none, none])), (85, .inl (5, [some none, some none, some none, some none, some none]))])) dX8_init_38 kX5 kl_RX8_30 ki_RX5 kn_RX5 rfl (fun j hj => by rcases (by omega : j = 0 ∨ j = 1 ∨ j = 2 ∨ j = 3 ∨ j = 4) with rfl | rfl | rfl | rfl | rfl <;> rfl) (by simp) (by decide +kernel) (by decide +kernel) (by decide +kernel) (by decide +kernel) (by decide +kernel) (by decide +kernel) ?_
  refine ai_dup (pc := 41) dX8_init_41 ?_
  refine ai_invI (pc := 42) dX8_init_42 mi_RX8_32 (iX5_init_85 _) (by decide) (by decide) (by decide) (by decide +kernel) (by decide +kernel) (by decide +kernel) (by decide +kernel) (fun m4 c4 => ?_)
  refine ai_putR (pc := 45) (fs := [some (some 1), some (some 17), some (some 83), some none, some none, some none, none]) (sh' := (pt 91 [(0, .inl (8, [some (some 1), some (some 17), some (some 83), some (some 85), some none, some none, none]))])) dX8_init_45 rfl ff_RX8_33 (by decide +kernel) (by decide +kernel) (by decide +kernel) ?_
  refine ai_ald_0 (pc := 48) dX8_init_48 ?_
  refine ai_new (pc := 49) (fs := [some none, some none, some none, some none, some none, some none, none, none]) 91 (sh' := (pt 92 [(0, .inl (8, [some (some 1), some (some 17), some (some 83), some (some 85), some none, some none, none])), (91, .inl (4, [some none, some none, some none, some none, some none, some none, none, none]))])) dX8_init_49 kX4 kl_RX8_37 ki_RX4 kn_RX4 rfl (fun j hj => by rcases (by omega : j = 0 ∨ j = 1 ∨ j = 2 ∨ j = 3 ∨ j = 4 ∨ j = 5 ∨ j = 6 ∨ j = 7) with rfl | rfl | rfl | rfl | rfl | rfl | rfl | rfl <;> rfl) (by simp) (by decide +kernel) (by decide +kernel) (by decide +kernel) (by decide +kernel) (by decide +kernel) (by decide +kernel) ?_
  refine ai_dup (pc := 52) dX8_init_52 ?_
  refine ai_invI (pc := 53) dX8_init_53 mi_RX8_39 (iX4_init_91 _) (by decide) (by decide) (by decide) (by decide +kernel) (by decide +kernel) (by decide +kernel) (by decide +kernel) (fun m5 c5 => ?_)
  refine ai_putR (pc := 56) (fs := [some (some 1), some (some 17), some (some 83), some (some 85), some none, some none, none]) (sh' := (pt 98 [(0, .inl (8, [some (some 1), some (some 17), some (some 83), some (some 85), some (some 91), some none, none]))])) dX8_init_56 rfl ff_RX8_40 (by decide +kernel) (by decide +kernel) (by decide +kernel) ?_
  refine ai_ald_0 (pc := 59) dX8_init_59 ?_
  refine ai_new (pc := 60) (fs := [some none, none, none, none]) 98 (sh' := (pt 99 [(0, .inl (8, [some (some 1), some (some 17), some (some 83), some (some 85), some (some 91), some none, none])), (98, .inl (6, [some none, none, none, none]))])) dX8_init_60 kX6 kl_RX8_44 ki_RX6 kn_RX6 rfl (fun j hj => by rcases (by omega : j = 0 ∨ j = 1 ∨ j = 2 ∨ j = 3) with rfl | rfl | rfl | rfl <;> rfl) (by simp) (by decide +kernel) (by decide +kernel) (by decide +kernel) (by decide +kernel) (by decide +kernel) (by decide +kernel) ?_
  refine ai_dup (pc := 63) dX8_init_63 ?_
  refine ai_invI (pc := 64) dX8_init_64 mi_RX8_46 (iX6_init_98 _) (by decide) (by decide) (by decide) (by decide +kernel) (by decide +kernel) (by decide +kernel) (by decide +kernel) (fun m6 c6 => ?_)
  refine ai_putR (pc := 67) (fs := [some (some 1), some (some 17), some (some 83), some (some 85), some (some 91), some none, none]) (sh' := (pt 100 [])) dX8_init_67 rfl ff_RX8_47 (by decide +kernel) (by decide +kernel) (by decide +kernel) ?_
  refine ai_ald_0 (pc := 70) dX8_init_70 ?_
  refine ai_const (pc := 71) dX8_init_71 ?_
  refine ai_putI (pc := 72) (fs := [some (some 1), some (some 17), some (some 83), some (some 85), some (some 91), some (some 98), none]) (jz := 6) dX8_init_72 fn_RX8_51 (by decide +kernel) (by decide +kernel) rfl (fun _ => by decide) ?_
  refine ai_return (pc := 75) dX8_init_75 rfl (by decide +kernel) (by decide +kernel) (by decide +kernel) ?_
  refine ⟨fun k j h => ?_, ?_, ?_, ?_, ?_, ?_, ?_, fun x a b => ?_, ?_, ?_⟩
  · (try simp (disch := omega) only [am_k, am_j, am_same, am_n0, am_nk]); (try rw [c6.1 _ _ (by omega)]); (try simp (disch := omega) only [am_k, am_j, am_same, am_n0, am_nk]); (try rw [c5.1 _ _ (by omega)]); (try simp (disch := omega) only [am_k, am_j, am_same, am_n0, am_nk]); (try rw [c4.1 _ _ (by omega)]); (try simp (disch := omega) only [am_k, am_j, am_same, am_n0, am_nk]); (try rw [c3.1 _ _ (by omega)]); (try simp (disch := omega) only [am_k, am_j, am_same, am_n0, am_nk]); (try rw [c2.1 _ _ (by omega)]); (try simp (disch := omega) only [am_k, am_j, am_same, am_n0, am_nk]); exact c1.2.1 k j (by omega)
  · (try simp (disch := omega) only [am_k, am_j, am_same, am_n0, am_nk]); (try rw [c6.1 _ _ (by omega)]); (try simp (disch := omega) only [am_k, am_j, am_same, am_n0, am_nk]); (try rw [c5.1 _ _ (by omega)]); (try simp (disch := omega) only [am_k, am_j, am_same, am_n0, am_nk]); (try rw [c4.1 _ _ (by omega)]); (try simp (disch := omega) only [am_k, am_j, am_same, am_n0, am_nk]); (try rw [c3.1 _ _ (by omega)]); (try simp (disch := omega) only [am_k, am_j, am_same, am_n0, am_nk]); (try rw [c2.1 _ _ (by omega)]); (try simp (disch := omega) only [am_k, am_j, am_same, am_n0, am_nk]); exact c1.2.2.1
  · (try simp (disch := omega) only [am_k, am_j, am_same, am_n0, am_nk]); (try rw [c6.1 _ _ (by omega)]); (try simp (disch := omega) only [am_k, am_j, am_same, am_n0, am_nk]); (try rw [c5.1 _ _ (by omega)]); (try simp (disch := omega) only [am_k, am_j, am_same, am_n0, am_nk]); (try rw [c4.1 _ _ (by omega)]); (try simp (disch := omega) only [am_k, am_j, am_same, am_n0, am_nk]); (try rw [c3.1 _ _ (by omega)]); (try simp (disch := omega) only [am_k, am_j, am_same, am_n0, am_nk]); (try rw [c2.1 _ _ (by omega)]); (try simp (disch := omega) only [am_k, am_j, am_same, am_n0, am_nk]); exact c1.2.2.2.1
  · (try simp (disch := omega) only [am_k, am_j, am_same, am_n0, am_nk]); (try rw [c6.1 _ _ (by omega)]); (try simp (disch := omega) only [am_k, am_j, am_same, am_n0, am_nk]); (try rw [c5.1 _ _ (by omega)]); (try simp (disch := omega) only [am_k, am_j, am_same, am_n0, am_nk]); (try rw [c4.1 _ _ (by omega)]); (try simp (disch := omega) only [am_k, am_j, am_same, am_n0, am_nk]); (try rw [c3.1 _ _ (by omega)]); (try simp (disch := omega) only [am_k, am_j, am_same, am_n0, am_nk]); (try rw [c2.1 _ _ (by omega)]); (try simp (disch := omega) only [am_k, am_j, am_same, am_n0, am_nk]); exact c1.2.2.2.2.1
  · (try simp (disch := omega) only [am_k, am_j, am_same, am_n0, am_nk]); (try rw [c6.1 _ _ (by omega)]); (try simp (disch := omega) only [am_k, am_j, am_same, am_n0, am_nk]); (try rw [c5.1 _ _ (by omega)]); (try simp (disch := omega) only [am_k, am_j, am_same, am_n0, am_nk]); (try rw [c4.1 _ _ (by omega)]); (try simp (disch := omega) only [am_k, am_j, am_same, am_n0, am_nk]); (try rw [c3.1 _ _ (by omega)]); (try simp (disch := omega) only [am_k, am_j, am_same, am_n0, am_nk]); (try rw [c2.1 _ _ (by omega)]); (try simp (disch := omega) only [am_k, am_j, am_same, am_n0, am_nk]); exact c1.2.2.2.2.2
  · (try simp (disch := omega) only [am_k, am_j, am_same, am_n0, am_nk]); (try rw [c6.1 _ _ (by omega)]); (try simp (disch := omega) only [am_k, am_j, am_same, am_n0, am_nk]); (try rw [c5.1 _ _ (by omega)]); (try simp (disch := omega) only [am_k, am_j, am_same, am_n0, am_nk]); (try rw [c4.1 _ _ (by omega)]); (try simp (disch := omega) only [am_k, am_j, am_same, am_n0, am_nk]); (try rw [c3.1 _ _ (by omega)]); (try simp (disch := omega) only [am_k, am_j, am_same, am_n0, am_nk]); exact c2.2.1
  · (try simp (disch := omega) only [am_k, am_j, am_same, am_n0, am_nk]); (try rw [c6.1 _ _ (by omega)]); (try simp (disch := omega) only [am_k, am_j, am_same, am_n0, am_nk]); (try rw [c5.1 _ _ (by omega)]); (try simp (disch := omega) only [am_k, am_j, am_same, am_n0, am_nk]); (try rw [c4.1 _ _ (by omega)]); (try simp (disch := omega) only [am_k, am_j, am_same, am_n0, am_nk]); (try rw [c3.1 _ _ (by omega)]); (try simp (disch := omega) only [am_k, am_j, am_same, am_n0, am_nk]); exact c2.2.2
  · (try simp (disch := omega) only [am_k, am_j, am_same, am_n0, am_nk]); (try rw [c6.1 _ _ (by omega)]); (try simp (disch := omega) only [am_k, am_j, am_same, am_n0, am_nk]); exact c5.2 x a b
  · (try simp (disch := omega) only [am_k, am_j, am_same, am_n0, am_nk]); exact c6.2
  · simp (disch := omega) only [am_k, am_j, am_same, am_n0, am_nk]

