
theorem fl_bd {T : Int → Int} {K n : Int} (hn : 0 ≤ n ∧ n ≤ 80) (k : Nat) (i a : Int) (h : i + k ≤ n) (h0 : 0 ≤ i) : (0 ≤ (fl T K n k i a).1 ∧ (fl T K n k i a).1 ≤ 80) ∧ (0 ≤ (fl T K n k i a).2 ∧ (fl T K n k i a).2 ≤ 4) := by
  induction k generalizing i a with
  | zero =>
    show (0 ≤ n ∧ n ≤ 80) ∧ (0 ≤ (if a = 0 then (0 : Int) else 4) ∧ (if a = 0 then (0 : Int) else 4) ≤ 4)
    split <;> omega
  | succ k ih =>
    by_cases z : rsn (T i) a K ≠ 0
    · have e : fl T K n (k + 1) i a = (i, rsn (T i) a K) := if_pos z
      rw [e]
      have := rsn_bd (T i) a K
      refine ⟨⟨h0, ?_⟩, this.1, ?_⟩
      · show i ≤ 80
        omega
      · show rsn (T i) a K ≤ 4
        omega
    · have e : fl T K n (k + 1) i a = fl T K n k (i + 1) (nxt (T i) a) := if_neg z
      rw [e]
      exact ih (i + 1) _ (by omega) (by omega)
theorem FR_bd (T : Int → Int) (K n : Int) (hn : 0 ≤ n ∧ n ≤ 80) : (0 ≤ (FR T K n).1 ∧ (FR T K n).1 ≤ 80) ∧ (0 ≤ (FR T K n).2 ∧ (FR T K n).2 ≤ 4) := fl_bd hn _ _ _ (by omega) (by omega)
set_option maxHeartbeats 4000000 in
theorem qX8_fault (T : Int → Int) (l w : Int) (r : Int → Int) (m : AM) (wR : wfR r) (g : agB 1 r m) (hn : 0 ≤ l ∧ l ≤ 80) (h98 : m 98 1 = l) (hT : ∀ j : Int, 0 ≤ j → j < l → m 99 j = T j ∧ 32 ≤ T j ∧ T j ≤ 126) (hw : rng w) : CS 4 mX8_fault [.inr 0, .inl w] m (fun v m' => v = some (vFault (FR T (r 0) l) w) ∧ ∀ (k : Nat) (j : Int), (k ≠ 98 ∨ (j ≠ 2 ∧ j ≠ 3)) → m' k j = m k j) := by
  refine cs_of (by decide +kernel) (Nat.le_of_ble_eq_true rfl) rfl ?_
  obtain ⟨gC, gP, gS, gW⟩ := ag1 g
  have h12 := wR.1.1
  have hm0 : m 2 3 = r 0 := gC.1
  have hm1 : 0 ≤ m 2 3 ∧ m 2 3 ≤ 12 := by rw [hm0]; exact h12
  refine ap_ild_1 (pc := 0) dX8_fault_0 ?_
  refine ap_const (pc := 1) dX8_fault_1 ?_
  refine ap_const (pc := 2) dX8_fault_2 ?_
  refine ap_invS (pc := 3) dX8_fault_3 ms_RX8_55 (av := [_, _, _]) (rest := []) (qX8_within _ _ _ _ ⟨by omega, by omega⟩ ⟨by omega, by omega⟩ ⟨by omega, by omega⟩) rfl rfl (Nat.le_of_ble_eq_true rfl) (by decide) (by decide) ?_
  rintro _ _ ⟨⟨w3, rfl⟩ | ⟨w3, rfl⟩, rfl⟩
  · skip
    refine ap_if_ne (pc := 6) 11 dX8_fault_6 rfl ⟨by omega, by omega⟩ (fun _ => ?_) (fun c6 => absurd c6 (by decide))
    refine ap_ald_0 (pc := 11) dX8_fault_11 ?_
    refine ap_getR (pc := 12) dX8_fault_12 fl_RX8_47 sh_0 rfl ?_
    refine ap_ald_0 (pc := 15) dX8_fault_15 ?_
    refine ap_getR (pc := 16) dX8_fault_16 fl_RX8_10 sh_0 rfl ?_
    refine ap_getR (pc := 19) dX8_fault_19 fl_RX8_59 sh_1 rfl ?_
    refine ap_getI (pc := 22) (jz := 3) dX8_fault_22 fl_RX8_63 sh_2 rfl rfl ?_
    refine ap_invV (pc := 25) dX8_fault_25 mv_RX8_236 sh_98 (av := [_]) (rest := []) (qX6_lookForFault T l _ _ hn h98 hT (by omega)) rfl rfl (Nat.le_of_ble_eq_true rfl) (by decide) (by decide) ?_
    rintro _ m2 ⟨rfl, ⟨l1, l2⟩, l3⟩
    rw [hm0] at l1 l2
    have hbd := FR_bd T (r 0) l hn
    refine ap_ald_0 (pc := 28) dX8_fault_28 ?_
    refine ap_getR (pc := 29) dX8_fault_29 fl_RX8_47 sh_0 rfl ?_
    refine ap_invV (pc := 32) dX8_fault_32 mv_RX8_239 sh_98 (av := []) (rest := []) (qX6_hasFault _ (by rw [l2]; constructor <;> omega)) rfl rfl (Nat.le_of_ble_eq_true rfl) (by decide) (by decide) ?_
    rintro _ _ ⟨⟨wf, rfl⟩ | ⟨wf, rfl⟩, rfl⟩
    all_goals rw [l2] at wf
    · skip
      refine ap_if_ne (pc := 35) 41 dX8_fault_35 rfl ⟨by omega, by omega⟩ (fun _ => ?_) (fun c35 => absurd c35 (by decide))
      refine ap_ild_1 (pc := 41) dX8_fault_41 ?_
      refine ap_if_ne (pc := 42) 55 dX8_fault_42 rfl ⟨by omega, by omega⟩ (fun c42 => ?_) (fun c42 => ?_)
      · skip
        refine ap_ald_0 (pc := 55) dX8_fault_55 ?_
        refine ap_getR (pc := 56) dX8_fault_56 fl_RX8_47 sh_0 rfl ?_
        refine ap_getI (pc := 59) (jz := 3) dX8_fault_59 fl_RX8_246 sh_98 rfl rfl ?_
        try simp (disch := omega) only [am_same, am_k, am_j]
        exact ap_ireturn (pc := 62) dX8_fault_62 rfl ⟨by rw [l2]; simp (disch := omega) only [vFault, if_pos, if_neg], l3⟩
      · skip
        refine ap_ald_0 (pc := 45) dX8_fault_45 ?_
        refine ap_getR (pc := 46) dX8_fault_46 fl_RX8_47 sh_0 rfl ?_
        refine ap_getI (pc := 49) (jz := 2) dX8_fault_49 fl_RX8_243 sh_98 rfl rfl ?_
        try simp (disch := omega) only [am_same, am_k, am_j]
        refine ap_goto (pc := 52) 62 dX8_fault_52 rfl ?_
        exact ap_ireturn (pc := 62) dX8_fault_62 rfl ⟨by rw [l1]; simp (disch := omega) only [vFault, if_pos, if_neg], l3⟩
    · skip
      refine ap_if_ne (pc := 35) 41 dX8_fault_35 rfl ⟨by omega, by omega⟩ (fun c35 => absurd c35 (by decide)) (fun _ => ?_)
      refine ap_bipush (pc := 38) dX8_fault_38 bp_m4 ?_
      exact ap_ireturn (pc := 40) dX8_fault_40 rfl ⟨by simp (disch := omega) only [vFault, if_pos, if_neg], l3⟩
  · skip
    refine ap_if_ne (pc := 6) 11 dX8_fault_6 rfl ⟨by omega, by omega⟩ (fun c6 => absurd c6 (by decide)) (fun _ => ?_)
    refine ap_const (pc := 9) dX8_fault_9 ?_
    exact ap_ireturn (pc := 10) dX8_fault_10 rfl ⟨by simp (disch := omega) only [vFault, if_pos, if_neg], fun _ _ _ => rfl⟩

set_option maxHeartbeats 4000000 in
theorem qX8_read (T : Int → Int) (l : Int) {n : Int} {H : Int → Int → Int} (r : Int → Int) (m : AM) (wR : wfR r) (g : agB 1 r m) (hH0 : HC n H m) (hn : 0 ≤ l ∧ l ≤ 80) (h98 : m 98 1 = l) (hT : ∀ j : Int, 0 ≤ j → j < l → m 99 j = T j ∧ 32 ≤ T j ∧ T j ≤ 126) : CS 5 mX8_read [.inr 0] m (fun v m' => v = some (if (FR T (r 0) l).2 = 0 then gA T r l.toNat else -2) ∧ (((FR T (r 0) l).2 = 0 ∧ agB 1 (wA T r l.toNat) m' ∧ HC (min (n + 1) 4) (hH n H r) m' ∧ (∀ (k : Nat) (j : Int), 85 ≤ k → (k ≠ 98 ∨ (j ≠ 2 ∧ j ≠ 3)) → m' k j = m k j) ∧ m' 0 6 = 1) ∨ ((FR T (r 0) l).2 ≠ 0 ∧ ∀ (k : Nat) (j : Int), (k ≠ 98 ∨ (j ≠ 2 ∧ j ≠ 3)) → m' k j = m k j))) := by
  refine cs_of (by decide +kernel) (Nat.le_of_ble_eq_true rfl) rfl ?_
  obtain ⟨gC, gP, gS, gW⟩ := ag1 g
  have h12 := wR.1.1
  have hm0 : m 2 3 = r 0 := gC.1
  have hm1 : 0 ≤ m 2 3 ∧ m 2 3 ≤ 12 := by rw [hm0]; exact h12
  refine ap_ald_0 (pc := 0) dX8_read_0 ?_
  refine ap_getR (pc := 1) dX8_read_1 fl_RX8_47 sh_0 rfl ?_
  refine ap_ald_0 (pc := 4) dX8_read_4 ?_
  refine ap_getR (pc := 5) dX8_read_5 fl_RX8_10 sh_0 rfl ?_
  refine ap_getR (pc := 8) dX8_read_8 fl_RX8_59 sh_1 rfl ?_
  refine ap_getI (pc := 11) (jz := 3) dX8_read_11 fl_RX8_63 sh_2 rfl rfl ?_
  refine ap_invV (pc := 14) dX8_read_14 mv_RX8_236 sh_98 (av := [_]) (rest := []) (qX6_lookForFault T l _ _ hn h98 hT (by omega)) rfl rfl (Nat.le_of_ble_eq_true rfl) (by decide) (by decide) ?_
  rintro _ m2 ⟨rfl, ⟨l1, l2⟩, l3⟩
  rw [hm0] at l1 l2
  have hbd := FR_bd T (r 0) l hn
  refine ap_ald_0 (pc := 17) dX8_read_17 ?_
  refine ap_getR (pc := 18) dX8_read_18 fl_RX8_47 sh_0 rfl ?_
  refine ap_invV (pc := 21) dX8_read_21 mv_RX8_239 sh_98 (av := []) (rest := []) (qX6_hasFault _ (by rw [l2]; constructor <;> omega)) rfl rfl (Nat.le_of_ble_eq_true rfl) (by decide) (by decide) ?_
  rintro _ _ ⟨⟨wf, rfl⟩ | ⟨wf, rfl⟩, rfl⟩
  all_goals rw [l2] at wf
  · skip
    refine ap_if_eq (pc := 24) 30 dX8_read_24 rfl ⟨by omega, by omega⟩ (fun c24 => absurd c24 (by decide)) (fun _ => ?_)
    refine ap_bipush (pc := 27) dX8_read_27 bp_m2 ?_
    exact ap_ireturn (pc := 29) dX8_read_29 rfl ⟨by rw [if_neg wf], Or.inr ⟨wf, l3⟩⟩
  · skip
    refine ap_if_eq (pc := 24) 30 dX8_read_24 rfl ⟨by omega, by omega⟩ (fun _ => ?_) (fun c24 => absurd c24 (by decide))
    refine ap_ald_0 (pc := 30) dX8_read_30 ?_
    refine ap_getR (pc := 31) dX8_read_31 fl_RX8_19 sh_0 rfl ?_
    refine ap_ald_0 (pc := 34) dX8_read_34 ?_
    refine ap_getR (pc := 35) dX8_read_35 fl_RX8_10 sh_0 rfl ?_
    refine ap_invV (pc := 38) dX8_read_38 mv_RX8_69 sh_17 (av := [_]) (rest := []) (qX2_keep _ wR (HC_frame (fun k j a b => l3 k j (by omega)) hH0) (agB_frame (fun k j a b => l3 k j (by omega)) g)) rfl rfl (Nat.le_of_ble_eq_true rfl) (by decide) (by decide) ?_
    rintro _ m1 ⟨rfl, hK, g1, fK⟩
    obtain ⟨gC1, gP1, gS1, gW1⟩ := ag1 g1
    have hz1 := gC1.1
    refine ap_ald_0 (pc := 41) dX8_read_41 ?_
    refine ap_const (pc := 42) dX8_read_42 ?_
    refine ap_putI (pc := 43) (jz := 6) dX8_read_43 fn_RX8_51 sh_0 rfl rfl (fun _ => by decide) ?_
    refine ap_ald_0 (pc := 46) dX8_read_46 ?_
    refine ap_getR (pc := 47) dX8_read_47 fl_RX8_47 sh_0 rfl ?_
    refine ap_ald_0 (pc := 50) dX8_read_50 ?_
    refine ap_getR (pc := 51) dX8_read_51 fl_RX8_10 sh_0 rfl ?_
    refine ap_getR (pc := 54) dX8_read_54 fl_RX8_101 sh_1 rfl ?_
    refine ap_invV (pc := 57) dX8_read_57 mv_RX8_249 sh_98 (av := [_]) (rest := []) (qX6_giveTo T r l _ hn (by rw [am_k (by omega), fK 98 1 (by omega), l3 98 1 (by omega)]; exact h98) (fun j a b => by rw [am_k (by omega), fK 99 j (by omega), l3 99 j (by omega)]; exact hT j a b) wR (FR_ok hn.1 (Classical.byContradiction wf)) (agW_frame (fun _ _ _ => rfl) (fun k j hk => by rw [am_k (by omega)]) (fun f a b => (wR.2.2.2 f a b).1.2) gW1)) rfl rfl (Nat.le_of_ble_eq_true rfl) (by decide) (by decide) ?_
    rintro _ m3 ⟨rfl, t1, t2⟩
    have hF0 : (FR T (r 0) l).2 = 0 := Classical.byContradiction wf
    have hrI := rd_inv wR (FR_ok hn.1 hF0) l.toNat (by omega)
    obtain ⟨-, -, -, i4, -, -, -⟩ := hrI
    have e3 : ∀ (k : Nat) (j : Int), k ≠ 13 → k ≠ 14 → k ≠ 0 → m3 k j = m1 k j := fun k j a b c => by rw [t2 k j a b, am_k c]
    exact ap_ireturn (pc := 60) dX8_read_60 rfl ⟨by rw [if_pos hF0], Or.inl ⟨hF0, ⟨agC_frame (fun j a b => i4 j (by omega)) (fun k j hk => e3 k j (by omega) (by omega) (by omega)) h12.2 gC1, agP_frame (fun j a b => i4 j (by omega)) (fun k j hk => e3 k j (by omega) (by omega) (by omega)) (fun f p q => (wR.2.1.1 f p q).1.2) gP1, agS_frame (fun j a b => i4 j (by omega)) (fun k j hk => e3 k j (by omega) (by omega) (by omega)) gS1, t1⟩, HC_frame (fun k j a b => e3 k j (by omega) (by omega) (by omega)) hK, fun k j a b => by rw [e3 k j (by omega) (by omega) (by omega), fK k j (by omega), l3 k j b], by rw [t2 0 6 (by omega) (by omega), am_same]⟩⟩
