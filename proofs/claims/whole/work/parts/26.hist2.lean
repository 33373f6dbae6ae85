
theorem HC_rest {nx : Int} (hnx : 0 ≤ nx ∧ nx ≤ 3) {m m' : AM} (h1 : m 17 1 = nx) (h1' : m' 17 1 = (nx + 3) % 4) (h2' : m' 17 2 = m 17 2 - 1) (hc : ∀ r : Int → Int, wfR r → agB (ringB ((nx + 3) % 4)) r m → agB 1 r m') (hf : ∀ (k : Nat) (j : Int), k ≠ 17 → (k < 1 ∨ 17 ≤ k) → m' k j = m k j) {n : Int} {H : Int → Int → Int} (hn1 : 1 ≤ n) (wr : wfR (H (n - 1))) (hH0 : HC n H m) : HC (n - 1) H m' ∧ agB 1 (H (n - 1)) m' := by
  obtain ⟨e2, hn, -, hk⟩ := hH0
  rw [h1] at hk
  refine ⟨⟨by rw [h2', e2], by omega, by omega, fun k k0 k1 => ?_⟩, ?_⟩
  · rw [h1']
    have e : ((nx + 3) % 4 + 4 - (n - 1) + k) % 4 = (nx + 4 - n + k) % 4 := by omega
    rw [e]
    refine agB_frame (fun i j a b => hf i j ?_ ?_) (hk k k0 (by omega))
    · unfold ringB at a; omega
    · unfold ringB at a; omega
  · have e : (nx + 4 - n + (n - 1)) % 4 = (nx + 3) % 4 := by omega
    refine hc _ wr ?_
    rw [← e]
    exact hk (n - 1) (by omega) (by omega)
set_option maxHeartbeats 4000000 in
theorem qX2_restore_0 (m : AM) (hnx : m 17 1 = 0) : CS 4 mX2_restore [.inr 17, .inr 1] m (fun v m' => v = none ∧ (m' 17 1 = (0 + 3) % 4 ∧ m' 17 2 = m 17 2 - 1) ∧ (∀ r : Int → Int, wfR r → agB (ringB ((0 + 3) % 4)) r m → agB 1 r m') ∧ ∀ (k : Nat) (j : Int), k ≠ 17 → (k < 1 ∨ 17 ≤ k) → m' k j = m k j) := by
  refine cs_of (by decide +kernel) (Nat.le_of_ble_eq_true rfl) rfl ?_
  have hrem : iRem (m 17 1 + 4 - 1) 4 = 3 := by rw [hnx]; decide +kernel
  refine ap_ald_0 (pc := 0) dX2_restore_0 ?_
  refine ap_ald_0 (pc := 1) dX2_restore_1 ?_
  refine ap_getI (pc := 2) (jz := 1) dX2_restore_2 fl_RX2_18 sh_17 rfl rfl ?_
  refine ap_const (pc := 5) dX2_restore_5 ?_
  refine ap_iadd (pc := 6) dX2_restore_6 ?_
  refine ap_const (pc := 7) dX2_restore_7 ?_
  refine ap_isub (pc := 8) dX2_restore_8 ?_
  refine ap_const (pc := 9) dX2_restore_9 ?_
  refine ap_irem (pc := 10) dX2_restore_10 ⟨by omega, by omega⟩ (by decide) ?_
  refine ap_putI (pc := 11) (jz := 1) dX2_restore_11 fn_RX2_18 sh_17 rfl rfl (fun z => by cases z) ?_
  refine ap_ald_0 (pc := 14) dX2_restore_14 ?_
  refine ap_dup (pc := 15) dX2_restore_15 ?_
  refine ap_getI (pc := 16) (jz := 2) dX2_restore_16 fl_RX2_22 sh_17 rfl rfl ?_
  try simp (disch := omega) only [am_same, am_k, am_j]
  refine ap_const (pc := 19) dX2_restore_19 ?_
  refine ap_isub (pc := 20) dX2_restore_20 ?_
  refine ap_putI (pc := 21) (jz := 2) dX2_restore_21 fn_RX2_22 sh_17 rfl rfl (fun z => by cases z) ?_
  refine ap_ald_1 (pc := 24) dX2_restore_24 ?_
  refine ap_ald_0 (pc := 25) dX2_restore_25 ?_
  refine ap_getR (pc := 26) dX2_restore_26 fl_RX2_12 sh_17 rfl ?_
  refine ap_ald_0 (pc := 29) dX2_restore_29 ?_
  refine ap_getI (pc := 30) (jz := 1) dX2_restore_30 fl_RX2_18 sh_17 rfl rfl ?_
  try simp (disch := omega) only [am_same, am_k, am_j]
  refine ap_aaload (pc := 33) dX2_restore_33 sh_18 (by rw [hrem]; decide) (by rw [hrem]; rfl) (by decide) ?_
  refine ap_invV (pc := 34) dX2_restore_34 mv_RX2_25 sh_1 (av := [_]) (rest := []) (qX0_copyFrom bn_1 bn_67 _ (by omega)) rfl rfl (Nat.le_of_ble_eq_true rfl) (by decide) (by decide) ?_
  rintro _ m1 ⟨rfl, hc, hf⟩
  refine ap_return (pc := 37) dX2_restore_37 rfl ⟨rfl, ⟨?_, ?_⟩, fun r wr hr => ?_, fun k j hk hk2 => ?_⟩
  · rw [hf 17 1 (by omega), am_j (by omega), am_same, hrem]; decide +kernel
  · rw [hf 17 2 (by omega), am_same]
  · refine hc r wr (agB_frame (fun i j a b => ?_) hr)
    unfold ringB at a b
    rw [am_k (by simp at a b; omega), am_k (by simp at a b; omega)]
  · rw [hf k j (by omega), am_k hk, am_k hk]

set_option maxHeartbeats 4000000 in
theorem qX2_restore_1 (m : AM) (hnx : m 17 1 = 1) : CS 4 mX2_restore [.inr 17, .inr 1] m (fun v m' => v = none ∧ (m' 17 1 = (1 + 3) % 4 ∧ m' 17 2 = m 17 2 - 1) ∧ (∀ r : Int → Int, wfR r → agB (ringB ((1 + 3) % 4)) r m → agB 1 r m') ∧ ∀ (k : Nat) (j : Int), k ≠ 17 → (k < 1 ∨ 17 ≤ k) → m' k j = m k j) := by
  refine cs_of (by decide +kernel) (Nat.le_of_ble_eq_true rfl) rfl ?_
  have hrem : iRem (m 17 1 + 4 - 1) 4 = 0 := by rw [hnx]; decide +kernel
  refine ap_ald_0 (pc := 0) dX2_restore_0 ?_
  refine ap_ald_0 (pc := 1) dX2_restore_1 ?_
  refine ap_getI (pc := 2) (jz := 1) dX2_restore_2 fl_RX2_18 sh_17 rfl rfl ?_
  refine ap_const (pc := 5) dX2_restore_5 ?_
  refine ap_iadd (pc := 6) dX2_restore_6 ?_
  refine ap_const (pc := 7) dX2_restore_7 ?_
  refine ap_isub (pc := 8) dX2_restore_8 ?_
  refine ap_const (pc := 9) dX2_restore_9 ?_
  refine ap_irem (pc := 10) dX2_restore_10 ⟨by omega, by omega⟩ (by decide) ?_
  refine ap_putI (pc := 11) (jz := 1) dX2_restore_11 fn_RX2_18 sh_17 rfl rfl (fun z => by cases z) ?_
  refine ap_ald_0 (pc := 14) dX2_restore_14 ?_
  refine ap_dup (pc := 15) dX2_restore_15 ?_
  refine ap_getI (pc := 16) (jz := 2) dX2_restore_16 fl_RX2_22 sh_17 rfl rfl ?_
  try simp (disch := omega) only [am_same, am_k, am_j]
  refine ap_const (pc := 19) dX2_restore_19 ?_
  refine ap_isub (pc := 20) dX2_restore_20 ?_
  refine ap_putI (pc := 21) (jz := 2) dX2_restore_21 fn_RX2_22 sh_17 rfl rfl (fun z => by cases z) ?_
  refine ap_ald_1 (pc := 24) dX2_restore_24 ?_
  refine ap_ald_0 (pc := 25) dX2_restore_25 ?_
  refine ap_getR (pc := 26) dX2_restore_26 fl_RX2_12 sh_17 rfl ?_
  refine ap_ald_0 (pc := 29) dX2_restore_29 ?_
  refine ap_getI (pc := 30) (jz := 1) dX2_restore_30 fl_RX2_18 sh_17 rfl rfl ?_
  try simp (disch := omega) only [am_same, am_k, am_j]
  refine ap_aaload (pc := 33) dX2_restore_33 sh_18 (by rw [hrem]; decide) (by rw [hrem]; rfl) (by decide) ?_
  refine ap_invV (pc := 34) dX2_restore_34 mv_RX2_25 sh_1 (av := [_]) (rest := []) (qX0_copyFrom bn_1 bn_19 _ (by omega)) rfl rfl (Nat.le_of_ble_eq_true rfl) (by decide) (by decide) ?_
  rintro _ m1 ⟨rfl, hc, hf⟩
  refine ap_return (pc := 37) dX2_restore_37 rfl ⟨rfl, ⟨?_, ?_⟩, fun r wr hr => ?_, fun k j hk hk2 => ?_⟩
  · rw [hf 17 1 (by omega), am_j (by omega), am_same, hrem]; decide +kernel
  · rw [hf 17 2 (by omega), am_same]
  · refine hc r wr (agB_frame (fun i j a b => ?_) hr)
    unfold ringB at a b
    rw [am_k (by simp at a b; omega), am_k (by simp at a b; omega)]
  · rw [hf k j (by omega), am_k hk, am_k hk]

set_option maxHeartbeats 4000000 in
theorem qX2_restore_2 (m : AM) (hnx : m 17 1 = 2) : CS 4 mX2_restore [.inr 17, .inr 1] m (fun v m' => v = none ∧ (m' 17 1 = (2 + 3) % 4 ∧ m' 17 2 = m 17 2 - 1) ∧ (∀ r : Int → Int, wfR r → agB (ringB ((2 + 3) % 4)) r m → agB 1 r m') ∧ ∀ (k : Nat) (j : Int), k ≠ 17 → (k < 1 ∨ 17 ≤ k) → m' k j = m k j) := by
  refine cs_of (by decide +kernel) (Nat.le_of_ble_eq_true rfl) rfl ?_
  have hrem : iRem (m 17 1 + 4 - 1) 4 = 1 := by rw [hnx]; decide +kernel
  refine ap_ald_0 (pc := 0) dX2_restore_0 ?_
  refine ap_ald_0 (pc := 1) dX2_restore_1 ?_
  refine ap_getI (pc := 2) (jz := 1) dX2_restore_2 fl_RX2_18 sh_17 rfl rfl ?_
  refine ap_const (pc := 5) dX2_restore_5 ?_
  refine ap_iadd (pc := 6) dX2_restore_6 ?_
  refine ap_const (pc := 7) dX2_restore_7 ?_
  refine ap_isub (pc := 8) dX2_restore_8 ?_
  refine ap_const (pc := 9) dX2_restore_9 ?_
  refine ap_irem (pc := 10) dX2_restore_10 ⟨by omega, by omega⟩ (by decide) ?_
  refine ap_putI (pc := 11) (jz := 1) dX2_restore_11 fn_RX2_18 sh_17 rfl rfl (fun z => by cases z) ?_
  refine ap_ald_0 (pc := 14) dX2_restore_14 ?_
  refine ap_dup (pc := 15) dX2_restore_15 ?_
  refine ap_getI (pc := 16) (jz := 2) dX2_restore_16 fl_RX2_22 sh_17 rfl rfl ?_
  try simp (disch := omega) only [am_same, am_k, am_j]
  refine ap_const (pc := 19) dX2_restore_19 ?_
  refine ap_isub (pc := 20) dX2_restore_20 ?_
  refine ap_putI (pc := 21) (jz := 2) dX2_restore_21 fn_RX2_22 sh_17 rfl rfl (fun z => by cases z) ?_
  refine ap_ald_1 (pc := 24) dX2_restore_24 ?_
  refine ap_ald_0 (pc := 25) dX2_restore_25 ?_
  refine ap_getR (pc := 26) dX2_restore_26 fl_RX2_12 sh_17 rfl ?_
  refine ap_ald_0 (pc := 29) dX2_restore_29 ?_
  refine ap_getI (pc := 30) (jz := 1) dX2_restore_30 fl_RX2_18 sh_17 rfl rfl ?_
  try simp (disch := omega) only [am_same, am_k, am_j]
  refine ap_aaload (pc := 33) dX2_restore_33 sh_18 (by rw [hrem]; decide) (by rw [hrem]; rfl) (by decide) ?_
  refine ap_invV (pc := 34) dX2_restore_34 mv_RX2_25 sh_1 (av := [_]) (rest := []) (qX0_copyFrom bn_1 bn_35 _ (by omega)) rfl rfl (Nat.le_of_ble_eq_true rfl) (by decide) (by decide) ?_
  rintro _ m1 ⟨rfl, hc, hf⟩
  refine ap_return (pc := 37) dX2_restore_37 rfl ⟨rfl, ⟨?_, ?_⟩, fun r wr hr => ?_, fun k j hk hk2 => ?_⟩
  · rw [hf 17 1 (by omega), am_j (by omega), am_same, hrem]; decide +kernel
  · rw [hf 17 2 (by omega), am_same]
  · refine hc r wr (agB_frame (fun i j a b => ?_) hr)
    unfold ringB at a b
    rw [am_k (by simp at a b; omega), am_k (by simp at a b; omega)]
  · rw [hf k j (by omega), am_k hk, am_k hk]

set_option maxHeartbeats 4000000 in
theorem qX2_restore_3 (m : AM) (hnx : m 17 1 = 3) : CS 4 mX2_restore [.inr 17, .inr 1] m (fun v m' => v = none ∧ (m' 17 1 = (3 + 3) % 4 ∧ m' 17 2 = m 17 2 - 1) ∧ (∀ r : Int → Int, wfR r → agB (ringB ((3 + 3) % 4)) r m → agB 1 r m') ∧ ∀ (k : Nat) (j : Int), k ≠ 17 → (k < 1 ∨ 17 ≤ k) → m' k j = m k j) := by
  refine cs_of (by decide +kernel) (Nat.le_of_ble_eq_true rfl) rfl ?_
  have hrem : iRem (m 17 1 + 4 - 1) 4 = 2 := by rw [hnx]; decide +kernel
  refine ap_ald_0 (pc := 0) dX2_restore_0 ?_
  refine ap_ald_0 (pc := 1) dX2_restore_1 ?_
  refine ap_getI (pc := 2) (jz := 1) dX2_restore_2 fl_RX2_18 sh_17 rfl rfl ?_
  refine ap_const (pc := 5) dX2_restore_5 ?_
  refine ap_iadd (pc := 6) dX2_restore_6 ?_
  refine ap_const (pc := 7) dX2_restore_7 ?_
  refine ap_isub (pc := 8) dX2_restore_8 ?_
  refine ap_const (pc := 9) dX2_restore_9 ?_
  refine ap_irem (pc := 10) dX2_restore_10 ⟨by omega, by omega⟩ (by decide) ?_
  refine ap_putI (pc := 11) (jz := 1) dX2_restore_11 fn_RX2_18 sh_17 rfl rfl (fun z => by cases z) ?_
  refine ap_ald_0 (pc := 14) dX2_restore_14 ?_
  refine ap_dup (pc := 15) dX2_restore_15 ?_
  refine ap_getI (pc := 16) (jz := 2) dX2_restore_16 fl_RX2_22 sh_17 rfl rfl ?_
  try simp (disch := omega) only [am_same, am_k, am_j]
  refine ap_const (pc := 19) dX2_restore_19 ?_
  refine ap_isub (pc := 20) dX2_restore_20 ?_
  refine ap_putI (pc := 21) (jz := 2) dX2_restore_21 fn_RX2_22 sh_17 rfl rfl (fun z => by cases z) ?_
  refine ap_ald_1 (pc := 24) dX2_restore_24 ?_
  refine ap_ald_0 (pc := 25) dX2_restore_25 ?_
  refine ap_getR (pc := 26) dX2_restore_26 fl_RX2_12 sh_17 rfl ?_
  refine ap_ald_0 (pc := 29) dX2_restore_29 ?_
  refine ap_getI (pc := 30) (jz := 1) dX2_restore_30 fl_RX2_18 sh_17 rfl rfl ?_
  try simp (disch := omega) only [am_same, am_k, am_j]
  refine ap_aaload (pc := 33) dX2_restore_33 sh_18 (by rw [hrem]; decide) (by rw [hrem]; rfl) (by decide) ?_
  refine ap_invV (pc := 34) dX2_restore_34 mv_RX2_25 sh_1 (av := [_]) (rest := []) (qX0_copyFrom bn_1 bn_51 _ (by omega)) rfl rfl (Nat.le_of_ble_eq_true rfl) (by decide) (by decide) ?_
  rintro _ m1 ⟨rfl, hc, hf⟩
  refine ap_return (pc := 37) dX2_restore_37 rfl ⟨rfl, ⟨?_, ?_⟩, fun r wr hr => ?_, fun k j hk hk2 => ?_⟩
  · rw [hf 17 1 (by omega), am_j (by omega), am_same, hrem]; decide +kernel
  · rw [hf 17 2 (by omega), am_same]
  · refine hc r wr (agB_frame (fun i j a b => ?_) hr)
    unfold ringB at a b
    rw [am_k (by simp at a b; omega), am_k (by simp at a b; omega)]
  · rw [hf k j (by omega), am_k hk, am_k hk]

theorem qX2_restore (m : AM) {n : Int} {H : Int → Int → Int} (hn1 : 1 ≤ n) (wr : wfR (H (n - 1))) (h : HC n H m) : CS 4 mX2_restore [.inr 17, .inr 1] m (fun v m' => v = none ∧ HC (n - 1) H m' ∧ agB 1 (H (n - 1)) m' ∧ ∀ (k : Nat) (j : Int), (k < 1 ∨ 18 ≤ k) → m' k j = m k j) := by
  have h17 := h.2.2.1
  rcases (by omega : m 17 1 = 0 ∨ m 17 1 = 1 ∨ m 17 1 = 2 ∨ m 17 1 = 3) with e | e | e | e
  · refine (qX2_restore_0 m e).mono (Nat.le_refl _) (fun v m' q => ⟨q.1, (HC_rest (nx := 0) (by omega) e q.2.1.1 q.2.1.2 q.2.2.1 q.2.2.2 hn1 wr h).1, (HC_rest (nx := 0) (by omega) e q.2.1.1 q.2.1.2 q.2.2.1 q.2.2.2 hn1 wr h).2, fun k j hk => q.2.2.2 k j (by omega) (by omega)⟩)
  · refine (qX2_restore_1 m e).mono (Nat.le_refl _) (fun v m' q => ⟨q.1, (HC_rest (nx := 1) (by omega) e q.2.1.1 q.2.1.2 q.2.2.1 q.2.2.2 hn1 wr h).1, (HC_rest (nx := 1) (by omega) e q.2.1.1 q.2.1.2 q.2.2.1 q.2.2.2 hn1 wr h).2, fun k j hk => q.2.2.2 k j (by omega) (by omega)⟩)
  · refine (qX2_restore_2 m e).mono (Nat.le_refl _) (fun v m' q => ⟨q.1, (HC_rest (nx := 2) (by omega) e q.2.1.1 q.2.1.2 q.2.2.1 q.2.2.2 hn1 wr h).1, (HC_rest (nx := 2) (by omega) e q.2.1.1 q.2.1.2 q.2.2.1 q.2.2.2 hn1 wr h).2, fun k j hk => q.2.2.2 k j (by omega) (by omega)⟩)
  · refine (qX2_restore_3 m e).mono (Nat.le_refl _) (fun v m' q => ⟨q.1, (HC_rest (nx := 3) (by omega) e q.2.1.1 q.2.1.2 q.2.2.1 q.2.2.2 hn1 wr h).1, (HC_rest (nx := 3) (by omega) e q.2.1.1 q.2.1.2 q.2.2.1 q.2.2.2 hn1 wr h).2, fun k j hk => q.2.2.2 k j (by omega) (by omega)⟩)

set_option maxHeartbeats 4000000 in
theorem qX9_records (m : AM) (hs : 0 ≤ m 100 3 ∧ m 100 3 ≤ 4) : CS 0 mX9_records [.inr 100] m (fun v m' => v = none ∧ m' 100 3 = min (m 100 3 + 1) 4 ∧ (∀ k j : Int, 0 ≤ k → k < min (m 100 3 + 1) 4 → 0 ≤ j → j < 150 → m' 102 (150 * k + j) = hH (m 100 3) (fun k j => m 102 (150 * k + j)) (m 101) k j) ∧ (∀ (k : Nat) (j : Int), k ≠ 100 → k ≠ 102 → m' k j = m k j) ∧ ∀ j : Int, j ≠ 3 → m' 100 j = m 100 j) := by
  refine cs_of (by decide +kernel) (Nat.le_of_ble_eq_true rfl) rfl ?_
  refine ap_ald_0 (pc := 0) dX9_records_0 ?_
  refine ap_getI (pc := 1) (jz := 3) dX9_records_1 fl_RX9_28 sh_100 rfl rfl ?_
  refine ap_const (pc := 4) dX9_records_4 ?_
  refine ap_icmp_ne (pc := 5) 49 dX9_records_5 rfl (Or.inr ⟨⟨by omega, by omega⟩, ⟨by omega, by omega⟩⟩) (fun c5 => ?_) (fun c5 => ?_)
  · skip
    have hP : ∃ (S : Int) (P : Int → Int), (0 ≤ S ∧ S ≤ 3) ∧ m 100 3 = S ∧ (∀ j : Int, P j = m 102 j) := ⟨m 100 3, m 102, by omega, rfl, fun _ => rfl⟩
    obtain ⟨S, P, hS, hm3, hPj⟩ := hP
    have hfin : ∀ m' : AM, m' 100 3 = S + 1 → (∀ j : Int, 0 ≤ j → j < 600 → ((150 * S ≤ j ∧ j < 150 * S + 150) → m' 102 j = m 101 (j - 150 * S)) ∧ (¬ (150 * S ≤ j ∧ j < 150 * S + 150) → m' 102 j = P j)) → m' 100 3 = min (m 100 3 + 1) 4 ∧ ∀ k j : Int, 0 ≤ k → k < min (m 100 3 + 1) 4 → 0 ≤ j → j < 150 → m' 102 (150 * k + j) = hH (m 100 3) (fun k j => m 102 (150 * k + j)) (m 101) k j := by
      intro m' a1 a2
      refine ⟨by rw [a1, hm3]; omega, fun k j k0 k1 j0 j1 => ?_⟩
      rw [hm3] at k1 ⊢
      have h4 : S < 4 := by omega
      by_cases ek : k = S
      · simp only [hH, if_pos h4, if_pos ek]
        rw [(a2 _ (by omega) (by omega)).1 (by omega)]
        congr 1; omega
      · simp only [hH, if_pos h4, if_neg ek]
        rw [(a2 _ (by omega) (by omega)).2 (by omega), hPj]
    refine ap_const (pc := 49) dX9_records_49 ?_
    refine ap_ist_1 (pc := 50) dX9_records_50 (by decide) ?_
    refine AP.bk (up_rec 150 (fun i => ∀ mi : AM, (∀ (k : Nat) (j : Int), k ≠ 100 → k ≠ 102 → mi k j = m k j) → (∀ j : Int, j ≠ 3 → mi 100 j = m 100 j) → mi 100 3 = S → (∀ j : Int, 0 ≤ j → j < 600 → ((150 * S ≤ j ∧ j < 150 * S + i) → mi 102 j = m 101 (j - 150 * S)) ∧ (¬ (150 * S ≤ j ∧ j < 150 * S + i) → mi 102 j = P j)) → AP 0 mX9_records 51 [some (.inr 100), some (.inl (i : Int))] [] mi (fun v m' => v = none ∧ m' 100 3 = min (m 100 3 + 1) 4 ∧ (∀ k j : Int, 0 ≤ k → k < min (m 100 3 + 1) 4 → 0 ≤ j → j < 150 → m' 102 (150 * k + j) = hH (m 100 3) (fun k j => m 102 (150 * k + j)) (m 101) k j) ∧ (∀ (k : Nat) (j : Int), k ≠ 100 → k ≠ 102 → m' k j = m k j) ∧ ∀ j : Int, j ≠ 3 → m' 100 j = m 100 j)) (by omega) (fun i hi ih mi u1 u2 u3 u4 => ?_) _ (fun _ _ _ _ => rfl) (fun _ _ => rfl) hm3 (fun j j0 j6 => ⟨fun z => absurd z (by omega), fun _ => (hPj j).symm⟩)) ⟨rfl, rfl, trivial⟩ rfl
    refine ap_ild_1 (pc := 51) dX9_records_51 ?_
    refine ap_sipush (pc := 52) dX9_records_52 sp_150 ?_
    refine ap_icmp_ge (pc := 55) 85 dX9_records_55 rfl ⟨by omega, by omega⟩ ⟨by omega, by omega⟩ (fun c55 => ?_) (fun c55 => ?_)
    · skip
      refine ap_ald_0 (pc := 85) dX9_records_85 ?_
      refine ap_dup (pc := 86) dX9_records_86 ?_
      refine ap_getI (pc := 87) (jz := 3) dX9_records_87 fl_RX9_28 sh_100 rfl rfl ?_
      refine ap_const (pc := 90) dX9_records_90 ?_
      refine ap_iadd (pc := 91) dX9_records_91 ?_
      refine ap_putI (pc := 92) (jz := 3) dX9_records_92 fn_RX9_28 sh_100 rfl rfl (fun z => by cases z) ?_
      exact ap_return (pc := 95) dX9_records_95 rfl ⟨rfl, (hfin _ (by rw [am_same, u3]) (fun j j0 j6 => by
      have ei : i = 150 := by omega
      subst ei
      rw [am_k (by omega)]
      exact ⟨fun z => (u4 j j0 j6).1 (by omega), fun z => (u4 j j0 j6).2 (by omega)⟩)).1, (hfin _ (by rw [am_same, u3]) (fun j j0 j6 => by
      have ei : i = 150 := by omega
      subst ei
      rw [am_k (by omega)]
      exact ⟨fun z => (u4 j j0 j6).1 (by omega), fun z => (u4 j j0 j6).2 (by omega)⟩)).2, fun k j a b => by rw [am_k a]; exact u1 k j a b, fun j a => by rw [am_j a]; exact u2 j a⟩
    · skip
      refine ap_ald_0 (pc := 58) dX9_records_58 ?_
      refine ap_getR (pc := 59) dX9_records_59 fl_RX9_13 sh_100 rfl ?_
      refine ap_sipush (pc := 62) dX9_records_62 sp_150 ?_
      refine ap_ald_0 (pc := 65) dX9_records_65 ?_
      refine ap_getI (pc := 66) (jz := 3) dX9_records_66 fl_RX9_28 sh_100 rfl rfl ?_
      refine ap_imul (pc := 69) dX9_records_69 ?_
      refine ap_ild_1 (pc := 70) dX9_records_70 ?_
      refine ap_iadd (pc := 71) dX9_records_71 ?_
      refine ap_ald_0 (pc := 72) dX9_records_72 ?_
      refine ap_getR (pc := 73) dX9_records_73 fl_RX9_7 sh_100 rfl ?_
      refine ap_ild_1 (pc := 76) dX9_records_76 ?_
      refine ap_iaload (pc := 77) dX9_records_77 sh_101 (by omega) (by omega) (by decide) ?_
      refine ap_iastore (pc := 78) dX9_records_78 sh_102 (by omega) (by omega) (by decide) ?_
      refine ap_iinc_1 (pc := 79) dX9_records_79 (by decide) ?_
      refine ap_goto (pc := 82) 51 dX9_records_82 rfl ?_
      exact (ih c55 _ (fun k j hk hk2 => by rw [am_k hk2]; exact u1 k j hk hk2) (fun j a => by rw [am_k (by omega)]; exact u2 j a) (by rw [am_k (by omega)]; exact u3) (fun j j0 j6 => by
        rw [u3]
        by_cases e : j = 150 * S + (i : Int)
        · subst e
          rw [am_same]
          exact ⟨fun _ => by rw [u1 101 _ (by omega) (by omega)]; congr 1; omega, fun z => absurd z (by omega)⟩
        · rw [am_j e]
          exact ⟨fun z => (u4 j j0 j6).1 (by omega), fun z => (u4 j j0 j6).2 (by omega)⟩)).bk ⟨rfl, rfl, trivial⟩ rfl
  · skip
    refine ap_const (pc := 8) dX9_records_8 ?_
    refine ap_ist_1 (pc := 9) dX9_records_9 (by decide) ?_
    refine AP.bk (up_rec 450 (fun i => ∀ mi : AM, (∀ (k : Nat) (j : Int), k ≠ 102 → mi k j = m k j) → (∀ j : Int, 0 ≤ j → j < 600 → (j < i → mi 102 j = m 102 (j + 150)) ∧ (¬ j < i → mi 102 j = m 102 j)) → AP 0 mX9_records 10 [some (.inr 100), some (.inl (i : Int))] [] mi (fun v m' => v = none ∧ m' 100 3 = min (m 100 3 + 1) 4 ∧ (∀ k j : Int, 0 ≤ k → k < min (m 100 3 + 1) 4 → 0 ≤ j → j < 150 → m' 102 (150 * k + j) = hH (m 100 3) (fun k j => m 102 (150 * k + j)) (m 101) k j) ∧ (∀ (k : Nat) (j : Int), k ≠ 100 → k ≠ 102 → m' k j = m k j) ∧ ∀ j : Int, j ≠ 3 → m' 100 j = m 100 j)) (by omega) (fun i hi ih mi u1 u2 => ?_) m (fun _ _ _ => rfl) (fun j j0 j6 => ⟨fun z => absurd z (by omega), fun _ => rfl⟩)) ⟨rfl, rfl, trivial⟩ rfl
    refine ap_ild_1 (pc := 10) dX9_records_10 ?_
    refine ap_sipush (pc := 11) dX9_records_11 sp_450 ?_
    refine ap_icmp_ge (pc := 14) 39 dX9_records_14 rfl ⟨by omega, by omega⟩ ⟨by omega, by omega⟩ (fun c14 => ?_) (fun c14 => ?_)
    · skip
      have ei : i = 450 := by omega
      subst ei
      have hP : ∃ (S : Int) (P : Int → Int), S = 3 ∧ (∀ j : Int, P j = mi 102 j) := ⟨3, mi 102, rfl, fun _ => rfl⟩
      obtain ⟨S, P, hS3, hPj⟩ := hP
      have hS : 0 ≤ S ∧ S ≤ 3 := by omega
      have hfin : ∀ m' : AM, m' 100 3 = S + 1 → (∀ j : Int, 0 ≤ j → j < 600 → ((150 * S ≤ j ∧ j < 150 * S + 150) → m' 102 j = m 101 (j - 150 * S)) ∧ (¬ (150 * S ≤ j ∧ j < 150 * S + 150) → m' 102 j = P j)) → m' 100 3 = min (m 100 3 + 1) 4 ∧ ∀ k j : Int, 0 ≤ k → k < min (m 100 3 + 1) 4 → 0 ≤ j → j < 150 → m' 102 (150 * k + j) = hH (m 100 3) (fun k j => m 102 (150 * k + j)) (m 101) k j := by
        intro m' a1 a2
        refine ⟨by rw [a1, c5]; omega, fun k j k0 k1 j0 j1 => ?_⟩
        rw [c5] at k1 ⊢
        have h4 : ¬ (4 : Int) < 4 := by omega
        by_cases ek : k = 3
        · simp only [hH, if_neg h4, if_pos ek]
          rw [(a2 _ (by omega) (by omega)).1 (by omega)]
          congr 1; omega
        · simp only [hH, if_neg h4, if_neg ek]
          rw [(a2 _ (by omega) (by omega)).2 (by omega), hPj, (u2 _ (by omega) (by omega)).1 (by omega)]
          congr 1; omega
      refine ap_ald_0 (pc := 39) dX9_records_39 ?_
      refine ap_dup (pc := 40) dX9_records_40 ?_
      refine ap_getI (pc := 41) (jz := 3) dX9_records_41 fl_RX9_28 sh_100 rfl rfl ?_
      refine ap_const (pc := 44) dX9_records_44 ?_
      refine ap_isub (pc := 45) dX9_records_45 ?_
      refine ap_putI (pc := 46) (jz := 3) dX9_records_46 fn_RX9_28 sh_100 rfl rfl (fun z => by cases z) ?_
      refine ap_const (pc := 49) dX9_records_49 ?_
      refine ap_ist_1 (pc := 50) dX9_records_50 (by decide) ?_
      refine AP.bk (up_rec 150 (fun i => ∀ mi : AM, (∀ (k : Nat) (j : Int), k ≠ 100 → k ≠ 102 → mi k j = m k j) → (∀ j : Int, j ≠ 3 → mi 100 j = m 100 j) → mi 100 3 = S → (∀ j : Int, 0 ≤ j → j < 600 → ((150 * S ≤ j ∧ j < 150 * S + i) → mi 102 j = m 101 (j - 150 * S)) ∧ (¬ (150 * S ≤ j ∧ j < 150 * S + i) → mi 102 j = P j)) → AP 0 mX9_records 51 [some (.inr 100), some (.inl (i : Int))] [] mi (fun v m' => v = none ∧ m' 100 3 = min (m 100 3 + 1) 4 ∧ (∀ k j : Int, 0 ≤ k → k < min (m 100 3 + 1) 4 → 0 ≤ j → j < 150 → m' 102 (150 * k + j) = hH (m 100 3) (fun k j => m 102 (150 * k + j)) (m 101) k j) ∧ (∀ (k : Nat) (j : Int), k ≠ 100 → k ≠ 102 → m' k j = m k j) ∧ ∀ j : Int, j ≠ 3 → m' 100 j = m 100 j)) (by omega) (fun i hi ih mi u1 u2 u3 u4 => ?_) _ (fun k j a b => by rw [am_k a]; exact u1 k j b) (fun j a => by rw [am_j a]; exact u1 100 j (by omega)) (by rw [am_same, u1 100 3 (by omega)]; omega) (fun j j0 j6 => ⟨fun z => absurd z (by omega), fun _ => by rw [am_k (by omega)]; exact (hPj j).symm⟩)) ⟨rfl, rfl, trivial⟩ rfl
      refine ap_ild_1 (pc := 51) dX9_records_51 ?_
      refine ap_sipush (pc := 52) dX9_records_52 sp_150 ?_
      refine ap_icmp_ge (pc := 55) 85 dX9_records_55 rfl ⟨by omega, by omega⟩ ⟨by omega, by omega⟩ (fun c55 => ?_) (fun c55 => ?_)
      · skip
        refine ap_ald_0 (pc := 85) dX9_records_85 ?_
        refine ap_dup (pc := 86) dX9_records_86 ?_
        refine ap_getI (pc := 87) (jz := 3) dX9_records_87 fl_RX9_28 sh_100 rfl rfl ?_
        try simp (disch := omega) only [am_same, am_k, am_j]
        refine ap_const (pc := 90) dX9_records_90 ?_
        refine ap_iadd (pc := 91) dX9_records_91 ?_
        refine ap_putI (pc := 92) (jz := 3) dX9_records_92 fn_RX9_28 sh_100 rfl rfl (fun z => by cases z) ?_
        exact ap_return (pc := 95) dX9_records_95 rfl ⟨rfl, (hfin _ (by rw [am_same, u3]) (fun j j0 j6 => by
      have ei : i = 150 := by omega
      subst ei
      rw [am_k (by omega)]
      exact ⟨fun z => (u4 j j0 j6).1 (by omega), fun z => (u4 j j0 j6).2 (by omega)⟩)).1, (hfin _ (by rw [am_same, u3]) (fun j j0 j6 => by
      have ei : i = 150 := by omega
      subst ei
      rw [am_k (by omega)]
      exact ⟨fun z => (u4 j j0 j6).1 (by omega), fun z => (u4 j j0 j6).2 (by omega)⟩)).2, fun k j a b => by rw [am_k a]; exact u1 k j a b, fun j a => by rw [am_j a]; exact u2 j a⟩
      · skip
        refine ap_ald_0 (pc := 58) dX9_records_58 ?_
        refine ap_getR (pc := 59) dX9_records_59 fl_RX9_13 sh_100 rfl ?_
        refine ap_sipush (pc := 62) dX9_records_62 sp_150 ?_
        refine ap_ald_0 (pc := 65) dX9_records_65 ?_
        refine ap_getI (pc := 66) (jz := 3) dX9_records_66 fl_RX9_28 sh_100 rfl rfl ?_
        try simp (disch := omega) only [am_same, am_k, am_j]
        refine ap_imul (pc := 69) dX9_records_69 ?_
        refine ap_ild_1 (pc := 70) dX9_records_70 ?_
        refine ap_iadd (pc := 71) dX9_records_71 ?_
        refine ap_ald_0 (pc := 72) dX9_records_72 ?_
        refine ap_getR (pc := 73) dX9_records_73 fl_RX9_7 sh_100 rfl ?_
        refine ap_ild_1 (pc := 76) dX9_records_76 ?_
        refine ap_iaload (pc := 77) dX9_records_77 sh_101 (by omega) (by omega) (by decide) ?_
        try simp (disch := omega) only [am_same, am_k, am_j]
        refine ap_iastore (pc := 78) dX9_records_78 sh_102 (by omega) (by omega) (by decide) ?_
        refine ap_iinc_1 (pc := 79) dX9_records_79 (by decide) ?_
        refine ap_goto (pc := 82) 51 dX9_records_82 rfl ?_
        exact (ih c55 _ (fun k j hk hk2 => by rw [am_k hk2]; exact u1 k j hk hk2) (fun j a => by rw [am_k (by omega)]; exact u2 j a) (by rw [am_k (by omega)]; exact u3) (fun j j0 j6 => by
          rw [u3]
          by_cases e : j = 150 * S + (i : Int)
          · subst e
            rw [am_same]
            exact ⟨fun _ => by rw [u1 101 _ (by omega) (by omega)]; congr 1; omega, fun z => absurd z (by omega)⟩
          · rw [am_j e]
            exact ⟨fun z => (u4 j j0 j6).1 (by omega), fun z => (u4 j j0 j6).2 (by omega)⟩)).bk ⟨rfl, rfl, trivial⟩ rfl
    · skip
      refine ap_ald_0 (pc := 17) dX9_records_17 ?_
      refine ap_getR (pc := 18) dX9_records_18 fl_RX9_13 sh_100 rfl ?_
      refine ap_ild_1 (pc := 21) dX9_records_21 ?_
      refine ap_ald_0 (pc := 22) dX9_records_22 ?_
      refine ap_getR (pc := 23) dX9_records_23 fl_RX9_13 sh_100 rfl ?_
      refine ap_ild_1 (pc := 26) dX9_records_26 ?_
      refine ap_sipush (pc := 27) dX9_records_27 sp_150 ?_
      refine ap_iadd (pc := 30) dX9_records_30 ?_
      refine ap_iaload (pc := 31) dX9_records_31 sh_102 (by omega) (by omega) (by decide) ?_
      refine ap_iastore (pc := 32) dX9_records_32 sh_102 (by omega) (by omega) (by decide) ?_
      refine ap_iinc_1 (pc := 33) dX9_records_33 (by decide) ?_
      refine ap_goto (pc := 36) 10 dX9_records_36 rfl ?_
      exact (ih c14 _ (fun k j hk => by rw [am_k hk]; exact u1 k j hk) (fun j j0 j6 => by
        by_cases e : j = (i : Int)
        · subst e
          rw [am_same]
          exact ⟨fun _ => (u2 _ (by omega) (by omega)).2 (by omega), fun z => absurd z (by omega)⟩
        · rw [am_j e]
          exact ⟨fun z => (u2 j j0 j6).1 (by omega), fun z => (u2 j j0 j6).2 (by omega)⟩)).bk ⟨rfl, rfl, trivial⟩ rfl
