
theorem HC_rest {nx : Int} (hnx : 0 ≤ nx ∧ nx ≤ 3) {m m' : AM} (h1 : m 17 1 = nx) (h1' : m' 17 1 = (nx + 3) % 4) (h2' : m' 17 2 = m 17 2 - 1) (hc : ∀ r : Int → Int, wfR r → agB (ringB ((nx + 3) % 4)) r m → agB 1 r m') (hf : ∀ (k : Nat) (j : Int), k ≠ 17 → (k < 1 ∨ 17 ≤ k) → m' k j = m k j) {n : Int} {H : Int → Int → Int} (hn1 : 1 ≤ n) (wr : wfR (H (n - 1))) (hH0 : HC n H m) : HC (n - 1) H m' ∧ agB 1 (H (n - 1)) m' := by
  obtain ⟨e2, hn, -, hk⟩ := hH0
  rw [h1] at hk
  refine ⟨⟨by rw [h2', e2], by omega, by omega, fun k k0 k1 => ?_⟩, ?_⟩
  · rw [h1']
    have e : ((nx + 3) % 4 + 4 - (n - 1) + k) % 4 = (nx + 4 - n + k) % 4 := by omega
    rw [e]
    refine agB_frame (fun i j a b => hf i j ?_ ?_) (hk k k0 (by omega))
    · unfold ringB at a; omega
    · unfold ringB at a; omega
  · have e : (nx + 4 - n + (n - 1)) % 4 = (nx + 3) % 4 := by omega
    refine hc _ wr ?_
    rw [← e]
    exact hk (n - 1) (by omega) (by omega)
set_option maxHeartbeats 4000000 in
theorem qX2_restore_0 (m : AM) (hnx : m 17 1 = 0) : CS 4 mX2_restore [.inr 17, .inr 1] m (fun v m' => v = none ∧ (m' 17 1 = (0 + 3) % 4 ∧ m' 17 2 = m 17 2 - 1) ∧ (∀ r : Int → Int, wfR r → agB (ringB ((0 + 3) % 4)) r m → agB 1 r m') ∧ ∀ (k : Nat) (j : Int), k ≠ 17 → (k < 1 ∨ 17 ≤ k) → m' k j = m k j) := by
  refine cs_of (by decide +kernel) (Nat.le_of_ble_eq_true rfl) rfl ?_
  have hrem : iRem (m 17 1 + 4 - 1) 4 = 3 := by rw [hnx]; decide +kernel
  refine ap_ald_0 (pc := 0) dX2_restore_0 ?_
  refine ap_ald_0 (pc := 1) dX2_restore_1 ?_
  refine ap_getI (pc := 2) (jz := 1) dX2_restore_2 fl_RX2_18 sh_17 rfl rfl ?_
  refine ap_const (pc := 5) dX2_restore_5 ?_
  refine ap_iadd (pc := 6) dX2_restore_6 ?_
  refine ap_const (pc := 7) dX2_restore_7 ?_
  refine ap_isub (pc := 8) dX2_restore_8 ?_
  refine ap_const (pc := 9) dX2_restore_9 ?_
  refine ap_irem (pc := 10) dX2_restore_10 ⟨by omega, by omega⟩ (by decide) ?_
  refine ap_putI (pc := 11) (jz := 1) dX2_restore_11 fn_RX2_18 sh_17 rfl rfl (fun z => by cases z) ?_
  refine ap_ald_0 (pc := 14) dX2_restore_14 ?_
  refine ap_dup (pc := 15) dX2_restore_15 ?_
  refine ap_getI (pc := 16) (jz := 2) dX2_restore_16 fl_RX2_22 sh_17 rfl rfl ?_
  try simp (disch := omega) only [am_same, am_k, am_j]
  refine ap_const (pc := 19) dX2_restore_19 ?_
  refine ap_isub (pc := 20) dX2_restore_20 ?_
  refine ap_putI (pc := 21) (jz := 2) dX2_restore_21 fn_RX2_22 sh_17 rfl rfl (fun z => by cases z) ?_
  refine ap_ald_1 (pc := 24) dX2_restore_24 ?_
  refine ap_ald_0 (pc := 25) dX2_restore_25 ?_
  refine ap_getR (pc := 26) dX2_restore_26 fl_RX2_12 sh_17 rfl ?_
  refine ap_ald_0 (pc := 29) dX2_restore_29 ?_
  refine ap_getI (pc := 30) (jz := 1) dX2_restore_30 fl_RX2_18 sh_17 rfl rfl ?_
  try simp (disch := omega) only [am_same, am_k, am_j]
  refine ap_aaload (pc := 33) dX2_restore_33 sh_18 (by rw [hrem]; decide) (by rw [hrem]; rfl) (by decide) ?_
  refine ap_invV (pc := 34) dX2_restore_34 mv_RX2_25 sh_1 (av := [_]) (rest := []) (qX0_copyFrom bn_1 bn_67 _ (by omega)) rfl rfl (Nat.le_of_ble_eq_true rfl) (by decide) (by decide) ?_
  rintro _ m1 ⟨rfl, hc, hf⟩
  refine ap_return (pc := 37) dX2_restore_37 rfl ⟨rfl, ⟨?_, ?_⟩, fun r wr hr => ?_, fun k j hk hk2 => ?_⟩
  · rw [hf 17 1 (by omega), am_j (by omega), am_same, hrem]; decide +kernel
  · rw [hf 17 2 (by omega), am_same]
  · refine hc r wr (agB_frame (fun i j a b => ?_) hr)
    unfold ringB at a b
    rw [am_k (by simp at a b; omega), am_k (by simp at a b; omega)]
  · rw [hf k j (by omega), am_k hk, am_k hk]

set_option maxHeartbeats 4000000 in
theorem qX2_restore_1 (m : AM) (hnx : m 17 1 = 1) : CS 4 mX2_restore [.inr 17, .inr 1] m (fun v m' => v = none ∧ (m' 17 1 = (1 + 3) % 4 ∧ m' 17 2 = m 17 2 - 1) ∧ (∀ r : Int → Int, wfR r → agB (ringB ((1 + 3) % 4)) r m → agB 1 r m') ∧ ∀ (k : Nat) (j : Int), k ≠ 17 → (k < 1 ∨ 17 ≤ k) → m' k j = m k j) := by
  refine cs_of (by decide +kernel) (Nat.le_of_ble_eq_true rfl) rfl ?_
  have hrem : iRem (m 17 1 + 4 - 1) 4 = 0 := by rw [hnx]; decide +kernel
  refine ap_ald_0 (pc := 0) dX2_restore_0 ?_
  refine ap_ald_0 (pc := 1) dX2_restore_1 ?_
  refine ap_getI (pc := 2) (jz := 1) dX2_restore_2 fl_RX2_18 sh_17 rfl rfl ?_
  refine ap_const (pc := 5) dX2_restore_5 ?_
  refine ap_iadd (pc := 6) dX2_restore_6 ?_
  refine ap_const (pc := 7) dX2_restore_7 ?_
  refine ap_isub (pc := 8) dX2_restore_8 ?_
  refine ap_const (pc := 9) dX2_restore_9 ?_
  refine ap_irem (pc := 10) dX2_restore_10 ⟨by omega, by omega⟩ (by decide) ?_
  refine ap_putI (pc := 11) (jz := 1) dX2_restore_11 fn_RX2_18 sh_17 rfl rfl (fun z => by cases z) ?_
  refine ap_ald_0 (pc := 14) dX2_restore_14 ?_
  refine ap_dup (pc := 15) dX2_restore_15 ?_
  refine ap_getI (pc := 16) (jz := 2) dX2_restore_16 fl_RX2_22 sh_17 rfl rfl ?_
  try simp (disch := omega) only [am_same, am_k, am_j]
  refine ap_const (pc := 19) dX2_restore_19 ?_
  refine ap_isub (pc := 20) dX2_restore_20 ?_
  refine ap_putI (pc := 21) (jz := 2) dX2_restore_21 fn_RX2_22 sh_17 rfl rfl (fun z => by cases z) ?_
  refine ap_ald_1 (pc := 24) dX2_restore_24 ?_
  refine ap_ald_0 (pc := 25) dX2_restore_25 ?_
  refine ap_getR (pc := 26) dX2_restore_26 fl_RX2_12 sh_17 rfl ?_
  refine ap_ald_0 (pc := 29) dX2_restore_29 ?_
  refine ap_getI (pc := 30) (jz := 1) dX2_restore_30 fl_RX2_18 sh_17 rfl rfl ?_
  try simp (disch := omega) only [am_same, am_k, am_j]
  refine ap_aaload (pc := 33) dX2_restore_33 sh_18 (by rw [hrem]; decide) (by rw [hrem]; rfl) (by decide) ?_
  refine ap_invV (pc := 34) dX2_restore_34 mv_RX2_25 sh_1 (av := [_]) (rest := []) (qX0_copyFrom bn_1 bn_19 _ (by omega)) rfl rfl (Nat.le_of_ble_eq_true rfl) (by decide) (by decide) ?_
  rintro _ m1 ⟨rfl, hc, hf⟩
  refine ap_return (pc := 37) dX2_restore_37 rfl ⟨rfl, ⟨?_, ?_⟩, fun r wr hr => ?_, fun k j hk hk2 => ?_⟩
  · rw [hf 17 1 (by omega), am_j (by omega), am_same, hrem]; decide +kernel
  · rw [hf 17 2 (by omega), am_same]
  · refine hc r wr (agB_frame (fun i j a b => ?_) hr)
    unfold ringB at a b
    rw [am_k (by simp at a b; omega), am_k (by simp at a b; omega)]
  · rw [hf k j (by omega), am_k hk, am_k hk]

set_option maxHeartbeats 4000000 in
theorem qX2_restore_2 (m : AM) (hnx : m 17 1 = 2) : CS 4 mX2_restore [.inr 17, .inr 1] m (fun v m' => v = none ∧ (m' 17 1 = (2 + 3) % 4 ∧ m' 17 2 = m 17 2 - 1) ∧ (∀ r : Int → Int, wfR r → agB (ringB ((2 + 3) % 4)) r m → agB 1 r m') ∧ ∀ (k : Nat) (j : Int), k ≠ 17 → (k < 1 ∨ 17 ≤ k) → m' k j = m k j) := by
  refine cs_of (by decide +kernel) (Nat.le_of_ble_eq_true rfl) rfl ?_
  have hrem : iRem (m 17 1 + 4 - 1) 4 = 1 := by rw [hnx]; decide +kernel
  refine ap_ald_0 (pc := 0) dX2_restore_0 ?_
  refine ap_ald_0 (pc := 1) dX2_restore_1 ?_
  refine ap_getI (pc := 2) (jz := 1) dX2_restore_2 fl_RX2_18 sh_17 rfl rfl ?_
  refine ap_const (pc := 5) dX2_restore_5 ?_
  refine ap_iadd (pc := 6) dX2_restore_6 ?_
  refine ap_const (pc := 7) dX2_restore_7 ?_
  refine ap_isub (pc := 8) dX2_restore_8 ?_
  refine ap_const (pc := 9) dX2_restore_9 ?_
  refine ap_irem (pc := 10) dX2_restore_10 ⟨by omega, by omega⟩ (by decide) ?_
  refine ap_putI (pc := 11) (jz := 1) dX2_restore_11 fn_RX2_18 sh_17 rfl rfl (fun z => by cases z) ?_
  refine ap_ald_0 (pc := 14) dX2_restore_14 ?_
  refine ap_dup (pc := 15) dX2_restore_15 ?_
  refine ap_getI (pc := 16) (jz := 2) dX2_restore_16 fl_RX2_22 sh_17 rfl rfl ?_
  try simp (disch := omega) only [am_same, am_k, am_j]
  refine ap_const (pc := 19) dX2_restore_19 ?_
  refine ap_isub (pc := 20) dX2_restore_20 ?_
  refine ap_putI (pc := 21) (jz := 2) dX2_restore_21 fn_RX2_22 sh_17 rfl rfl (fun z => by cases z) ?_
  refine ap_ald_1 (pc := 24) dX2_restore_24 ?_
  refine ap_ald_0 (pc := 25) dX2_restore_25 ?_
  refine ap_getR (pc := 26) dX2_restore_26 fl_RX2_12 sh_17 rfl ?_
  refine ap_ald_0 (pc := 29) dX2_restore_29 ?_
  refine ap_getI (pc := 30) (jz := 1) dX2_restore_30 fl_RX2_18 sh_17 rfl rfl ?_
  try simp (disch := omega) only [am_same, am_k, am_j]
  refine ap_aaload (pc := 33) dX2_restore_33 sh_18 (by rw [hrem]; decide) (by rw [hrem]; rfl) (by decide) ?_
  refine ap_invV (pc := 34) dX2_restore_34 mv_RX2_25 sh_1 (av := [_]) (rest := []) (qX0_copyFrom bn_1 bn_35 _ (by omega)) rfl rfl (Nat.le_of_ble_eq_true rfl) (by decide) (by decide) ?_
  rintro _ m1 ⟨rfl, hc, hf⟩
  refine ap_return (pc := 37) dX2_restore_37 rfl ⟨rfl, ⟨?_, ?_⟩, fun r wr hr => ?_, fun k j hk hk2 => ?_⟩
  · rw [hf 17 1 (by omega), am_j (by omega), am_same, hrem]; decide +kernel
  · rw [hf 17 2 (by omega), am_same]
  · refine hc r wr (agB_frame (fun i j a b => ?_) hr)
    unfold ringB at a b
    rw [am_k (by simp at a b; omega), am_k (by simp at a b; omega)]
  · rw [hf k j (by omega), am_k hk, am_k hk]

set_option maxHeartbeats 4000000 in
theorem qX2_restore_3 (m : AM) (hnx : m 17 1 = 3) : CS 4 mX2_restore [.inr 17, .inr 1] m (fun v m' => v = none ∧ (m' 17 1 = (3 + 3) % 4 ∧ m' 17 2 = m 17 2 - 1) ∧ (∀ r : Int → Int, wfR r → agB (ringB ((3 + 3) % 4)) r m → agB 1 r m') ∧ ∀ (k : Nat) (j : Int), k ≠ 17 → (k < 1 ∨ 17 ≤ k) → m' k j = m k j) := by
  refine cs_of (by decide +kernel) (Nat.le_of_ble_eq_true rfl) rfl ?_
  have hrem : iRem (m 17 1 + 4 - 1) 4 = 2 := by rw [hnx]; decide +kernel
  refine ap_ald_0 (pc := 0) dX2_restore_0 ?_
  refine ap_ald_0 (pc := 1) dX2_restore_1 ?_
  refine ap_getI (pc := 2) (jz := 1) dX2_restore_2 fl_RX2_18 sh_17 rfl rfl ?_
  refine ap_const (pc := 5) dX2_restore_5 ?_
  refine ap_iadd (pc := 6) dX2_restore_6 ?_
  refine ap_const (pc := 7) dX2_restore_7 ?_
  refine ap_isub (pc := 8) dX2_restore_8 ?_
  refine ap_const (pc := 9) dX2_restore_9 ?_
  refine ap_irem (pc := 10) dX2_restore_10 ⟨by omega, by omega⟩ (by decide) ?_
  refine ap_putI (pc := 11) (jz := 1) dX2_restore_11 fn_RX2_18 sh_17 rfl rfl (fun z => by cases z) ?_
  refine ap_ald_0 (pc := 14) dX2_restore_14 ?_
  refine ap_dup (pc := 15) dX2_restore_15 ?_
  refine ap_getI (pc := 16) (jz := 2) dX2_restore_16 fl_RX2_22 sh_17 rfl rfl ?_
  try simp (disch := omega) only [am_same, am_k, am_j]
  refine ap_const (pc := 19) dX2_restore_19 ?_
  refine ap_isub (pc := 20) dX2_restore_20 ?_
  refine ap_putI (pc := 21) (jz := 2) dX2_restore_21 fn_RX2_22 sh_17 rfl rfl (fun z => by cases z) ?_
  refine ap_ald_1 (pc := 24) dX2_restore_24 ?_
  refine ap_ald_0 (pc := 25) dX2_restore_25 ?_
  refine ap_getR (pc := 26) dX2_restore_26 fl_RX2_12 sh_17 rfl ?_
  refine ap_ald_0 (pc := 29) dX2_restore_29 ?_
  refine ap_getI (pc := 30) (jz := 1) dX2_restore_30 fl_RX2_18 sh_17 rfl rfl ?_
  try simp (disch := omega) only [am_same, am_k, am_j]
  refine ap_aaload (pc := 33) dX2_restore_33 sh_18 (by rw [hrem]; decide) (by rw [hrem]; rfl) (by decide) ?_
  refine ap_invV (pc := 34) dX2_restore_34 mv_RX2_25 sh_1 (av := [_]) (rest := []) (qX0_copyFrom bn_1 bn_51 _ (by omega)) rfl rfl (Nat.le_of_ble_eq_true rfl) (by decide) (by decide) ?_
  rintro _ m1 ⟨rfl, hc, hf⟩
  refine ap_return (pc := 37) dX2_restore_37 rfl ⟨rfl, ⟨?_, ?_⟩, fun r wr hr => ?_, fun k j hk hk2 => ?_⟩
  · rw [hf 17 1 (by omega), am_j (by omega), am_same, hrem]; decide +kernel
  · rw [hf 17 2 (by omega), am_same]
  · refine hc r wr (agB_frame (fun i j a b => ?_) hr)
    unfold ringB at a b
    rw [am_k (by simp at a b; omega), am_k (by simp at a b; omega)]
  · rw [hf k j (by omega), am_k hk, am_k hk]

theorem qX2_restore (m : AM) {n : Int} {H : Int → Int → Int} (hn1 : 1 ≤ n) (wr : wfR (H (n - 1))) (h : HC n H m) : CS 4 mX2_restore [.inr 17, .inr 1] m (fun v m' => v = none ∧ HC (n - 1) H m' ∧ agB 1 (H (n - 1)) m' ∧ ∀ (k : Nat) (j : Int), (k < 1 ∨ 18 ≤ k) → m' k j = m k j) := by
  have h17 := h.2.2.1
  rcases (by omega : m 17 1 = 0 ∨ m 17 1 = 1 ∨ m 17 1 = 2 ∨ m 17 1 = 3) with e | e | e | e
  · refine (qX2_restore_0 m e).mono (Nat.le_refl _) (fun v m' q => ⟨q.1, (HC_rest (nx := 0) (by omega) e q.2.1.1 q.2.1.2 q.2.2.1 q.2.2.2 hn1 wr h).1, (HC_rest (nx := 0) (by omega) e q.2.1.1 q.2.1.2 q.2.2.1 q.2.2.2 hn1 wr h).2, fun k j hk => q.2.2.2 k j (by omega) (by omega)⟩)
  · refine (qX2_restore_1 m e).mono (Nat.le_refl _) (fun v m' q => ⟨q.1, (HC_rest (nx := 1) (by omega) e q.2.1.1 q.2.1.2 q.2.2.1 q.2.2.2 hn1 wr h).1, (HC_rest (nx := 1) (by omega) e q.2.1.1 q.2.1.2 q.2.2.1 q.2.2.2 hn1 wr h).2, fun k j hk => q.2.2.2 k j (by omega) (by omega)⟩)
  · refine (qX2_restore_2 m e).mono (Nat.le_refl _) (fun v m' q => ⟨q.1, (HC_rest (nx := 2) (by omega) e q.2.1.1 q.2.1.2 q.2.2.1 q.2.2.2 hn1 wr h).1, (HC_rest (nx := 2) (by omega) e q.2.1.1 q.2.1.2 q.2.2.1 q.2.2.2 hn1 wr h).2, fun k j hk => q.2.2.2 k j (by omega) (by omega)⟩)
  · refine (qX2_restore_3 m e).mono (Nat.le_refl _) (fun v m' q => ⟨q.1, (HC_rest (nx := 3) (by omega) e q.2.1.1 q.2.1.2 q.2.2.1 q.2.2.2 hn1 wr h).1, (HC_rest (nx := 3) (by omega) e q.2.1.1 q.2.1.2 q.2.2.1 q.2.2.2 hn1 wr h).2, fun k j hk => q.2.2.2 k j (by omega) (by omega)⟩)

