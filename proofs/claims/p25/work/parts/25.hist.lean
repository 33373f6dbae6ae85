
def ringB (i : Int) : Nat := 19 + 16 * i.toNat
def HC (n : Int) (H : Int → Int → Int) (m : AM) : Prop := m 17 2 = n ∧ (0 ≤ n ∧ n ≤ 4) ∧ (0 ≤ m 17 1 ∧ m 17 1 ≤ 3) ∧ ∀ k : Int, 0 ≤ k → k < n → agB (ringB ((m 17 1 + 4 - n + k) % 4)) (H k) m
def hH (n : Int) (H : Int → Int → Int) (r : Int → Int) : Int → Int → Int := fun k => if n < 4 then (if k = n then r else H k) else (if k = 3 then r else H (k + 1))
theorem agB_frame {b : Nat} {r : Int → Int} {m m' : AM} (h : ∀ (k : Nat) (j : Int), b ≤ k → k < b + 16 → m' k j = m k j) (g : agB b r m) : agB b r m' := by
  obtain ⟨⟨r1, r2⟩, ⟨r3, r4, r5⟩, ⟨r6, r7⟩, r8⟩ := g
  refine ⟨⟨?_, fun c c0 c1 => ?_⟩, ⟨fun f f0 f7 => ?_, fun f l f0 f7 l0 l1 => ?_, fun f f0 f6 => ?_⟩, ⟨fun k k0 k3 => ?_, fun k k0 k9 => ?_⟩, fun f f0 f6 => ⟨?_, fun k k0 k1 => ?_⟩⟩
  · rw [h _ _ (by omega) (by omega)]; exact r1
  · rw [h _ _ (by omega) (by omega), h _ _ (by omega) (by omega), h _ _ (by omega) (by omega)]; exact r2 c c0 c1
  · rw [h _ _ (by omega) (by omega)]; exact r3 f f0 f7
  · rw [h _ _ (by omega) (by omega), h _ _ (by omega) (by omega), h _ _ (by omega) (by omega)]; exact r4 f l f0 f7 l0 l1
  · rw [h _ _ (by omega) (by omega)]; exact r5 f f0 f6
  · rw [h _ _ (by omega) (by omega)]; exact r6 k k0 k3
  · rw [h _ _ (by omega) (by omega)]; exact r7 k k0 k9
  · rw [h _ _ (by omega) (by omega)]; exact (r8 f f0 f6).1
  · rw [h _ _ (by omega) (by omega)]; exact (r8 f f0 f6).2 k k0 k1
theorem HC_keep {nx : Int} (hnx : 0 ≤ nx ∧ nx ≤ 3) {m m' : AM} (h1 : m 17 1 = nx) (h1' : m' 17 1 = (nx + 1) % 4) (h2' : m' 17 2 = min (m 17 2 + 1) 4) (hc : ∀ r : Int → Int, wfR r → agB 1 r m → agB (ringB nx) r m') (hf : ∀ (k : Nat) (j : Int), k ≠ 17 → (k < ringB nx ∨ ringB nx + 16 ≤ k) → m' k j = m k j) {n : Int} {H : Int → Int → Int} {r : Int → Int} (wr : wfR r) (hH0 : HC n H m) (hr : agB 1 r m) : HC (min (n + 1) 4) (hH n H r) m' := by
  obtain ⟨e2, hn, -, hk⟩ := hH0
  rw [h1] at hk
  have old : ∀ k : Int, 0 ≤ k → k < n → (nx + 4 - n + k) % 4 ≠ nx → agB (ringB ((nx + 4 - n + k) % 4)) (H k) m' := fun k k0 k1 hne => by
    refine agB_frame (fun i j a b => hf i j ?_ ?_) (hk k k0 k1)
    · unfold ringB at a; omega
    · unfold ringB at a b ⊢; omega
  refine ⟨by rw [h2', e2], by omega, by omega, fun k k0 k1 => ?_⟩
  rw [h1']
  by_cases h4 : n < 4
  · have em : min (n + 1) 4 = n + 1 := by omega
    rw [em] at k1 ⊢
    by_cases ek : k = n
    · have e : ((nx + 1) % 4 + 4 - (n + 1) + k) % 4 = nx := by omega
      rw [e]; simp only [hH, if_pos h4, if_pos ek]; exact hc r wr hr
    · have e : ((nx + 1) % 4 + 4 - (n + 1) + k) % 4 = (nx + 4 - n + k) % 4 := by omega
      rw [e]; simp only [hH, if_pos h4, if_neg ek]; exact old k k0 (by omega) (by omega)
  · have em : min (n + 1) 4 = 4 := by omega
    rw [em] at k1 ⊢
    by_cases ek : k = 3
    · have e : ((nx + 1) % 4 + 4 - 4 + k) % 4 = nx := by omega
      rw [e]; simp only [hH, if_neg h4, if_pos ek]; exact hc r wr hr
    · have e : ((nx + 1) % 4 + 4 - 4 + k) % 4 = (nx + 4 - n + (k + 1)) % 4 := by omega
      rw [e]; simp only [hH, if_neg h4, if_neg ek]; exact old (k + 1) (by omega) (by omega) (by omega)
set_option maxHeartbeats 4000000 in
theorem qX2_keep_0 (m : AM) (hnx : m 17 1 = 0) (hs : 0 ≤ m 17 2 ∧ m 17 2 ≤ 4) : CS 4 mX2_keep [.inr 17, .inr 1] m (fun v m' => v = none ∧ (m' 17 1 = (0 + 1) % 4 ∧ m' 17 2 = min (m 17 2 + 1) 4) ∧ (∀ r : Int → Int, wfR r → agB 1 r m → agB (ringB 0) r m') ∧ ∀ (k : Nat) (j : Int), k ≠ 17 → (k < ringB 0 ∨ ringB 0 + 16 ≤ k) → m' k j = m k j) := by
  refine cs_of (by decide +kernel) (Nat.le_of_ble_eq_true rfl) rfl ?_
  refine ap_ald_0 (pc := 0) dX2_keep_0 ?_
  refine ap_getR (pc := 1) dX2_keep_1 fl_RX2_12 sh_17 rfl ?_
  refine ap_ald_0 (pc := 4) dX2_keep_4 ?_
  refine ap_getI (pc := 5) (jz := 1) dX2_keep_5 fl_RX2_18 sh_17 rfl rfl ?_
  refine ap_aaload (pc := 8) dX2_keep_8 sh_18 (by omega) (by rw [hnx]; rfl) (by decide) ?_
  refine ap_ald_1 (pc := 9) dX2_keep_9 ?_
  refine ap_invV (pc := 10) dX2_keep_10 mv_RX2_25 sh_19 (av := [_]) (rest := []) (qX0_copyFrom bn_19 bn_1 _ (by omega)) rfl rfl (Nat.le_of_ble_eq_true rfl) (by decide) (by decide) ?_
  rintro _ m1 ⟨rfl, hc, hf⟩
  have k1 : m1 17 1 = m 17 1 := hf 17 1 (by omega)
  have k2 : m1 17 2 = m 17 2 := hf 17 2 (by omega)
  refine ap_ald_0 (pc := 13) dX2_keep_13 ?_
  refine ap_ald_0 (pc := 14) dX2_keep_14 ?_
  refine ap_getI (pc := 15) (jz := 1) dX2_keep_15 fl_RX2_18 sh_17 rfl rfl ?_
  refine ap_const (pc := 18) dX2_keep_18 ?_
  refine ap_iadd (pc := 19) dX2_keep_19 ?_
  refine ap_const (pc := 20) dX2_keep_20 ?_
  refine ap_irem (pc := 21) dX2_keep_21 ⟨by omega, by omega⟩ (by decide) ?_
  refine ap_putI (pc := 22) (jz := 1) dX2_keep_22 fn_RX2_18 sh_17 rfl rfl (fun z => by cases z) ?_
  refine ap_ald_0 (pc := 25) dX2_keep_25 ?_
  refine ap_ald_0 (pc := 26) dX2_keep_26 ?_
  refine ap_getI (pc := 27) (jz := 2) dX2_keep_27 fl_RX2_22 sh_17 rfl rfl ?_
  try simp (disch := omega) only [am_same, am_k, am_j]
  refine ap_const (pc := 30) dX2_keep_30 ?_
  refine ap_iadd (pc := 31) dX2_keep_31 ?_
  refine ap_const (pc := 32) dX2_keep_32 ?_
  refine ap_mmin (pc := 33) dX2_keep_33 jl_RX2_29 jw_min (by decide) (Nat.le_of_ble_eq_true rfl) ⟨by omega, by omega⟩ ⟨by omega, by omega⟩ ?_
  refine ap_putI (pc := 36) (jz := 2) dX2_keep_36 fn_RX2_22 sh_17 rfl rfl (fun z => by cases z) ?_
  refine ap_return (pc := 39) dX2_keep_39 rfl ⟨rfl, ⟨?_, ?_⟩, fun r wr hr => ?_, fun k j hk hk2 => ?_⟩
  · rw [am_j (by omega), am_same, k1, hnx]; decide +kernel
  · rw [am_same]; try simp (disch := omega) only [am_same, am_k, am_j]
    rw [k2]
  · refine agB_frame (fun i j a b => ?_) (hc r wr hr)
    unfold ringB at a b
    rw [am_k (by simp at a b; omega), am_k (by simp at a b; omega)]
  · rw [am_k hk, am_k hk]; exact hf k j hk2

set_option maxHeartbeats 4000000 in
theorem qX2_keep_1 (m : AM) (hnx : m 17 1 = 1) (hs : 0 ≤ m 17 2 ∧ m 17 2 ≤ 4) : CS 4 mX2_keep [.inr 17, .inr 1] m (fun v m' => v = none ∧ (m' 17 1 = (1 + 1) % 4 ∧ m' 17 2 = min (m 17 2 + 1) 4) ∧ (∀ r : Int → Int, wfR r → agB 1 r m → agB (ringB 1) r m') ∧ ∀ (k : Nat) (j : Int), k ≠ 17 → (k < ringB 1 ∨ ringB 1 + 16 ≤ k) → m' k j = m k j) := by
  refine cs_of (by decide +kernel) (Nat.le_of_ble_eq_true rfl) rfl ?_
  refine ap_ald_0 (pc := 0) dX2_keep_0 ?_
  refine ap_getR (pc := 1) dX2_keep_1 fl_RX2_12 sh_17 rfl ?_
  refine ap_ald_0 (pc := 4) dX2_keep_4 ?_
  refine ap_getI (pc := 5) (jz := 1) dX2_keep_5 fl_RX2_18 sh_17 rfl rfl ?_
  refine ap_aaload (pc := 8) dX2_keep_8 sh_18 (by omega) (by rw [hnx]; rfl) (by decide) ?_
  refine ap_ald_1 (pc := 9) dX2_keep_9 ?_
  refine ap_invV (pc := 10) dX2_keep_10 mv_RX2_25 sh_35 (av := [_]) (rest := []) (qX0_copyFrom bn_35 bn_1 _ (by omega)) rfl rfl (Nat.le_of_ble_eq_true rfl) (by decide) (by decide) ?_
  rintro _ m1 ⟨rfl, hc, hf⟩
  have k1 : m1 17 1 = m 17 1 := hf 17 1 (by omega)
  have k2 : m1 17 2 = m 17 2 := hf 17 2 (by omega)
  refine ap_ald_0 (pc := 13) dX2_keep_13 ?_
  refine ap_ald_0 (pc := 14) dX2_keep_14 ?_
  refine ap_getI (pc := 15) (jz := 1) dX2_keep_15 fl_RX2_18 sh_17 rfl rfl ?_
  refine ap_const (pc := 18) dX2_keep_18 ?_
  refine ap_iadd (pc := 19) dX2_keep_19 ?_
  refine ap_const (pc := 20) dX2_keep_20 ?_
  refine ap_irem (pc := 21) dX2_keep_21 ⟨by omega, by omega⟩ (by decide) ?_
  refine ap_putI (pc := 22) (jz := 1) dX2_keep_22 fn_RX2_18 sh_17 rfl rfl (fun z => by cases z) ?_
  refine ap_ald_0 (pc := 25) dX2_keep_25 ?_
  refine ap_ald_0 (pc := 26) dX2_keep_26 ?_
  refine ap_getI (pc := 27) (jz := 2) dX2_keep_27 fl_RX2_22 sh_17 rfl rfl ?_
  try simp (disch := omega) only [am_same, am_k, am_j]
  refine ap_const (pc := 30) dX2_keep_30 ?_
  refine ap_iadd (pc := 31) dX2_keep_31 ?_
  refine ap_const (pc := 32) dX2_keep_32 ?_
  refine ap_mmin (pc := 33) dX2_keep_33 jl_RX2_29 jw_min (by decide) (Nat.le_of_ble_eq_true rfl) ⟨by omega, by omega⟩ ⟨by omega, by omega⟩ ?_
  refine ap_putI (pc := 36) (jz := 2) dX2_keep_36 fn_RX2_22 sh_17 rfl rfl (fun z => by cases z) ?_
  refine ap_return (pc := 39) dX2_keep_39 rfl ⟨rfl, ⟨?_, ?_⟩, fun r wr hr => ?_, fun k j hk hk2 => ?_⟩
  · rw [am_j (by omega), am_same, k1, hnx]; decide +kernel
  · rw [am_same]; try simp (disch := omega) only [am_same, am_k, am_j]
    rw [k2]
  · refine agB_frame (fun i j a b => ?_) (hc r wr hr)
    unfold ringB at a b
    rw [am_k (by simp at a b; omega), am_k (by simp at a b; omega)]
  · rw [am_k hk, am_k hk]; exact hf k j hk2

set_option maxHeartbeats 4000000 in
theorem qX2_keep_2 (m : AM) (hnx : m 17 1 = 2) (hs : 0 ≤ m 17 2 ∧ m 17 2 ≤ 4) : CS 4 mX2_keep [.inr 17, .inr 1] m (fun v m' => v = none ∧ (m' 17 1 = (2 + 1) % 4 ∧ m' 17 2 = min (m 17 2 + 1) 4) ∧ (∀ r : Int → Int, wfR r → agB 1 r m → agB (ringB 2) r m') ∧ ∀ (k : Nat) (j : Int), k ≠ 17 → (k < ringB 2 ∨ ringB 2 + 16 ≤ k) → m' k j = m k j) := by
  refine cs_of (by decide +kernel) (Nat.le_of_ble_eq_true rfl) rfl ?_
  refine ap_ald_0 (pc := 0) dX2_keep_0 ?_
  refine ap_getR (pc := 1) dX2_keep_1 fl_RX2_12 sh_17 rfl ?_
  refine ap_ald_0 (pc := 4) dX2_keep_4 ?_
  refine ap_getI (pc := 5) (jz := 1) dX2_keep_5 fl_RX2_18 sh_17 rfl rfl ?_
  refine ap_aaload (pc := 8) dX2_keep_8 sh_18 (by omega) (by rw [hnx]; rfl) (by decide) ?_
  refine ap_ald_1 (pc := 9) dX2_keep_9 ?_
  refine ap_invV (pc := 10) dX2_keep_10 mv_RX2_25 sh_51 (av := [_]) (rest := []) (qX0_copyFrom bn_51 bn_1 _ (by omega)) rfl rfl (Nat.le_of_ble_eq_true rfl) (by decide) (by decide) ?_
  rintro _ m1 ⟨rfl, hc, hf⟩
  have k1 : m1 17 1 = m 17 1 := hf 17 1 (by omega)
  have k2 : m1 17 2 = m 17 2 := hf 17 2 (by omega)
  refine ap_ald_0 (pc := 13) dX2_keep_13 ?_
  refine ap_ald_0 (pc := 14) dX2_keep_14 ?_
  refine ap_getI (pc := 15) (jz := 1) dX2_keep_15 fl_RX2_18 sh_17 rfl rfl ?_
  refine ap_const (pc := 18) dX2_keep_18 ?_
  refine ap_iadd (pc := 19) dX2_keep_19 ?_
  refine ap_const (pc := 20) dX2_keep_20 ?_
  refine ap_irem (pc := 21) dX2_keep_21 ⟨by omega, by omega⟩ (by decide) ?_
  refine ap_putI (pc := 22) (jz := 1) dX2_keep_22 fn_RX2_18 sh_17 rfl rfl (fun z => by cases z) ?_
  refine ap_ald_0 (pc := 25) dX2_keep_25 ?_
  refine ap_ald_0 (pc := 26) dX2_keep_26 ?_
  refine ap_getI (pc := 27) (jz := 2) dX2_keep_27 fl_RX2_22 sh_17 rfl rfl ?_
  try simp (disch := omega) only [am_same, am_k, am_j]
  refine ap_const (pc := 30) dX2_keep_30 ?_
  refine ap_iadd (pc := 31) dX2_keep_31 ?_
  refine ap_const (pc := 32) dX2_keep_32 ?_
  refine ap_mmin (pc := 33) dX2_keep_33 jl_RX2_29 jw_min (by decide) (Nat.le_of_ble_eq_true rfl) ⟨by omega, by omega⟩ ⟨by omega, by omega⟩ ?_
  refine ap_putI (pc := 36) (jz := 2) dX2_keep_36 fn_RX2_22 sh_17 rfl rfl (fun z => by cases z) ?_
  refine ap_return (pc := 39) dX2_keep_39 rfl ⟨rfl, ⟨?_, ?_⟩, fun r wr hr => ?_, fun k j hk hk2 => ?_⟩
  · rw [am_j (by omega), am_same, k1, hnx]; decide +kernel
  · rw [am_same]; try simp (disch := omega) only [am_same, am_k, am_j]
    rw [k2]
  · refine agB_frame (fun i j a b => ?_) (hc r wr hr)
    unfold ringB at a b
    rw [am_k (by simp at a b; omega), am_k (by simp at a b; omega)]
  · rw [am_k hk, am_k hk]; exact hf k j hk2

set_option maxHeartbeats 4000000 in
theorem qX2_keep_3 (m : AM) (hnx : m 17 1 = 3) (hs : 0 ≤ m 17 2 ∧ m 17 2 ≤ 4) : CS 4 mX2_keep [.inr 17, .inr 1] m (fun v m' => v = none ∧ (m' 17 1 = (3 + 1) % 4 ∧ m' 17 2 = min (m 17 2 + 1) 4) ∧ (∀ r : Int → Int, wfR r → agB 1 r m → agB (ringB 3) r m') ∧ ∀ (k : Nat) (j : Int), k ≠ 17 → (k < ringB 3 ∨ ringB 3 + 16 ≤ k) → m' k j = m k j) := by
  refine cs_of (by decide +kernel) (Nat.le_of_ble_eq_true rfl) rfl ?_
  refine ap_ald_0 (pc := 0) dX2_keep_0 ?_
  refine ap_getR (pc := 1) dX2_keep_1 fl_RX2_12 sh_17 rfl ?_
  refine ap_ald_0 (pc := 4) dX2_keep_4 ?_
  refine ap_getI (pc := 5) (jz := 1) dX2_keep_5 fl_RX2_18 sh_17 rfl rfl ?_
  refine ap_aaload (pc := 8) dX2_keep_8 sh_18 (by omega) (by rw [hnx]; rfl) (by decide) ?_
  refine ap_ald_1 (pc := 9) dX2_keep_9 ?_
  refine ap_invV (pc := 10) dX2_keep_10 mv_RX2_25 sh_67 (av := [_]) (rest := []) (qX0_copyFrom bn_67 bn_1 _ (by omega)) rfl rfl (Nat.le_of_ble_eq_true rfl) (by decide) (by decide) ?_
  rintro _ m1 ⟨rfl, hc, hf⟩
  have k1 : m1 17 1 = m 17 1 := hf 17 1 (by omega)
  have k2 : m1 17 2 = m 17 2 := hf 17 2 (by omega)
  refine ap_ald_0 (pc := 13) dX2_keep_13 ?_
  refine ap_ald_0 (pc := 14) dX2_keep_14 ?_
  refine ap_getI (pc := 15) (jz := 1) dX2_keep_15 fl_RX2_18 sh_17 rfl rfl ?_
  refine ap_const (pc := 18) dX2_keep_18 ?_
  refine ap_iadd (pc := 19) dX2_keep_19 ?_
  refine ap_const (pc := 20) dX2_keep_20 ?_
  refine ap_irem (pc := 21) dX2_keep_21 ⟨by omega, by omega⟩ (by decide) ?_
  refine ap_putI (pc := 22) (jz := 1) dX2_keep_22 fn_RX2_18 sh_17 rfl rfl (fun z => by cases z) ?_
  refine ap_ald_0 (pc := 25) dX2_keep_25 ?_
  refine ap_ald_0 (pc := 26) dX2_keep_26 ?_
  refine ap_getI (pc := 27) (jz := 2) dX2_keep_27 fl_RX2_22 sh_17 rfl rfl ?_
  try simp (disch := omega) only [am_same, am_k, am_j]
  refine ap_const (pc := 30) dX2_keep_30 ?_
  refine ap_iadd (pc := 31) dX2_keep_31 ?_
  refine ap_const (pc := 32) dX2_keep_32 ?_
  refine ap_mmin (pc := 33) dX2_keep_33 jl_RX2_29 jw_min (by decide) (Nat.le_of_ble_eq_true rfl) ⟨by omega, by omega⟩ ⟨by omega, by omega⟩ ?_
  refine ap_putI (pc := 36) (jz := 2) dX2_keep_36 fn_RX2_22 sh_17 rfl rfl (fun z => by cases z) ?_
  refine ap_return (pc := 39) dX2_keep_39 rfl ⟨rfl, ⟨?_, ?_⟩, fun r wr hr => ?_, fun k j hk hk2 => ?_⟩
  · rw [am_j (by omega), am_same, k1, hnx]; decide +kernel
  · rw [am_same]; try simp (disch := omega) only [am_same, am_k, am_j]
    rw [k2]
  · refine agB_frame (fun i j a b => ?_) (hc r wr hr)
    unfold ringB at a b
    rw [am_k (by simp at a b; omega), am_k (by simp at a b; omega)]
  · rw [am_k hk, am_k hk]; exact hf k j hk2

theorem qX2_keep (m : AM) {n : Int} {H : Int → Int → Int} {r : Int → Int} (wr : wfR r) (h : HC n H m) (hr : agB 1 r m) : CS 4 mX2_keep [.inr 17, .inr 1] m (fun v m' => v = none ∧ HC (min (n + 1) 4) (hH n H r) m' ∧ agB 1 r m' ∧ ∀ (k : Nat) (j : Int), (k < 17 ∨ 83 ≤ k) → m' k j = m k j) := by
  have h17 := h.2.2.1
  have hs : 0 ≤ m 17 2 ∧ m 17 2 ≤ 4 := by rw [h.1]; exact h.2.1
  rcases (by omega : m 17 1 = 0 ∨ m 17 1 = 1 ∨ m 17 1 = 2 ∨ m 17 1 = 3) with e | e | e | e
  · refine (qX2_keep_0 m e hs).mono (Nat.le_refl _) (fun v m' q => ⟨q.1, HC_keep (nx := 0) (by omega) e q.2.1.1 q.2.1.2 q.2.2.1 q.2.2.2 wr h hr, agB_frame (fun k j a b => q.2.2.2 k j (by omega) (by unfold ringB; simp; omega)) hr, fun k j hk => q.2.2.2 k j (by omega) (by unfold ringB; simp; omega)⟩)
  · refine (qX2_keep_1 m e hs).mono (Nat.le_refl _) (fun v m' q => ⟨q.1, HC_keep (nx := 1) (by omega) e q.2.1.1 q.2.1.2 q.2.2.1 q.2.2.2 wr h hr, agB_frame (fun k j a b => q.2.2.2 k j (by omega) (by unfold ringB; simp; omega)) hr, fun k j hk => q.2.2.2 k j (by omega) (by unfold ringB; simp; omega)⟩)
  · refine (qX2_keep_2 m e hs).mono (Nat.le_refl _) (fun v m' q => ⟨q.1, HC_keep (nx := 2) (by omega) e q.2.1.1 q.2.1.2 q.2.2.1 q.2.2.2 wr h hr, agB_frame (fun k j a b => q.2.2.2 k j (by omega) (by unfold ringB; simp; omega)) hr, fun k j hk => q.2.2.2 k j (by omega) (by unfold ringB; simp; omega)⟩)
  · refine (qX2_keep_3 m e hs).mono (Nat.le_refl _) (fun v m' q => ⟨q.1, HC_keep (nx := 3) (by omega) e q.2.1.1 q.2.1.2 q.2.2.1 q.2.2.2 wr h hr, agB_frame (fun k j a b => q.2.2.2 k j (by omega) (by unfold ringB; simp; omega)) hr, fun k j hk => q.2.2.2 k j (by omega) (by unfold ringB; simp; omega)⟩)

