set_option maxHeartbeats 4000000 in
theorem qX0_copyFrom {b b2 : Nat} (hb : isBn b) (hb2 : isBn b2) (m : AM) (hd : b + 16 ≤ b2 ∨ b2 + 16 ≤ b) : CS 3 mX0_copyFrom [.inr b, .inr b2] m (fun v m' => v = none ∧ (∀ r : Int → Int, wfR r → agB b2 r m → agB b r m') ∧ ∀ (k : Nat) (j : Int), (k < b ∨ b + 16 ≤ k) → m' k j = m k j) := by
  refine cs_of (by decide +kernel) (Nat.le_of_ble_eq_true rfl) rfl ?_
  refine ap_ald_0 (pc := 0) dX0_copyFrom_0 ?_
  refine ap_getR (pc := 1) dX0_copyFrom_1 fl_RX0_12 hb.o rfl ?_
  refine ap_ald_1 (pc := 4) dX0_copyFrom_4 ?_
  refine ap_getR (pc := 5) dX0_copyFrom_5 fl_RX0_12 hb2.o rfl ?_
  refine ap_invV (pc := 8) dX0_copyFrom_8 mv_RX0_39 hb.p.o (av := [_]) (rest := []) (qX3_copyFrom hb.p hb2.p _ (by omega)) rfl rfl (Nat.le_of_ble_eq_true rfl) (by decide) (by decide) ?_
  rintro _ m1 ⟨rfl, ⟨a1, a2, a3, a4⟩, f1⟩
  refine ap_ald_0 (pc := 11) dX0_copyFrom_11 ?_
  refine ap_getR (pc := 12) dX0_copyFrom_12 fl_RX0_21 hb.o rfl ?_
  refine ap_ald_1 (pc := 15) dX0_copyFrom_15 ?_
  refine ap_getR (pc := 16) dX0_copyFrom_16 fl_RX0_21 hb2.o rfl ?_
  refine ap_invV (pc := 19) dX0_copyFrom_19 mv_RX0_43 hb.l.o (av := [_]) (rest := []) (qX5_copyFrom hb.l hb2.l _ (by omega)) rfl rfl (Nat.le_of_ble_eq_true rfl) (by decide) (by decide) ?_
  rintro _ m2 ⟨rfl, ⟨b1, b2_, b3, b4, b5⟩, f2⟩
  refine ap_ald_0 (pc := 22) dX0_copyFrom_22 ?_
  refine ap_getR (pc := 23) dX0_copyFrom_23 fl_RX0_28 hb.o rfl ?_
  refine ap_ald_1 (pc := 26) dX0_copyFrom_26 ?_
  refine ap_getR (pc := 27) dX0_copyFrom_27 fl_RX0_28 hb2.o rfl ?_
  refine ap_invV (pc := 30) dX0_copyFrom_30 mv_RX0_46 hb.w.o (av := [_]) (rest := []) (qX7_copyFrom hb.w hb2.w _ (by omega)) rfl rfl (Nat.le_of_ble_eq_true rfl) (by decide) (by decide) ?_
  rintro _ m3 ⟨rfl, ⟨d1, d2⟩, f3⟩
  refine ap_ald_1 (pc := 33) dX0_copyFrom_33 ?_
  refine ap_getR (pc := 34) dX0_copyFrom_34 fl_RX0_32 hb2.o rfl ?_
  refine ap_ald_0 (pc := 37) dX0_copyFrom_37 ?_
  refine ap_getR (pc := 38) dX0_copyFrom_38 fl_RX0_32 hb.o rfl ?_
  refine ap_invS (pc := 41) dX0_copyFrom_41 ms_RX0_49 (av := [_, _]) (rest := []) (qX8_copyRow _ _ _ _ hb2.s hb.s (by decide)) rfl rfl (Nat.le_of_ble_eq_true rfl) (by decide) (by decide) ?_
  rintro _ _ ⟨rfl, rfl⟩
  refine ap_ald_1 (pc := 44) dX0_copyFrom_44 ?_
  refine ap_getR (pc := 45) dX0_copyFrom_45 fl_RX0_36 hb2.o rfl ?_
  refine ap_ald_0 (pc := 48) dX0_copyFrom_48 ?_
  refine ap_getR (pc := 49) dX0_copyFrom_49 fl_RX0_36 hb.o rfl ?_
  refine ap_invS (pc := 52) dX0_copyFrom_52 ms_RX0_49 (av := [_, _]) (rest := []) (qX8_copyRow _ _ _ _ hb2.t hb.t (by decide)) rfl rfl (Nat.le_of_ble_eq_true rfl) (by decide) (by decide) ?_
  rintro _ _ ⟨rfl, rfl⟩
  refine ap_return (pc := 55) dX0_copyFrom_55 rfl ⟨rfl, fun r wR hr => ?_, fun k j hk => ?_⟩
  · obtain ⟨wC, wP, wS, wW⟩ := wR
    obtain ⟨⟨r1, r2⟩, ⟨r3, r4, r5⟩, ⟨r6, r7⟩, r8⟩ := hr
    have h12 := wC.1
    have e1 : ∀ j : Int, 0 ≤ j → j < 12 → m3 (b + 2) j = m (b2 + 2) j := fun j x y => by rw [f3 _ _ (by omega), f2 _ _ (by omega)]; exact a1 j x y
    have e2 : ∀ j : Int, 0 ≤ j → j < 12 → m3 (b + 3) j = m (b2 + 3) j := fun j x y => by rw [f3 _ _ (by omega), f2 _ _ (by omega)]; exact a2 j x y
    have e3 : ∀ j : Int, 0 ≤ j → j < 12 → m3 (b + 4) j = m (b2 + 4) j := fun j x y => by rw [f3 _ _ (by omega), f2 _ _ (by omega)]; exact a3 j x y
    have e4 : m3 (b + 1) 3 = m (b2 + 1) 3 := by rw [f3 _ _ (by omega), f2 _ _ (by omega)]; exact a4
    have g1 : ∀ j : Int, 0 ≤ j → j < 7 → m3 (b + 6) j = m (b2 + 6) j := fun j x y => by rw [f3 _ _ (by omega), b1 j x y]; exact f1 _ _ (by omega)
    have g2 : ∀ j : Int, 0 ≤ j → j < 21 → m3 (b + 7) j = m (b2 + 7) j := fun j x y => by rw [f3 _ _ (by omega), b2_ j x y]; exact f1 _ _ (by omega)
    have g3 : ∀ j : Int, 0 ≤ j → j < 21 → m3 (b + 8) j = m (b2 + 8) j := fun j x y => by rw [f3 _ _ (by omega), b3 j x y]; exact f1 _ _ (by omega)
    have g4 : ∀ j : Int, 0 ≤ j → j < 21 → m3 (b + 9) j = m (b2 + 9) j := fun j x y => by rw [f3 _ _ (by omega), b4 j x y]; exact f1 _ _ (by omega)
    have g5 : ∀ j : Int, 0 ≤ j → j < 6 → m3 (b + 10) j = m (b2 + 10) j := fun j x y => by rw [f3 _ _ (by omega), b5 j x y]; exact f1 _ _ (by omega)
    have i1 : ∀ j : Int, 0 ≤ j → j < 6 → m3 (b + 12) j = m (b2 + 12) j := fun j x y => by rw [d1 j x y, f2 _ _ (by omega)]; exact f1 _ _ (by omega)
    have i2 : ∀ j : Int, 0 ≤ j → j < 18 → m3 (b + 13) j = m (b2 + 13) j := fun j x y => by rw [d2 j x y, f2 _ _ (by omega)]; exact f1 _ _ (by omega)
    have s0 : ∀ (k : Nat) (j : Int), k ≠ b + 14 → k ≠ b + 15 → am_cpy (am_cpy m3 (b2 + 14) (b + 14) 0 0 ((3 : Nat) : Int)) (b2 + 15) (b + 15) 0 0 ((9 : Nat) : Int) k j = m3 k j := fun k j x y => by rw [cp_ne y, cp_ne x]
    have old : ∀ (k : Nat) (j : Int), (k < b ∨ b + 16 ≤ k) → m3 k j = m k j := fun k j hk => by rw [f3 _ _ (by omega), f2 _ _ (by omega)]; exact f1 _ _ (by omega)
    refine ⟨⟨?_, fun c c0 c1 => ?_⟩, ⟨fun f f0 f7 => ?_, fun f l f0 f7 l0 l1 => ?_, fun f f0 f6 => ?_⟩, ⟨fun k k0 k3 => ?_, fun k k0 k9 => ?_⟩, fun f f0 f6 => ⟨?_, fun k k0 k1 => ?_⟩⟩
    · rw [s0 _ _ (by omega) (by omega), e4]; exact r1
    · have h := r2 c c0 c1
      rw [s0 _ _ (by omega) (by omega), s0 _ _ (by omega) (by omega), s0 _ _ (by omega) (by omega), e1 c c0 (by omega), e2 c c0 (by omega), e3 c c0 (by omega)]; exact h
    · rw [s0 _ _ (by omega) (by omega), g1 f f0 f7]; exact r3 f f0 f7
    · have h := r4 f l f0 f7 l0 l1
      have hz := (wP.1 f f0 f7).1
      rw [s0 _ _ (by omega) (by omega), s0 _ _ (by omega) (by omega), s0 _ _ (by omega) (by omega), g2 _ (by omega) (by omega), g3 _ (by omega) (by omega), g4 _ (by omega) (by omega)]; exact h
    · rw [s0 _ _ (by omega) (by omega), g5 f f0 f6]; exact r5 f f0 f6
    · rw [cp_ne (by omega), cp_at rfl k0 (by omega), old _ _ (by omega)]; exact r6 k k0 k3
    · rw [cp_at rfl k0 (by omega), cp_ne (by omega), old _ _ (by omega)]; exact r7 k k0 k9
    · rw [s0 _ _ (by omega) (by omega), i1 f f0 f6]; exact (r8 f f0 f6).1
    · have hz := (wW f f0 f6).1
      rw [s0 _ _ (by omega) (by omega), i2 _ (by omega) (by omega)]; exact (r8 f f0 f6).2 k k0 k1
  · rw [cp_ne (by omega), cp_ne (by omega), f3 _ _ (by omega), f2 _ _ (by omega)]; exact f1 _ _ (by omega)

