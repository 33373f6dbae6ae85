
theorem am_ne {m : AM} {k k' : Nat} {i j v : Int} (h : ¬ (k = k' ∧ j = i)) : am_up m k' i v k j = m k j := by
  by_cases e : k = k'
  · rw [e]; exact am_j (fun z => h ⟨e, z⟩)
  · exact am_k e
theorem kd_of {c a K : Int} (h : 0 ≤ a ∧ a ≤ 5) (z : rsn c a K = 0) : (a = 0 ∧ 48 ≤ c ∧ c ≤ 53) ∨ (a = 1 ∧ c = 61) ∨ (2 ≤ a ∧ c = 59) ∨ (2 ≤ a ∧ a < 5 ∧ 97 ≤ c ∧ c ≤ 108 ∧ c - 97 < K) := by
  unfold rsn at z
  (repeat' split at z) <;> omega
set_option maxHeartbeats 4000000 in
theorem qX6_isFieldDigit (c : Int) (m : AM) (hc : rng c) : CS 1 mX6_isFieldDigit [.inl c] m (yn (48 ≤ c ∧ c ≤ 53) m) := by
  refine cs_of (by decide +kernel) (Nat.le_of_ble_eq_true rfl) rfl ?_
  refine ap_ild_0 (pc := 0) dX6_isFieldDigit_0 ?_
  refine ap_bipush (pc := 1) dX6_isFieldDigit_1 bp_48 ?_
  refine ap_bipush (pc := 3) dX6_isFieldDigit_3 bp_53 ?_
  refine ap_invS (pc := 5) dX6_isFieldDigit_5 ms_RX6_40 (av := [_, _, _]) (rest := []) (qX8_within _ _ _ _ ⟨by omega, by omega⟩ ⟨by omega, by omega⟩ ⟨by omega, by omega⟩) rfl rfl (Nat.le_of_ble_eq_true rfl) (by decide) (by decide) ?_
  rintro _ _ ⟨⟨w5, rfl⟩ | ⟨w5, rfl⟩, rfl⟩
  · skip
    exact ap_zreturn (pc := 8) dX6_isFieldDigit_8 rfl (by decide) ⟨Or.inl ⟨by omega, rfl⟩, rfl⟩
  · skip
    exact ap_zreturn (pc := 8) dX6_isFieldDigit_8 rfl (by decide) ⟨Or.inr ⟨by omega, rfl⟩, rfl⟩

set_option maxHeartbeats 4000000 in
theorem qX6_isLetter (c : Int) (m : AM) (hc : rng c) : CS 1 mX6_isLetter [.inl c] m (yn (97 ≤ c ∧ c ≤ 108) m) := by
  refine cs_of (by decide +kernel) (Nat.le_of_ble_eq_true rfl) rfl ?_
  refine ap_ild_0 (pc := 0) dX6_isLetter_0 ?_
  refine ap_bipush (pc := 1) dX6_isLetter_1 bp_97 ?_
  refine ap_bipush (pc := 3) dX6_isLetter_3 bp_108 ?_
  refine ap_invS (pc := 5) dX6_isLetter_5 ms_RX6_40 (av := [_, _, _]) (rest := []) (qX8_within _ _ _ _ ⟨by omega, by omega⟩ ⟨by omega, by omega⟩ ⟨by omega, by omega⟩) rfl rfl (Nat.le_of_ble_eq_true rfl) (by decide) (by decide) ?_
  rintro _ _ ⟨⟨w5, rfl⟩ | ⟨w5, rfl⟩, rfl⟩
  · skip
    exact ap_zreturn (pc := 8) dX6_isLetter_8 rfl (by decide) ⟨Or.inl ⟨by omega, rfl⟩, rfl⟩
  · skip
    exact ap_zreturn (pc := 8) dX6_isLetter_8 rfl (by decide) ⟨Or.inr ⟨by omega, rfl⟩, rfl⟩

set_option maxHeartbeats 4000000 in
theorem qX6_reasonOf (c a K : Int) (m : AM) (hc : 0 ≤ c ∧ c ≤ 65535) (ha : 0 ≤ a ∧ a ≤ 5) (hK : 0 ≤ K ∧ K ≤ 12) : CS 2 mX6_reasonOf [.inl c, .inl a, .inl K] m (an (rsn c a K) m) := by
  refine cs_of (by decide +kernel) (Nat.le_of_ble_eq_true rfl) rfl ?_
  refine ap_ild_1 (pc := 0) dX6_reasonOf_0 ?_
  refine ap_if_ne (pc := 1) 17 dX6_reasonOf_1 rfl ⟨by omega, by omega⟩ (fun c1 => ?_) (fun c1 => ?_)
  · skip
    refine ap_ild_1 (pc := 17) dX6_reasonOf_17 ?_
    refine ap_const (pc := 18) dX6_reasonOf_18 ?_
    refine ap_icmp_ne (pc := 19) 34 dX6_reasonOf_19 rfl (Or.inr ⟨⟨by omega, by omega⟩, ⟨by omega, by omega⟩⟩) (fun c19 => ?_) (fun c19 => ?_)
    · skip
      refine ap_ild_0 (pc := 34) dX6_reasonOf_34 ?_
      refine ap_bipush (pc := 35) dX6_reasonOf_35 bp_59 ?_
      refine ap_icmp_ne (pc := 37) 42 dX6_reasonOf_37 rfl (Or.inr ⟨⟨by omega, by omega⟩, ⟨by omega, by omega⟩⟩) (fun c37 => ?_) (fun c37 => ?_)
      · skip
        refine ap_ild_0 (pc := 42) dX6_reasonOf_42 ?_
        refine ap_invS (pc := 43) dX6_reasonOf_43 ms_RX6_37 (av := [_]) (rest := []) (qX6_isLetter _ _ ⟨by omega, by omega⟩) rfl rfl (Nat.le_of_ble_eq_true rfl) (by decide) (by decide) ?_
        rintro _ _ ⟨⟨w43, rfl⟩ | ⟨w43, rfl⟩, rfl⟩
        · skip
          refine ap_if_ne (pc := 46) 51 dX6_reasonOf_46 rfl ⟨by omega, by omega⟩ (fun _ => ?_) (fun c46 => absurd c46 (by decide))
          refine ap_ild_0 (pc := 51) dX6_reasonOf_51 ?_
          refine ap_bipush (pc := 52) dX6_reasonOf_52 bp_97 ?_
          refine ap_isub (pc := 54) dX6_reasonOf_54 ?_
          refine ap_ild_2 (pc := 55) dX6_reasonOf_55 ?_
          refine ap_icmp_lt (pc := 56) 61 dX6_reasonOf_56 rfl ⟨by omega, by omega⟩ ⟨by omega, by omega⟩ (fun c56 => ?_) (fun c56 => ?_)
          · skip
            refine ap_ild_1 (pc := 61) dX6_reasonOf_61 ?_
            refine ap_const (pc := 62) dX6_reasonOf_62 ?_
            refine ap_icmp_ne (pc := 63) 70 dX6_reasonOf_63 rfl (Or.inr ⟨⟨by omega, by omega⟩, ⟨by omega, by omega⟩⟩) (fun c63 => ?_) (fun c63 => ?_)
            · skip
              refine ap_const (pc := 70) dX6_reasonOf_70 ?_
              exact ap_ireturn (pc := 71) dX6_reasonOf_71 rfl ⟨by simp (disch := omega) only [rsn, if_pos, if_neg], rfl⟩
            · skip
              refine ap_const (pc := 66) dX6_reasonOf_66 ?_
              refine ap_goto (pc := 67) 71 dX6_reasonOf_67 rfl ?_
              exact ap_ireturn (pc := 71) dX6_reasonOf_71 rfl ⟨by simp (disch := omega) only [rsn, if_pos, if_neg], rfl⟩
          · skip
            refine ap_const (pc := 59) dX6_reasonOf_59 ?_
            exact ap_ireturn (pc := 60) dX6_reasonOf_60 rfl ⟨by simp (disch := omega) only [rsn, if_pos, if_neg], rfl⟩
        · skip
          refine ap_if_ne (pc := 46) 51 dX6_reasonOf_46 rfl ⟨by omega, by omega⟩ (fun c46 => absurd c46 (by decide)) (fun _ => ?_)
          refine ap_const (pc := 49) dX6_reasonOf_49 ?_
          exact ap_ireturn (pc := 50) dX6_reasonOf_50 rfl ⟨by simp (disch := omega) only [rsn, if_pos, if_neg], rfl⟩
      · skip
        refine ap_const (pc := 40) dX6_reasonOf_40 ?_
        exact ap_ireturn (pc := 41) dX6_reasonOf_41 rfl ⟨by simp (disch := omega) only [rsn, if_pos, if_neg], rfl⟩
    · skip
      refine ap_ild_0 (pc := 22) dX6_reasonOf_22 ?_
      refine ap_bipush (pc := 23) dX6_reasonOf_23 bp_61 ?_
      refine ap_icmp_ne (pc := 25) 32 dX6_reasonOf_25 rfl (Or.inr ⟨⟨by omega, by omega⟩, ⟨by omega, by omega⟩⟩) (fun c25 => ?_) (fun c25 => ?_)
      · skip
        refine ap_const (pc := 32) dX6_reasonOf_32 ?_
        exact ap_ireturn (pc := 33) dX6_reasonOf_33 rfl ⟨by simp (disch := omega) only [rsn, if_pos, if_neg], rfl⟩
      · skip
        refine ap_const (pc := 28) dX6_reasonOf_28 ?_
        refine ap_goto (pc := 29) 33 dX6_reasonOf_29 rfl ?_
        exact ap_ireturn (pc := 33) dX6_reasonOf_33 rfl ⟨by simp (disch := omega) only [rsn, if_pos, if_neg], rfl⟩
  · skip
    refine ap_ild_0 (pc := 4) dX6_reasonOf_4 ?_
    refine ap_invS (pc := 5) dX6_reasonOf_5 ms_RX6_33 (av := [_]) (rest := []) (qX6_isFieldDigit _ _ ⟨by omega, by omega⟩) rfl rfl (Nat.le_of_ble_eq_true rfl) (by decide) (by decide) ?_
    rintro _ _ ⟨⟨w5, rfl⟩ | ⟨w5, rfl⟩, rfl⟩
    · skip
      refine ap_if_eq (pc := 8) 15 dX6_reasonOf_8 rfl ⟨by omega, by omega⟩ (fun c8 => absurd c8 (by decide)) (fun _ => ?_)
      refine ap_const (pc := 11) dX6_reasonOf_11 ?_
      refine ap_goto (pc := 12) 16 dX6_reasonOf_12 rfl ?_
      exact ap_ireturn (pc := 16) dX6_reasonOf_16 rfl ⟨by simp (disch := omega) only [rsn, if_pos, if_neg], rfl⟩
    · skip
      refine ap_if_eq (pc := 8) 15 dX6_reasonOf_8 rfl ⟨by omega, by omega⟩ (fun _ => ?_) (fun c8 => absurd c8 (by decide))
      refine ap_const (pc := 15) dX6_reasonOf_15 ?_
      exact ap_ireturn (pc := 16) dX6_reasonOf_16 rfl ⟨by simp (disch := omega) only [rsn, if_pos, if_neg], rfl⟩

set_option maxHeartbeats 4000000 in
theorem qX6_hasFault (m : AM) (h : rng (m 98 3)) : CS 0 mX6_hasFault [.inr 98] m (yn (m 98 3 ≠ 0) m) := by
  refine cs_of (by decide +kernel) (Nat.le_of_ble_eq_true rfl) rfl ?_
  refine ap_ald_0 (pc := 0) dX6_hasFault_0 ?_
  refine ap_getI (pc := 1) (jz := 3) dX6_hasFault_1 fl_RX6_22 sh_98 rfl rfl ?_
  refine ap_if_eq (pc := 4) 11 dX6_hasFault_4 rfl ⟨by omega, by omega⟩ (fun c4 => ?_) (fun c4 => ?_)
  · skip
    refine ap_const (pc := 11) dX6_hasFault_11 ?_
    exact ap_zreturn (pc := 12) dX6_hasFault_12 rfl (by decide) ⟨Or.inr ⟨by omega, rfl⟩, rfl⟩
  · skip
    refine ap_const (pc := 7) dX6_hasFault_7 ?_
    refine ap_goto (pc := 8) 12 dX6_hasFault_8 rfl ?_
    exact ap_zreturn (pc := 12) dX6_hasFault_12 rfl (by decide) ⟨Or.inl ⟨by omega, rfl⟩, rfl⟩

set_option maxHeartbeats 4000000 in
theorem qX6_lookForFault (T : Int → Int) (n K : Int) (m : AM) (hn : 0 ≤ n ∧ n ≤ 80) (h98 : m 98 1 = n) (hT : ∀ j : Int, 0 ≤ j → j < n → m 99 j = T j ∧ 32 ≤ T j ∧ T j ≤ 126) (hK : 0 ≤ K ∧ K ≤ 12) : CS 3 mX6_lookForFault [.inr 98, .inl K] m (fun v m' => v = none ∧ (m' 98 2 = (FR T K n).1 ∧ m' 98 3 = (FR T K n).2) ∧ ∀ (k : Nat) (j : Int), (k ≠ 98 ∨ (j ≠ 2 ∧ j ≠ 3)) → m' k j = m k j) := by
  refine cs_of (by decide +kernel) (Nat.le_of_ble_eq_true rfl) rfl ?_
  refine ap_const (pc := 0) dX6_lookForFault_0 ?_
  refine ap_ist_2 (pc := 1) dX6_lookForFault_1 (by decide) ?_
  refine ap_const (pc := 2) dX6_lookForFault_2 ?_
  refine ap_ist_3 (pc := 3) dX6_lookForFault_3 (by decide) ?_
  refine AP.bk (up_rec n (fun i => ∀ (a : Int) (mi : AM), 0 ≤ a ∧ a ≤ 5 → FR T K n = fl T K n (n.toNat - i) i a → (∀ (k : Nat) (j : Int), (k ≠ 98 ∨ (j ≠ 2 ∧ j ≠ 3)) → mi k j = m k j) → AP 3 mX6_lookForFault 4 [some (.inr 98), some (.inl K), some (.inl a), some (.inl (i : Int)), none] [] mi (fun v m' => v = none ∧ (m' 98 2 = (FR T K n).1 ∧ m' 98 3 = (FR T K n).2) ∧ ∀ (k : Nat) (j : Int), (k ≠ 98 ∨ (j ≠ 2 ∧ j ≠ 3)) → m' k j = m k j)) hn.1 (fun i hi ih a mi u1 u2 u3 => ?_) 0 m ⟨by omega, by omega⟩ rfl (fun _ _ _ => rfl)) ⟨rfl, rfl, rfl, rfl, trivial, trivial⟩ rfl
  have hl : mi 98 1 = n := by rw [u3 98 1 (by omega)]; exact h98
  have hc : True := trivial
  refine ap_ild_3 (pc := 4) dX6_lookForFault_4 ?_
  refine ap_ald_0 (pc := 5) dX6_lookForFault_5 ?_
  refine ap_getI (pc := 6) (jz := 1) dX6_lookForFault_6 fl_RX6_15 sh_98 rfl rfl ?_
  try simp only [hl, hc]
  refine ap_icmp_ge (pc := 9) 65 dX6_lookForFault_9 rfl ⟨by omega, by omega⟩ ⟨by omega, by omega⟩ (fun c9 => ?_) (fun c9 => ?_)
  · skip
    refine ap_ald_0 (pc := 65) dX6_lookForFault_65 ?_
    refine ap_ild_2 (pc := 66) dX6_lookForFault_66 ?_
    refine ap_if_ne (pc := 67) 74 dX6_lookForFault_67 rfl ⟨by omega, by omega⟩ (fun c67 => ?_) (fun c67 => ?_)
    · skip
      refine ap_const (pc := 74) dX6_lookForFault_74 ?_
      refine ap_putI (pc := 75) (jz := 3) dX6_lookForFault_75 fn_RX6_22 sh_98 rfl rfl (fun z => by cases z) ?_
      refine ap_ald_0 (pc := 78) dX6_lookForFault_78 ?_
      refine ap_ald_0 (pc := 79) dX6_lookForFault_79 ?_
      refine ap_getI (pc := 80) (jz := 1) dX6_lookForFault_80 fl_RX6_15 sh_98 rfl rfl ?_
      try simp only [hl, hc]
      refine ap_putI (pc := 83) (jz := 2) dX6_lookForFault_83 fn_RX6_19 sh_98 rfl rfl (fun z => by cases z) ?_
      exact ap_return (pc := 86) dX6_lookForFault_86 rfl ⟨rfl, ⟨by rw [am_same, u2, fl_end c9]; rw [am_j (by omega), hl], by rw [am_j (by omega), am_same, u2, fl_end c9]; simp (disch := omega) only [if_pos, if_neg]⟩, fun k j a => by rw [am_ne (by omega), am_ne (by omega)]; exact u3 k j a⟩
    · skip
      refine ap_const (pc := 70) dX6_lookForFault_70 ?_
      refine ap_goto (pc := 71) 75 dX6_lookForFault_71 rfl ?_
      refine ap_putI (pc := 75) (jz := 3) dX6_lookForFault_75 fn_RX6_22 sh_98 rfl rfl (fun z => by cases z) ?_
      refine ap_ald_0 (pc := 78) dX6_lookForFault_78 ?_
      refine ap_ald_0 (pc := 79) dX6_lookForFault_79 ?_
      refine ap_getI (pc := 80) (jz := 1) dX6_lookForFault_80 fl_RX6_15 sh_98 rfl rfl ?_
      try simp only [hl, hc]
      refine ap_putI (pc := 83) (jz := 2) dX6_lookForFault_83 fn_RX6_19 sh_98 rfl rfl (fun z => by cases z) ?_
      exact ap_return (pc := 86) dX6_lookForFault_86 rfl ⟨rfl, ⟨by rw [am_same, u2, fl_end c9]; rw [am_j (by omega), hl], by rw [am_j (by omega), am_same, u2, fl_end c9]; simp (disch := omega) only [if_pos, if_neg]⟩, fun k j a => by rw [am_ne (by omega), am_ne (by omega)]; exact u3 k j a⟩
  · skip
    have hq := hT i (by omega) c9
    have hc : mi 99 i = T i := by rw [u3 99 i (by omega)]; exact hq.1
    have hr := rsn_bd (T i) a K
    refine ap_ald_0 (pc := 12) dX6_lookForFault_12 ?_
    refine ap_getR (pc := 13) dX6_lookForFault_13 fl_RX6_9 sh_98 rfl ?_
    refine ap_ild_3 (pc := 16) dX6_lookForFault_16 ?_
    refine ap_caload (pc := 17) dX6_lookForFault_17 sh_99 (by omega) (by omega) (by decide) ?_
    try simp only [hl, hc]
    refine ap_ist_4 (pc := 18) dX6_lookForFault_18 (by decide) ?_
    refine ap_ald_0 (pc := 20) dX6_lookForFault_20 ?_
    refine ap_ild_4 (pc := 21) dX6_lookForFault_21 ?_
    refine ap_ild_2 (pc := 23) dX6_lookForFault_23 ?_
    refine ap_ild_1 (pc := 24) dX6_lookForFault_24 ?_
    refine ap_invS (pc := 25) dX6_lookForFault_25 ms_RX6_25 (av := [_, _, _]) (rest := [_]) (qX6_reasonOf _ _ _ _ (by omega) (by omega) (by omega)) rfl rfl (Nat.le_of_ble_eq_true rfl) (by decide) (by decide) ?_
    rintro _ _ ⟨rfl, rfl⟩
    refine ap_putI (pc := 28) (jz := 3) dX6_lookForFault_28 fn_RX6_22 sh_98 rfl rfl (fun z => by cases z) ?_
    refine ap_ald_0 (pc := 31) dX6_lookForFault_31 ?_
    refine ap_invV (pc := 32) dX6_lookForFault_32 mv_RX6_29 sh_98 (av := []) (rest := []) (qX6_hasFault _ (by rw [am_same]; constructor <;> omega)) rfl rfl (Nat.le_of_ble_eq_true rfl) (by decide) (by decide) ?_
    rintro _ _ ⟨⟨w32, rfl⟩ | ⟨w32, rfl⟩, rfl⟩
    all_goals rw [am_same] at w32
    · skip
      refine ap_if_eq (pc := 35) 44 dX6_lookForFault_35 rfl ⟨by omega, by omega⟩ (fun c35 => absurd c35 (by decide)) (fun _ => ?_)
      refine ap_ald_0 (pc := 38) dX6_lookForFault_38 ?_
      refine ap_ild_3 (pc := 39) dX6_lookForFault_39 ?_
      refine ap_putI (pc := 40) (jz := 2) dX6_lookForFault_40 fn_RX6_19 sh_98 rfl rfl (fun z => by cases z) ?_
      exact ap_return (pc := 43) dX6_lookForFault_43 rfl ⟨rfl, ⟨by rw [am_same, u2, fl_hit c9 w32], by rw [am_j (by omega), am_same, u2, fl_hit c9 w32]⟩, fun k j a => by rw [am_ne (by omega), am_ne (by omega)]; exact u3 k j a⟩
    · skip
      refine ap_if_eq (pc := 35) 44 dX6_lookForFault_35 rfl ⟨by omega, by omega⟩ (fun _ => ?_) (fun c35 => absurd c35 (by decide))
      refine ap_ild_4 (pc := 44) dX6_lookForFault_44 ?_
      have hz0 : rsn (T i) a K = 0 := Classical.byContradiction w32
      refine ap_bipush (pc := 46) dX6_lookForFault_46 bp_59 ?_
      refine ap_icmp_ne (pc := 48) 55 dX6_lookForFault_48 rfl (Or.inr ⟨⟨by omega, by omega⟩, ⟨by omega, by omega⟩⟩) (fun c48 => ?_) (fun c48 => ?_)
      · skip
        refine ap_ild_2 (pc := 55) dX6_lookForFault_55 ?_
        refine ap_const (pc := 56) dX6_lookForFault_56 ?_
        refine ap_iadd (pc := 57) dX6_lookForFault_57 ?_
        refine ap_ist_2 (pc := 58) dX6_lookForFault_58 (by decide) ?_
        refine ap_iinc_3 (pc := 59) dX6_lookForFault_59 (by decide) ?_
        refine ap_goto (pc := 62) 4 dX6_lookForFault_62 rfl ?_
        exact (ih c9 _ _ (nxt_bd u1 hz0) (by rw [u2, fl_go c9 hz0]; rfl) (fun k j a => by rw [am_ne (by omega)]; exact u3 k j a)).bk ⟨rfl, rfl, by simp (disch := omega) only [nxt, if_pos, if_neg], rfl, trivial, trivial⟩ rfl
      · skip
        refine ap_const (pc := 51) dX6_lookForFault_51 ?_
        refine ap_goto (pc := 52) 58 dX6_lookForFault_52 rfl ?_
        refine ap_ist_2 (pc := 58) dX6_lookForFault_58 (by decide) ?_
        refine ap_iinc_3 (pc := 59) dX6_lookForFault_59 (by decide) ?_
        refine ap_goto (pc := 62) 4 dX6_lookForFault_62 rfl ?_
        exact (ih c9 _ _ (nxt_bd u1 hz0) (by rw [u2, fl_go c9 hz0]; rfl) (fun k j a => by rw [am_ne (by omega)]; exact u3 k j a)).bk ⟨rfl, rfl, by simp (disch := omega) only [nxt, if_pos, if_neg], rfl, trivial, trivial⟩ rfl

set_option maxHeartbeats 4000000 in
theorem qX6_append (c : Int) (m : AM) (hn : 0 ≤ m 98 1 ∧ m 98 1 < 80) (hc : 0 ≤ c ∧ c < 65536) : CS 0 mX6_append [.inr 98, .inl c] m (fun v m' => v = some (m 98 1 + 1) ∧ m' = am_up (am_up m 99 (m 98 1) c) 98 1 (m 98 1 + 1)) := by
  refine cs_of (by decide +kernel) (Nat.le_of_ble_eq_true rfl) rfl ?_
  refine ap_ald_0 (pc := 0) dX6_append_0 ?_
  refine ap_getR (pc := 1) dX6_append_1 fl_RX6_9 sh_98 rfl ?_
  refine ap_ald_0 (pc := 4) dX6_append_4 ?_
  refine ap_getI (pc := 5) (jz := 1) dX6_append_5 fl_RX6_15 sh_98 rfl rfl ?_
  refine ap_ild_1 (pc := 8) dX6_append_8 ?_
  refine ap_castore (pc := 9) dX6_append_9 sh_99 (by omega) (by omega) (by decide) (by omega) (by omega) ?_
  refine ap_ald_0 (pc := 10) dX6_append_10 ?_
  refine ap_dup (pc := 11) dX6_append_11 ?_
  refine ap_getI (pc := 12) (jz := 1) dX6_append_12 fl_RX6_15 sh_98 rfl rfl ?_
  try simp (disch := omega) only [am_same, am_k, am_j]
  refine ap_const (pc := 15) dX6_append_15 ?_
  refine ap_iadd (pc := 16) dX6_append_16 ?_
  refine ap_putI (pc := 17) (jz := 1) dX6_append_17 fn_RX6_15 sh_98 rfl rfl (fun z => by cases z) ?_
  refine ap_ald_0 (pc := 20) dX6_append_20 ?_
  refine ap_getI (pc := 21) (jz := 1) dX6_append_21 fl_RX6_15 sh_98 rfl rfl ?_
  try simp (disch := omega) only [am_same, am_k, am_j]
  exact ap_ireturn (pc := 24) dX6_append_24 rfl ⟨rfl, rfl⟩

set_option maxHeartbeats 4000000 in
theorem qX8_type (c : Int) (m : AM) (hc : rng c) (hn : 0 ≤ m 98 1 ∧ m 98 1 ≤ 80) : CS 2 mX8_type [.inr 0, .inl c] m (fun v m' => v = some (vType (m 98 1) c) ∧ ((okType (m 98 1) c ∧ m' = am_up (am_up m 99 (m 98 1) c) 98 1 (m 98 1 + 1)) ∨ (¬ okType (m 98 1) c ∧ m' = m))) := by
  refine cs_of (by decide +kernel) (Nat.le_of_ble_eq_true rfl) rfl ?_
  refine ap_ild_1 (pc := 0) dX8_type_0 ?_
  refine ap_bipush (pc := 1) dX8_type_1 bp_32 ?_
  refine ap_bipush (pc := 3) dX8_type_3 bp_126 ?_
  refine ap_invS (pc := 5) dX8_type_5 ms_RX8_55 (av := [_, _, _]) (rest := []) (qX8_within _ _ _ _ ⟨by omega, by omega⟩ ⟨by omega, by omega⟩ ⟨by omega, by omega⟩) rfl rfl (Nat.le_of_ble_eq_true rfl) (by decide) (by decide) ?_
  rintro _ _ ⟨⟨w5, rfl⟩ | ⟨w5, rfl⟩, rfl⟩
  · skip
    refine ap_if_ne (pc := 8) 13 dX8_type_8 rfl ⟨by omega, by omega⟩ (fun _ => ?_) (fun c8 => absurd c8 (by decide))
    refine ap_ald_0 (pc := 13) dX8_type_13 ?_
    refine ap_getR (pc := 14) dX8_type_14 fl_RX8_47 sh_0 rfl ?_
    refine ap_getI (pc := 17) (jz := 1) dX8_type_17 fl_RX8_181 sh_98 rfl rfl ?_
    refine ap_bipush (pc := 20) dX8_type_20 bp_80 ?_
    refine ap_icmp_lt (pc := 22) 28 dX8_type_22 rfl ⟨by omega, by omega⟩ ⟨by omega, by omega⟩ (fun c22 => ?_) (fun c22 => ?_)
    · skip
      refine ap_ald_0 (pc := 28) dX8_type_28 ?_
      refine ap_getR (pc := 29) dX8_type_29 fl_RX8_47 sh_0 rfl ?_
      refine ap_ild_1 (pc := 32) dX8_type_32 ?_
      refine ap_i2c (pc := 33) dX8_type_33 (by omega) (by omega) ?_
      refine ap_invV (pc := 34) dX8_type_34 mv_RX8_233 sh_98 (av := [_]) (rest := []) (qX6_append _ _ (by omega) (by omega)) rfl rfl (Nat.le_of_ble_eq_true rfl) (by decide) (by decide) ?_
      rintro _ _ ⟨rfl, rfl⟩
      exact ap_ireturn (pc := 37) dX8_type_37 rfl ⟨by simp (disch := omega) only [vType, if_pos], Or.inl ⟨⟨by omega, by omega⟩, rfl⟩⟩
    · skip
      refine ap_bipush (pc := 25) dX8_type_25 bp_m3 ?_
      exact ap_ireturn (pc := 27) dX8_type_27 rfl ⟨by simp (disch := omega) only [vType, if_pos, if_neg], Or.inr ⟨fun z => by unfold okType at z; omega, rfl⟩⟩
  · skip
    refine ap_if_ne (pc := 8) 13 dX8_type_8 rfl ⟨by omega, by omega⟩ (fun c8 => absurd c8 (by decide)) (fun _ => ?_)
    refine ap_const (pc := 11) dX8_type_11 ?_
    exact ap_ireturn (pc := 12) dX8_type_12 rfl ⟨by simp (disch := omega) only [vType, if_pos, if_neg], Or.inr ⟨fun z => by unfold okType at z; omega, rfl⟩⟩

