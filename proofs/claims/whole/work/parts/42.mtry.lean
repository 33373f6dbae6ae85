
theorem tV0 {r : Int → Int} {h : Int} : tV r h 0 = tU r h := if_pos rfl
theorem tV1 {r : Int → Int} {h : Int} : tV r h 1 = tB r h := by unfold tV; rw [if_neg (by omega), if_pos rfl]
theorem tV2 {r : Int → Int} {h : Int} : tV r h 2 = tD r h := by unfold tV; rw [if_neg (by omega), if_neg (by omega), if_pos rfl]
/-- the best of the heats below one -/
def bestTo (r : Int → Int) (h b s d : Int) : Prop := (h = 500 ∧ b = 500 ∧ s = -1 ∧ d = 0) ∨ (500 < h ∧ good r b ∧ b < h ∧ s = tU r b ∧ d = tD r b ∧ ∀ k : Int, good r k → k < h → tU r k < tU r b ∨ (tU r k = tU r b ∧ b ≤ k))
theorem bestTo_no {r : Int → Int} {h b s d : Int} (t : bestTo r h b s d) (h0 : 500 ≤ h) (n : tB r h ≠ 0 ∨ (tU r h < s ∨ (tU r h = s ∧ d ≤ tD r h))) (wR : wfR r) : bestTo r (h + 1) b s d := by
  have hu := (tU_bd wR.2.1 h).1
  rcases t with ⟨a1, a2, a3, a4⟩ | ⟨a1, a2, a3, a4, a5, a6⟩
  · exfalso
    rcases n with n | n
    · rw [a1] at n; exact n (tB_500 wR)
    · omega
  · refine Or.inr ⟨by omega, a2, by omega, a4, a5, fun k gk hk => ?_⟩
    by_cases e : k = h
    · subst e
      rcases n with n | n
      · exact absurd gk.2 n
      · omega
    · exact a6 k gk (by omega)
theorem bestTo_yes {r : Int → Int} {h b s d : Int} (t : bestTo r h b s d) (h0 : 500 ≤ h ∧ h ≤ 1200) (z : tB r h = 0) (n : s < tU r h) : bestTo r (h + 1) h (tU r h) (tD r h) := by
  refine Or.inr ⟨by omega, ⟨h0, z⟩, by omega, rfl, rfl, fun k gk hk => ?_⟩
  by_cases e : k = h
  · subst e; exact Or.inr ⟨rfl, Int.le_refl _⟩
  · rcases t with ⟨a1, a2, a3, a4⟩ | ⟨a1, a2, a3, a4, a5, a6⟩
    · have := gk.1; omega
    · have := a6 k gk (by omega)
      omega
theorem bestTo_not {r : Int → Int} {h b s d : Int} (t : bestTo r h b s d) (z : tB r h = 0) (n : tU r h = s) (q : tD r h < d) (wR : wfR r) : False := by
  have hu := (tU_bd wR.2.1 h).1
  rcases t with ⟨a1, a2, a3, a4⟩ | ⟨a1, a2, a3, a4, a5, a6⟩
  · omega
  · have := tD_mono (r := r) (h := h) (h' := b) (by omega) z
    omega
theorem bestTo_bd {r : Int → Int} {h b s d : Int} (wR : wfR r) (t : bestTo r h b s d) : (-1 ≤ s ∧ s ≤ 21) ∧ (0 ≤ d ∧ d ≤ 21) := by
  rcases t with ⟨a1, a2, a3, a4⟩ | ⟨a1, a2, a3, a4, a5, a6⟩
  · omega
  · have := tU_bd wR.2.1 b
    have := tD_bd wR.2.1 b
    omega
set_option maxHeartbeats 4000000 in
theorem qX9_tries (h : Int) (m : AM) (wR : wfR (m 101)) (hh : 500 ≤ h ∧ h ≤ 1200) : CS 6 mX9_tries [.inr 100, .inl h] m (fun v m' => v = none ∧ (∀ w : Int, 0 ≤ w → w < 5 → m' 105 w = tV (m 101) h w) ∧ m' 101 = m 101 ∧ ∀ (k : Nat) (j : Int), k ≠ 101 → k ≠ 103 → k ≠ 105 → m' k j = m k j) := by
  refine cs_of (by decide +kernel) (Nat.le_of_ble_eq_true rfl) rfl ?_
  have h114 := wR.2.2.1.1
  refine ap_const (pc := 0) dX9_tries_0 ?_
  refine ap_ist_2 (pc := 1) dX9_tries_1 (by decide) ?_
  refine AP.bk (up_rec 150 (fun i => ∀ mi : AM, (∀ j : Int, 0 ≤ j → j < i → mi 103 j = m 101 j) → (∀ (k : Nat) (j : Int), k ≠ 103 → mi k j = m k j) → AP 6 mX9_tries 2 [some (.inr 100), some (.inl h), some (.inl (i : Int)), none] [] mi (fun v m' => v = none ∧ (∀ w : Int, 0 ≤ w → w < 5 → m' 105 w = tV (m 101) h w) ∧ m' 101 = m 101 ∧ ∀ (k : Nat) (j : Int), k ≠ 101 → k ≠ 103 → k ≠ 105 → m' k j = m k j)) (by omega) (fun i hi ih mi u1 u2 => ?_) m (fun j a b => by omega) (fun _ _ _ => rfl)) ⟨rfl, rfl, rfl, trivial, trivial⟩ rfl
  have hrow : mi 101 = m 101 := funext fun j => u2 101 j (by omega)
  refine ap_ild_2 (pc := 2) dX9_tries_2 ?_
  refine ap_sipush (pc := 3) dX9_tries_3 sp_150 ?_
  refine ap_icmp_ge (pc := 6) 27 dX9_tries_6 rfl ⟨by omega, by omega⟩ ⟨by omega, by omega⟩ (fun c6 => ?_) (fun c6 => ?_)
  · skip
    refine ap_ald_0 (pc := 27) dX9_tries_27 ?_
    refine ap_ild_1 (pc := 28) dX9_tries_28 ?_
    refine ap_ald_0 (pc := 29) dX9_tries_29 ?_
    refine ap_getR (pc := 30) dX9_tries_30 fl_RX9_7 sh_100 rfl ?_
    refine ap_bipush (pc := 33) dX9_tries_33 bp_114 ?_
    refine ap_iaload (pc := 35) dX9_tries_35 sh_101 (by omega) (by omega) (by decide) ?_
    refine ap_invV (pc := 36) dX9_tries_36 mv_RX9_114 sh_100 (av := [_, _]) (rest := []) (qX9_fires h _ 1 _ hh (by rw [hrow]; omega) (Or.inl ⟨Int.le_refl _, rfl⟩) (by rw [hrow]; exact wR.1) (by rw [hrow]; exact wR.2.1) (by rw [hrow]; exact wR.2.2.1)) rfl rfl (Nat.le_of_ble_eq_true rfl) (by decide) (by decide) ?_
    rintro _ m2 ⟨rfl, hI, hF⟩
    rw [hrow] at hI
    have f3 : ∀ j : Int, 0 ≤ j → j < 150 → m2 103 j = m 101 j := fun j a b => by rw [hF 103 j (by omega)]; exact u1 j a (by omega)
    have f4 : ∀ (k : Nat) (j : Int), k ≠ 101 → k ≠ 103 → m2 k j = m k j := fun k j a b => by rw [hF k j a]; exact u2 k j b
    refine ap_const (pc := 39) dX9_tries_39 ?_
    refine ap_ist_2 (pc := 40) dX9_tries_40 (by decide) ?_
    refine ap_ild_2 (pc := 41) dX9_tries_41 ?_
    refine ap_const (pc := 42) dX9_tries_42 ?_
    refine ap_icmp_ge (pc := 43) 114 dX9_tries_43 rfl ⟨by omega, by omega⟩ ⟨by omega, by omega⟩ (fun c43 => absurd c43 (by decide)) (fun _ => ?_)
    refine ap_bipush (pc := 46) dX9_tries_46 bp_117 ?_
    refine ap_ild_2 (pc := 48) dX9_tries_48 ?_
    refine ap_if_ne (pc := 49) 56 dX9_tries_49 rfl ⟨by omega, by omega⟩ (fun c49 => absurd c49 (by decide)) (fun _ => ?_)
    refine ap_const (pc := 52) dX9_tries_52 ?_
    refine ap_goto (pc := 53) 87 dX9_tries_53 rfl ?_
    refine ap_iadd (pc := 87) dX9_tries_87 ?_
    refine ap_ist_3 (pc := 88) dX9_tries_88 (by decide) ?_
    refine ap_ald_0 (pc := 89) dX9_tries_89 ?_
    refine ap_getR (pc := 90) dX9_tries_90 fl_RX9_22 sh_100 rfl ?_
    refine ap_ild_2 (pc := 93) dX9_tries_93 ?_
    refine ap_ald_0 (pc := 94) dX9_tries_94 ?_
    refine ap_getR (pc := 95) dX9_tries_95 fl_RX9_7 sh_100 rfl ?_
    refine ap_ild_3 (pc := 98) dX9_tries_98 ?_
    refine ap_iaload (pc := 99) dX9_tries_99 sh_101 (by omega) (by omega) (by decide) ?_
    try simp (disch := omega) only [am_same, am_k, am_j]
    refine ap_ald_0 (pc := 100) dX9_tries_100 ?_
    refine ap_getR (pc := 101) dX9_tries_101 fl_RX9_16 sh_100 rfl ?_
    refine ap_ild_3 (pc := 104) dX9_tries_104 ?_
    refine ap_iaload (pc := 105) dX9_tries_105 sh_103 (by omega) (by omega) (by decide) ?_
    try simp (disch := omega) only [am_same, am_k, am_j]
    refine ap_isub (pc := 106) dX9_tries_106 ?_
    refine ap_iastore (pc := 107) dX9_tries_107 sh_105 (by omega) (by omega) (by decide) ?_
    refine ap_iinc_2 (pc := 108) dX9_tries_108 (by decide) ?_
    refine ap_goto (pc := 111) 41 dX9_tries_111 rfl ?_
    refine ap_ild_2 (pc := 41) dX9_tries_41 ?_
    refine ap_const (pc := 42) dX9_tries_42 ?_
    refine ap_icmp_ge (pc := 43) 114 dX9_tries_43 rfl ⟨by omega, by omega⟩ ⟨by omega, by omega⟩ (fun c43 => absurd c43 (by decide)) (fun _ => ?_)
    refine ap_bipush (pc := 46) dX9_tries_46 bp_117 ?_
    refine ap_ild_2 (pc := 48) dX9_tries_48 ?_
    refine ap_if_ne (pc := 49) 56 dX9_tries_49 rfl ⟨by omega, by omega⟩ (fun _ => ?_) (fun c49 => absurd c49 (by decide))
    refine ap_ild_2 (pc := 56) dX9_tries_56 ?_
    refine ap_const (pc := 57) dX9_tries_57 ?_
    refine ap_icmp_ne (pc := 58) 66 dX9_tries_58 rfl (Or.inr ⟨⟨by omega, by omega⟩, ⟨by omega, by omega⟩⟩) (fun c58 => absurd c58 (by decide)) (fun _ => ?_)
    refine ap_bipush (pc := 61) dX9_tries_61 bp_6 ?_
    refine ap_goto (pc := 63) 87 dX9_tries_63 rfl ?_
    refine ap_iadd (pc := 87) dX9_tries_87 ?_
    refine ap_ist_3 (pc := 88) dX9_tries_88 (by decide) ?_
    refine ap_ald_0 (pc := 89) dX9_tries_89 ?_
    refine ap_getR (pc := 90) dX9_tries_90 fl_RX9_22 sh_100 rfl ?_
    refine ap_ild_2 (pc := 93) dX9_tries_93 ?_
    refine ap_ald_0 (pc := 94) dX9_tries_94 ?_
    refine ap_getR (pc := 95) dX9_tries_95 fl_RX9_7 sh_100 rfl ?_
    refine ap_ild_3 (pc := 98) dX9_tries_98 ?_
    refine ap_iaload (pc := 99) dX9_tries_99 sh_101 (by omega) (by omega) (by decide) ?_
    try simp (disch := omega) only [am_same, am_k, am_j]
    refine ap_ald_0 (pc := 100) dX9_tries_100 ?_
    refine ap_getR (pc := 101) dX9_tries_101 fl_RX9_16 sh_100 rfl ?_
    refine ap_ild_3 (pc := 104) dX9_tries_104 ?_
    refine ap_iaload (pc := 105) dX9_tries_105 sh_103 (by omega) (by omega) (by decide) ?_
    try simp (disch := omega) only [am_same, am_k, am_j]
    refine ap_isub (pc := 106) dX9_tries_106 ?_
    refine ap_iastore (pc := 107) dX9_tries_107 sh_105 (by omega) (by omega) (by decide) ?_
    refine ap_iinc_2 (pc := 108) dX9_tries_108 (by decide) ?_
    refine ap_goto (pc := 111) 41 dX9_tries_111 rfl ?_
    refine ap_ild_2 (pc := 41) dX9_tries_41 ?_
    refine ap_const (pc := 42) dX9_tries_42 ?_
    refine ap_icmp_ge (pc := 43) 114 dX9_tries_43 rfl ⟨by omega, by omega⟩ ⟨by omega, by omega⟩ (fun c43 => absurd c43 (by decide)) (fun _ => ?_)
    refine ap_bipush (pc := 46) dX9_tries_46 bp_117 ?_
    refine ap_ild_2 (pc := 48) dX9_tries_48 ?_
    refine ap_if_ne (pc := 49) 56 dX9_tries_49 rfl ⟨by omega, by omega⟩ (fun _ => ?_) (fun c49 => absurd c49 (by decide))
    refine ap_ild_2 (pc := 56) dX9_tries_56 ?_
    refine ap_const (pc := 57) dX9_tries_57 ?_
    refine ap_icmp_ne (pc := 58) 66 dX9_tries_58 rfl (Or.inr ⟨⟨by omega, by omega⟩, ⟨by omega, by omega⟩⟩) (fun _ => ?_) (fun c58 => absurd c58 (by decide))
    refine ap_ild_2 (pc := 66) dX9_tries_66 ?_
    refine ap_const (pc := 67) dX9_tries_67 ?_
    refine ap_icmp_ne (pc := 68) 75 dX9_tries_68 rfl (Or.inr ⟨⟨by omega, by omega⟩, ⟨by omega, by omega⟩⟩) (fun c68 => absurd c68 (by decide)) (fun _ => ?_)
    refine ap_const (pc := 71) dX9_tries_71 ?_
    refine ap_goto (pc := 72) 87 dX9_tries_72 rfl ?_
    refine ap_iadd (pc := 87) dX9_tries_87 ?_
    refine ap_ist_3 (pc := 88) dX9_tries_88 (by decide) ?_
    refine ap_ald_0 (pc := 89) dX9_tries_89 ?_
    refine ap_getR (pc := 90) dX9_tries_90 fl_RX9_22 sh_100 rfl ?_
    refine ap_ild_2 (pc := 93) dX9_tries_93 ?_
    refine ap_ald_0 (pc := 94) dX9_tries_94 ?_
    refine ap_getR (pc := 95) dX9_tries_95 fl_RX9_7 sh_100 rfl ?_
    refine ap_ild_3 (pc := 98) dX9_tries_98 ?_
    refine ap_iaload (pc := 99) dX9_tries_99 sh_101 (by omega) (by omega) (by decide) ?_
    try simp (disch := omega) only [am_same, am_k, am_j]
    refine ap_ald_0 (pc := 100) dX9_tries_100 ?_
    refine ap_getR (pc := 101) dX9_tries_101 fl_RX9_16 sh_100 rfl ?_
    refine ap_ild_3 (pc := 104) dX9_tries_104 ?_
    refine ap_iaload (pc := 105) dX9_tries_105 sh_103 (by omega) (by omega) (by decide) ?_
    try simp (disch := omega) only [am_same, am_k, am_j]
    refine ap_isub (pc := 106) dX9_tries_106 ?_
    refine ap_iastore (pc := 107) dX9_tries_107 sh_105 (by omega) (by omega) (by decide) ?_
    refine ap_iinc_2 (pc := 108) dX9_tries_108 (by decide) ?_
    refine ap_goto (pc := 111) 41 dX9_tries_111 rfl ?_
    refine ap_ild_2 (pc := 41) dX9_tries_41 ?_
    refine ap_const (pc := 42) dX9_tries_42 ?_
    refine ap_icmp_ge (pc := 43) 114 dX9_tries_43 rfl ⟨by omega, by omega⟩ ⟨by omega, by omega⟩ (fun c43 => absurd c43 (by decide)) (fun _ => ?_)
    refine ap_bipush (pc := 46) dX9_tries_46 bp_117 ?_
    refine ap_ild_2 (pc := 48) dX9_tries_48 ?_
    refine ap_if_ne (pc := 49) 56 dX9_tries_49 rfl ⟨by omega, by omega⟩ (fun _ => ?_) (fun c49 => absurd c49 (by decide))
    refine ap_ild_2 (pc := 56) dX9_tries_56 ?_
    refine ap_const (pc := 57) dX9_tries_57 ?_
    refine ap_icmp_ne (pc := 58) 66 dX9_tries_58 rfl (Or.inr ⟨⟨by omega, by omega⟩, ⟨by omega, by omega⟩⟩) (fun _ => ?_) (fun c58 => absurd c58 (by decide))
    refine ap_ild_2 (pc := 66) dX9_tries_66 ?_
    refine ap_const (pc := 67) dX9_tries_67 ?_
    refine ap_icmp_ne (pc := 68) 75 dX9_tries_68 rfl (Or.inr ⟨⟨by omega, by omega⟩, ⟨by omega, by omega⟩⟩) (fun _ => ?_) (fun c68 => absurd c68 (by decide))
    refine ap_ild_2 (pc := 75) dX9_tries_75 ?_
    refine ap_const (pc := 76) dX9_tries_76 ?_
    refine ap_icmp_ne (pc := 77) 85 dX9_tries_77 rfl (Or.inr ⟨⟨by omega, by omega⟩, ⟨by omega, by omega⟩⟩) (fun c77 => absurd c77 (by decide)) (fun _ => ?_)
    refine ap_bipush (pc := 80) dX9_tries_80 bp_7 ?_
    refine ap_goto (pc := 82) 87 dX9_tries_82 rfl ?_
    refine ap_iadd (pc := 87) dX9_tries_87 ?_
    refine ap_ist_3 (pc := 88) dX9_tries_88 (by decide) ?_
    refine ap_ald_0 (pc := 89) dX9_tries_89 ?_
    refine ap_getR (pc := 90) dX9_tries_90 fl_RX9_22 sh_100 rfl ?_
    refine ap_ild_2 (pc := 93) dX9_tries_93 ?_
    refine ap_ald_0 (pc := 94) dX9_tries_94 ?_
    refine ap_getR (pc := 95) dX9_tries_95 fl_RX9_7 sh_100 rfl ?_
    refine ap_ild_3 (pc := 98) dX9_tries_98 ?_
    refine ap_iaload (pc := 99) dX9_tries_99 sh_101 (by omega) (by omega) (by decide) ?_
    try simp (disch := omega) only [am_same, am_k, am_j]
    refine ap_ald_0 (pc := 100) dX9_tries_100 ?_
    refine ap_getR (pc := 101) dX9_tries_101 fl_RX9_16 sh_100 rfl ?_
    refine ap_ild_3 (pc := 104) dX9_tries_104 ?_
    refine ap_iaload (pc := 105) dX9_tries_105 sh_103 (by omega) (by omega) (by decide) ?_
    try simp (disch := omega) only [am_same, am_k, am_j]
    refine ap_isub (pc := 106) dX9_tries_106 ?_
    refine ap_iastore (pc := 107) dX9_tries_107 sh_105 (by omega) (by omega) (by decide) ?_
    refine ap_iinc_2 (pc := 108) dX9_tries_108 (by decide) ?_
    refine ap_goto (pc := 111) 41 dX9_tries_111 rfl ?_
    refine ap_ild_2 (pc := 41) dX9_tries_41 ?_
    refine ap_const (pc := 42) dX9_tries_42 ?_
    refine ap_icmp_ge (pc := 43) 114 dX9_tries_43 rfl ⟨by omega, by omega⟩ ⟨by omega, by omega⟩ (fun c43 => absurd c43 (by decide)) (fun _ => ?_)
    refine ap_bipush (pc := 46) dX9_tries_46 bp_117 ?_
    refine ap_ild_2 (pc := 48) dX9_tries_48 ?_
    refine ap_if_ne (pc := 49) 56 dX9_tries_49 rfl ⟨by omega, by omega⟩ (fun _ => ?_) (fun c49 => absurd c49 (by decide))
    refine ap_ild_2 (pc := 56) dX9_tries_56 ?_
    refine ap_const (pc := 57) dX9_tries_57 ?_
    refine ap_icmp_ne (pc := 58) 66 dX9_tries_58 rfl (Or.inr ⟨⟨by omega, by omega⟩, ⟨by omega, by omega⟩⟩) (fun _ => ?_) (fun c58 => absurd c58 (by decide))
    refine ap_ild_2 (pc := 66) dX9_tries_66 ?_
    refine ap_const (pc := 67) dX9_tries_67 ?_
    refine ap_icmp_ne (pc := 68) 75 dX9_tries_68 rfl (Or.inr ⟨⟨by omega, by omega⟩, ⟨by omega, by omega⟩⟩) (fun _ => ?_) (fun c68 => absurd c68 (by decide))
    refine ap_ild_2 (pc := 75) dX9_tries_75 ?_
    refine ap_const (pc := 76) dX9_tries_76 ?_
    refine ap_icmp_ne (pc := 77) 85 dX9_tries_77 rfl (Or.inr ⟨⟨by omega, by omega⟩, ⟨by omega, by omega⟩⟩) (fun _ => ?_) (fun c77 => absurd c77 (by decide))
    refine ap_bipush (pc := 85) dX9_tries_85 bp_8 ?_
    refine ap_iadd (pc := 87) dX9_tries_87 ?_
    refine ap_ist_3 (pc := 88) dX9_tries_88 (by decide) ?_
    refine ap_ald_0 (pc := 89) dX9_tries_89 ?_
    refine ap_getR (pc := 90) dX9_tries_90 fl_RX9_22 sh_100 rfl ?_
    refine ap_ild_2 (pc := 93) dX9_tries_93 ?_
    refine ap_ald_0 (pc := 94) dX9_tries_94 ?_
    refine ap_getR (pc := 95) dX9_tries_95 fl_RX9_7 sh_100 rfl ?_
    refine ap_ild_3 (pc := 98) dX9_tries_98 ?_
    refine ap_iaload (pc := 99) dX9_tries_99 sh_101 (by omega) (by omega) (by decide) ?_
    try simp (disch := omega) only [am_same, am_k, am_j]
    refine ap_ald_0 (pc := 100) dX9_tries_100 ?_
    refine ap_getR (pc := 101) dX9_tries_101 fl_RX9_16 sh_100 rfl ?_
    refine ap_ild_3 (pc := 104) dX9_tries_104 ?_
    refine ap_iaload (pc := 105) dX9_tries_105 sh_103 (by omega) (by omega) (by decide) ?_
    try simp (disch := omega) only [am_same, am_k, am_j]
    refine ap_isub (pc := 106) dX9_tries_106 ?_
    refine ap_iastore (pc := 107) dX9_tries_107 sh_105 (by omega) (by omega) (by decide) ?_
    refine ap_iinc_2 (pc := 108) dX9_tries_108 (by decide) ?_
    refine ap_goto (pc := 111) 41 dX9_tries_111 rfl ?_
    refine ap_ild_2 (pc := 41) dX9_tries_41 ?_
    refine ap_const (pc := 42) dX9_tries_42 ?_
    refine ap_icmp_ge (pc := 43) 114 dX9_tries_43 rfl ⟨by omega, by omega⟩ ⟨by omega, by omega⟩ (fun _ => ?_) (fun c43 => absurd c43 (by decide))
    refine ap_const (pc := 114) dX9_tries_114 ?_
    refine ap_ist_2 (pc := 115) dX9_tries_115 (by decide) ?_
    have d0 : m2 101 121 - m2 103 121 = tU (m 101) h := by rw [hI.2.2.2.2.2.2.2.1, f3 121 (by omega) (by omega)]; unfold tU; omega
    have d1 : m2 101 123 - m2 103 123 = tB (m 101) h := by rw [hI.2.2.2.2.2.2.2.2.2.1, f3 123 (by omega) (by omega)]; unfold tB; omega
    have d2 : m2 101 122 - m2 103 122 = tD (m 101) h := by rw [hI.2.2.2.2.2.2.2.2.1, f3 122 (by omega) (by omega)]; unfold tD; omega
    have d3 : m2 101 124 - m2 103 124 = cntK (m 101) h 1 6 := by rw [hI.2.2.2.2.2.2.2.2.2.2.1, f3 124 (by omega) (by omega)]; omega
    have d4 : m2 101 125 - m2 103 125 = cntM (m 101) h 1 6 := by rw [hI.2.2.2.2.2.2.2.2.2.2.2, f3 125 (by omega) (by omega)]; omega
    have d5 : ∀ j : Int, ¬ (0 ≤ j ∧ j < 150) → m2 101 j = m 101 j := fun j a => hI.1 j (by omega)
    clear hI
    refine AP.bk (up_rec 150 (fun i => ∀ mk : AM, (∀ w : Int, 0 ≤ w → w < 5 → mk 105 w = tV (m 101) h w) → (∀ j : Int, 0 ≤ j → j < 150 → mk 103 j = m 101 j) → (∀ (k : Nat) (j : Int), k ≠ 101 → k ≠ 103 → k ≠ 105 → mk k j = m k j) → (∀ j : Int, (¬ (0 ≤ j ∧ j < 150) ∨ j < i) → mk 101 j = m 101 j) → AP 6 mX9_tries 116 [some (.inr 100), some (.inl h), some (.inl (i : Int)), none] [] mk (fun v m' => v = none ∧ (∀ w : Int, 0 ≤ w → w < 5 → m' 105 w = tV (m 101) h w) ∧ m' 101 = m 101 ∧ ∀ (k : Nat) (j : Int), k ≠ 101 → k ≠ 103 → k ≠ 105 → m' k j = m k j)) (by omega) (fun i3 hi3 ih3 mk w1 w2 w3 w4 => ?_) _ (fun w a b => by
      rcases (by omega : w = 0 ∨ w = 1 ∨ w = 2 ∨ w = 3 ∨ w = 4) with rfl | rfl | rfl | rfl | rfl
      · simp (disch := omega) only [am_same, am_j]; exact d0
      · simp (disch := omega) only [am_same, am_j]; exact d1
      · simp (disch := omega) only [am_same, am_j]; exact d2
      · simp (disch := omega) only [am_same, am_j]; exact d3
      · exact d4) (fun j a b => by simp (disch := omega) only [am_k]; exact f3 j a b) (fun k j a b c => by simp (disch := omega) only [am_k]; exact f4 k j a b) (fun j a => by simp (disch := omega) only [am_k]; exact d5 j (by omega))) ⟨rfl, rfl, rfl, trivial, trivial⟩ rfl
    refine ap_ild_2 (pc := 116) dX9_tries_116 ?_
    refine ap_sipush (pc := 117) dX9_tries_117 sp_150 ?_
    refine ap_icmp_ge (pc := 120) 141 dX9_tries_120 rfl ⟨by omega, by omega⟩ ⟨by omega, by omega⟩ (fun c120 => ?_) (fun c120 => ?_)
    · skip
      exact ap_return (pc := 141) dX9_tries_141 rfl ⟨rfl, w1, funext fun j => w4 j (by omega), w3⟩
    · skip
      refine ap_ald_0 (pc := 123) dX9_tries_123 ?_
      refine ap_getR (pc := 124) dX9_tries_124 fl_RX9_7 sh_100 rfl ?_
      refine ap_ild_2 (pc := 127) dX9_tries_127 ?_
      refine ap_ald_0 (pc := 128) dX9_tries_128 ?_
      refine ap_getR (pc := 129) dX9_tries_129 fl_RX9_16 sh_100 rfl ?_
      refine ap_ild_2 (pc := 132) dX9_tries_132 ?_
      refine ap_iaload (pc := 133) dX9_tries_133 sh_103 (by omega) (by omega) (by decide) ?_
      try simp (disch := omega) only [am_same, am_k, am_j]
      refine ap_iastore (pc := 134) dX9_tries_134 sh_101 (by omega) (by omega) (by decide) ?_
      refine ap_iinc_2 (pc := 135) dX9_tries_135 (by decide) ?_
      refine ap_goto (pc := 138) 116 dX9_tries_138 rfl ?_
      exact (ih3 c120 _ (fun w a b => by rw [am_k (by omega)]; exact w1 w a b) (fun j a b => by rw [am_k (by omega)]; exact w2 j a b) (fun k j a b c => by rw [am_k a]; exact w3 k j a b c) (fun j a => by
          by_cases e : j = (i3 : Int)
          · subst e; rw [am_same]; exact w2 _ (by omega) (by omega)
          · rw [am_j e]; exact w4 j (by omega))).bk ⟨rfl, rfl, rfl, trivial, trivial⟩ rfl
  · skip
    refine ap_ald_0 (pc := 9) dX9_tries_9 ?_
    refine ap_getR (pc := 10) dX9_tries_10 fl_RX9_16 sh_100 rfl ?_
    refine ap_ild_2 (pc := 13) dX9_tries_13 ?_
    refine ap_ald_0 (pc := 14) dX9_tries_14 ?_
    refine ap_getR (pc := 15) dX9_tries_15 fl_RX9_7 sh_100 rfl ?_
    refine ap_ild_2 (pc := 18) dX9_tries_18 ?_
    refine ap_iaload (pc := 19) dX9_tries_19 sh_101 (by omega) (by omega) (by decide) ?_
    refine ap_iastore (pc := 20) dX9_tries_20 sh_103 (by omega) (by omega) (by decide) ?_
    refine ap_iinc_2 (pc := 21) dX9_tries_21 (by decide) ?_
    refine ap_goto (pc := 24) 2 dX9_tries_24 rfl ?_
    exact (ih c6 _ (fun j a b => by
        by_cases e : j = (i : Int)
        · subst e; rw [am_same, hrow]
        · rw [am_j e]; exact u1 j a (by omega)) (fun k j a => by rw [am_k a]; exact u2 k j a)).bk ⟨rfl, rfl, rfl, trivial, trivial⟩ rfl

set_option maxHeartbeats 4000000 in
theorem qX9_ifFired (h w : Int) (m : AM) (wR : wfR (m 101)) (hh : rng h) (hw : rng w) : CS 7 mX9_ifFired [.inr 100, .inl h, .inl w] m (fun v m' => v = some (vIF (m 101) h w) ∧ m' 101 = m 101 ∧ ∀ (k : Nat) (j : Int), k ≠ 101 → k ≠ 103 → k ≠ 105 → m' k j = m k j) := by
  refine cs_of (by decide +kernel) (Nat.le_of_ble_eq_true rfl) rfl ?_
  have hrw : m 101 = m 101 := rfl
  refine ap_ild_1 (pc := 0) dX9_ifFired_0 ?_
  refine ap_invS (pc := 1) dX9_ifFired_1 ms_RX9_111 (av := [_]) (rest := []) (qX9_isHeat _ _ hh) rfl rfl (Nat.le_of_ble_eq_true rfl) (by decide) (by decide) ?_
  rintro _ _ ⟨⟨w1, rfl⟩ | ⟨w1, rfl⟩, rfl⟩
  · skip
    refine ap_if_eq (pc := 4) 16 dX9_ifFired_4 rfl ⟨by omega, by omega⟩ (fun c4 => absurd c4 (by decide)) (fun _ => ?_)
    refine ap_ild_2 (pc := 7) dX9_ifFired_7 ?_
    refine ap_const (pc := 8) dX9_ifFired_8 ?_
    refine ap_const (pc := 9) dX9_ifFired_9 ?_
    refine ap_invS (pc := 10) dX9_ifFired_10 ms_RX9_32 (av := [_, _, _]) (rest := []) (qX9_in _ _ _ _ ⟨by omega, by omega⟩ ⟨by omega, by omega⟩ ⟨by omega, by omega⟩) rfl rfl (Nat.le_of_ble_eq_true rfl) (by decide) (by decide) ?_
    rintro _ _ ⟨⟨w10, rfl⟩ | ⟨w10, rfl⟩, rfl⟩
    · skip
      refine ap_if_ne (pc := 13) 18 dX9_ifFired_13 rfl ⟨by omega, by omega⟩ (fun _ => ?_) (fun c13 => absurd c13 (by decide))
      refine ap_ald_0 (pc := 18) dX9_ifFired_18 ?_
      refine ap_ild_1 (pc := 19) dX9_ifFired_19 ?_
      refine ap_invV (pc := 20) dX9_ifFired_20 mv_RX9_118 sh_100 (av := [_]) (rest := []) (qX9_tries _ _ (by rw [hrw]; exact wR) (by omega)) rfl rfl (Nat.le_of_ble_eq_true rfl) (by decide) (by decide) ?_
      rintro _ m2 ⟨rfl, y1, y2, yF⟩
      rw [hrw] at y1 y2
      refine ap_ald_0 (pc := 23) dX9_ifFired_23 ?_
      refine ap_getR (pc := 24) dX9_ifFired_24 fl_RX9_22 sh_100 rfl ?_
      refine ap_ild_2 (pc := 27) dX9_ifFired_27 ?_
      refine ap_iaload (pc := 28) dX9_ifFired_28 sh_105 (by omega) (by omega) (by decide) ?_
      try simp (disch := omega) only [am_same, am_k, am_j]
      exact ap_ireturn (pc := 29) dX9_ifFired_29 rfl ⟨by rw [y1 w (by omega) (by omega)]; simp (disch := omega) only [vIF, if_pos], y2, yF⟩
    · skip
      refine ap_if_ne (pc := 13) 18 dX9_ifFired_13 rfl ⟨by omega, by omega⟩ (fun c13 => absurd c13 (by decide)) (fun _ => ?_)
      refine ap_const (pc := 16) dX9_ifFired_16 ?_
      exact ap_ireturn (pc := 17) dX9_ifFired_17 rfl ⟨by simp (disch := omega) only [vIF, tV, if_pos, if_neg], rfl, fun _ _ _ _ _ => rfl⟩
  · skip
    refine ap_if_eq (pc := 4) 16 dX9_ifFired_4 rfl ⟨by omega, by omega⟩ (fun _ => ?_) (fun c4 => absurd c4 (by decide))
    refine ap_const (pc := 16) dX9_ifFired_16 ?_
    exact ap_ireturn (pc := 17) dX9_ifFired_17 rfl ⟨by simp (disch := omega) only [vIF, tV, if_pos, if_neg], rfl, fun _ _ _ _ _ => rfl⟩

set_option maxHeartbeats 4000000 in
theorem qX9_bestHeat (m : AM) (wR : wfR (m 101)) : CS 7 mX9_bestHeat [.inr 100] m (fun v m' => (∃ b : Int, v = some b ∧ isBest (m 101) b) ∧ m' 101 = m 101 ∧ ∀ (k : Nat) (j : Int), k ≠ 101 → k ≠ 103 → k ≠ 105 → m' k j = m k j) := by
  refine cs_of (by decide +kernel) (Nat.le_of_ble_eq_true rfl) rfl ?_
  refine ap_sipush (pc := 0) dX9_bestHeat_0 sp_500 ?_
  refine ap_ist_1 (pc := 3) dX9_bestHeat_3 (by decide) ?_
  refine ap_const (pc := 4) dX9_bestHeat_4 ?_
  refine ap_ist_2 (pc := 5) dX9_bestHeat_5 (by decide) ?_
  refine ap_const (pc := 6) dX9_bestHeat_6 ?_
  refine ap_ist_3 (pc := 7) dX9_bestHeat_7 (by decide) ?_
  refine ap_sipush (pc := 8) dX9_bestHeat_8 sp_500 ?_
  refine ap_ist_4 (pc := 11) dX9_bestHeat_11 (by decide) ?_
  refine AP.bk (up_rec 701 (fun i => ∀ (b s d : Int) (mi : AM), bestTo (m 101) (500 + i) b s d → mi 101 = m 101 → (∀ (k : Nat) (j : Int), k ≠ 101 → k ≠ 103 → k ≠ 105 → mi k j = m k j) → AP 7 mX9_bestHeat 13 [some (.inr 100), some (.inl b), some (.inl s), some (.inl d), some (.inl (500 + (i : Int)))] [] mi (fun v m' => (∃ b : Int, v = some b ∧ isBest (m 101) b) ∧ m' 101 = m 101 ∧ ∀ (k : Nat) (j : Int), k ≠ 101 → k ≠ 103 → k ≠ 105 → m' k j = m k j)) (by omega) (fun i hi ih b s d mi u1 hrw u3 => ?_) 500 (-1) 0 m (Or.inl ⟨by omega, rfl, rfl, rfl⟩) rfl (fun _ _ _ _ _ => rfl)) ⟨rfl, rfl, rfl, rfl, rfl, trivial⟩ rfl
  have hbd := bestTo_bd wR u1
  have hu2 := tU_bd wR.2.1 (500 + (i : Int))
  have hd2 := tD_bd wR.2.1 (500 + (i : Int))
  have hb2 := tB_bd wR.2.1 (500 + (i : Int))
  refine ap_ild_4 (pc := 13) dX9_bestHeat_13 ?_
  refine ap_sipush (pc := 15) dX9_bestHeat_15 sp_1200 ?_
  refine ap_icmp_gt (pc := 18) 89 dX9_bestHeat_18 rfl ⟨by omega, by omega⟩ ⟨by omega, by omega⟩ (fun c18 => ?_) (fun c18 => ?_)
  · skip
    refine ap_ild_1 (pc := 89) dX9_bestHeat_89 ?_
    exact ap_ireturn (pc := 90) dX9_bestHeat_90 rfl ⟨⟨b, rfl, by
    rcases u1 with q | ⟨a1, a2, a3, a4, a5, a6⟩
    · omega
    · exact ⟨a2, fun h gh => a6 h gh (by have := gh.1; omega)⟩⟩, hrw, u3⟩
  · skip
    refine ap_ald_0 (pc := 21) dX9_bestHeat_21 ?_
    refine ap_ild_4 (pc := 22) dX9_bestHeat_22 ?_
    refine ap_invV (pc := 24) dX9_bestHeat_24 mv_RX9_118 sh_100 (av := [_]) (rest := []) (qX9_tries _ _ (by rw [hrw]; exact wR) (by omega)) rfl rfl (Nat.le_of_ble_eq_true rfl) (by decide) (by decide) ?_
    rintro _ m2 ⟨rfl, y1, y2, yF⟩
    rw [hrw] at y1 y2
    refine ap_ald_0 (pc := 27) dX9_bestHeat_27 ?_
    refine ap_getR (pc := 28) dX9_bestHeat_28 fl_RX9_22 sh_100 rfl ?_
    refine ap_const (pc := 31) dX9_bestHeat_31 ?_
    refine ap_iaload (pc := 32) dX9_bestHeat_32 sh_105 (by omega) (by omega) (by decide) ?_
    (try rw [y1 _ (by omega) (by omega)]); (try rw [tV0]); (try rw [tV1]); (try rw [tV2])
    refine ap_if_ne (pc := 33) 83 dX9_bestHeat_33 rfl ⟨by omega, by omega⟩ (fun c33 => ?_) (fun c33 => ?_)
    · skip
      refine ap_iinc_4 (pc := 83) dX9_bestHeat_83 (by decide) ?_
      refine ap_goto (pc := 86) 13 dX9_bestHeat_86 rfl ?_
      exact (ih (by omega) _ _ _ _ (by rw [show (500 : Int) + ((i + 1 : Nat) : Int) = 500 + i + 1 by omega]; exact bestTo_no u1 (by omega) (Or.inl c33) wR) (by rw [y2]) (fun k j a b c => by rw [yF k j a b c]; exact u3 k j a b c)).bk ⟨rfl, rfl, rfl, rfl, by rw [show (500 : Int) + ((i + 1 : Nat) : Int) = 500 + i + 1 by omega], trivial⟩ rfl
    · skip
      refine ap_ald_0 (pc := 36) dX9_bestHeat_36 ?_
      refine ap_getR (pc := 37) dX9_bestHeat_37 fl_RX9_22 sh_100 rfl ?_
      refine ap_const (pc := 40) dX9_bestHeat_40 ?_
      refine ap_iaload (pc := 41) dX9_bestHeat_41 sh_105 (by omega) (by omega) (by decide) ?_
      (try rw [y1 _ (by omega) (by omega)]); (try rw [tV0]); (try rw [tV1]); (try rw [tV2])
      refine ap_ild_2 (pc := 42) dX9_bestHeat_42 ?_
      refine ap_icmp_gt (pc := 43) 66 dX9_bestHeat_43 rfl ⟨by omega, by omega⟩ ⟨by omega, by omega⟩ (fun c43 => ?_) (fun c43 => ?_)
      · skip
        refine ap_ild_4 (pc := 66) dX9_bestHeat_66 ?_
        refine ap_ist_1 (pc := 68) dX9_bestHeat_68 (by decide) ?_
        refine ap_ald_0 (pc := 69) dX9_bestHeat_69 ?_
        refine ap_getR (pc := 70) dX9_bestHeat_70 fl_RX9_22 sh_100 rfl ?_
        refine ap_const (pc := 73) dX9_bestHeat_73 ?_
        refine ap_iaload (pc := 74) dX9_bestHeat_74 sh_105 (by omega) (by omega) (by decide) ?_
        (try rw [y1 _ (by omega) (by omega)]); (try rw [tV0]); (try rw [tV1]); (try rw [tV2])
        refine ap_ist_2 (pc := 75) dX9_bestHeat_75 (by decide) ?_
        refine ap_ald_0 (pc := 76) dX9_bestHeat_76 ?_
        refine ap_getR (pc := 77) dX9_bestHeat_77 fl_RX9_22 sh_100 rfl ?_
        refine ap_const (pc := 80) dX9_bestHeat_80 ?_
        refine ap_iaload (pc := 81) dX9_bestHeat_81 sh_105 (by omega) (by omega) (by decide) ?_
        (try rw [y1 _ (by omega) (by omega)]); (try rw [tV0]); (try rw [tV1]); (try rw [tV2])
        refine ap_ist_3 (pc := 82) dX9_bestHeat_82 (by decide) ?_
        refine ap_iinc_4 (pc := 83) dX9_bestHeat_83 (by decide) ?_
        refine ap_goto (pc := 86) 13 dX9_bestHeat_86 rfl ?_
        exact (ih (by omega) _ _ _ _ (by rw [show (500 : Int) + ((i + 1 : Nat) : Int) = 500 + i + 1 by omega]; exact bestTo_yes u1 (by omega) c33 c43) (by rw [y2]) (fun k j a b c => by rw [yF k j a b c]; exact u3 k j a b c)).bk ⟨rfl, rfl, rfl, rfl, by rw [show (500 : Int) + ((i + 1 : Nat) : Int) = 500 + i + 1 by omega], trivial⟩ rfl
      · skip
        refine ap_ald_0 (pc := 46) dX9_bestHeat_46 ?_
        refine ap_getR (pc := 47) dX9_bestHeat_47 fl_RX9_22 sh_100 rfl ?_
        refine ap_const (pc := 50) dX9_bestHeat_50 ?_
        refine ap_iaload (pc := 51) dX9_bestHeat_51 sh_105 (by omega) (by omega) (by decide) ?_
        (try rw [y1 _ (by omega) (by omega)]); (try rw [tV0]); (try rw [tV1]); (try rw [tV2])
        refine ap_ild_2 (pc := 52) dX9_bestHeat_52 ?_
        refine ap_icmp_ne (pc := 53) 83 dX9_bestHeat_53 rfl (Or.inr ⟨⟨by omega, by omega⟩, ⟨by omega, by omega⟩⟩) (fun c53 => ?_) (fun c53 => ?_)
        · skip
          refine ap_iinc_4 (pc := 83) dX9_bestHeat_83 (by decide) ?_
          refine ap_goto (pc := 86) 13 dX9_bestHeat_86 rfl ?_
          exact (ih (by omega) _ _ _ _ (by rw [show (500 : Int) + ((i + 1 : Nat) : Int) = 500 + i + 1 by omega]; exact bestTo_no u1 (by omega) (Or.inr (by omega)) wR) (by rw [y2]) (fun k j a b c => by rw [yF k j a b c]; exact u3 k j a b c)).bk ⟨rfl, rfl, rfl, rfl, by rw [show (500 : Int) + ((i + 1 : Nat) : Int) = 500 + i + 1 by omega], trivial⟩ rfl
        · skip
          refine ap_ald_0 (pc := 56) dX9_bestHeat_56 ?_
          refine ap_getR (pc := 57) dX9_bestHeat_57 fl_RX9_22 sh_100 rfl ?_
          refine ap_const (pc := 60) dX9_bestHeat_60 ?_
          refine ap_iaload (pc := 61) dX9_bestHeat_61 sh_105 (by omega) (by omega) (by decide) ?_
          (try rw [y1 _ (by omega) (by omega)]); (try rw [tV0]); (try rw [tV1]); (try rw [tV2])
          refine ap_ild_3 (pc := 62) dX9_bestHeat_62 ?_
          refine ap_icmp_ge (pc := 63) 83 dX9_bestHeat_63 rfl ⟨by omega, by omega⟩ ⟨by omega, by omega⟩ (fun c63 => ?_) (fun c63 => ?_)
          · skip
            refine ap_iinc_4 (pc := 83) dX9_bestHeat_83 (by decide) ?_
            refine ap_goto (pc := 86) 13 dX9_bestHeat_86 rfl ?_
            exact (ih (by omega) _ _ _ _ (by rw [show (500 : Int) + ((i + 1 : Nat) : Int) = 500 + i + 1 by omega]; exact bestTo_no u1 (by omega) (Or.inr (by omega)) wR) (by rw [y2]) (fun k j a b c => by rw [yF k j a b c]; exact u3 k j a b c)).bk ⟨rfl, rfl, rfl, rfl, by rw [show (500 : Int) + ((i + 1 : Nat) : Int) = 500 + i + 1 by omega], trivial⟩ rfl
          · skip
            refine ap_ild_4 (pc := 66) dX9_bestHeat_66 ?_
            refine ap_ist_1 (pc := 68) dX9_bestHeat_68 (by decide) ?_
            refine ap_ald_0 (pc := 69) dX9_bestHeat_69 ?_
            refine ap_getR (pc := 70) dX9_bestHeat_70 fl_RX9_22 sh_100 rfl ?_
            refine ap_const (pc := 73) dX9_bestHeat_73 ?_
            refine ap_iaload (pc := 74) dX9_bestHeat_74 sh_105 (by omega) (by omega) (by decide) ?_
            (try rw [y1 _ (by omega) (by omega)]); (try rw [tV0]); (try rw [tV1]); (try rw [tV2])
            refine ap_ist_2 (pc := 75) dX9_bestHeat_75 (by decide) ?_
            refine ap_ald_0 (pc := 76) dX9_bestHeat_76 ?_
            refine ap_getR (pc := 77) dX9_bestHeat_77 fl_RX9_22 sh_100 rfl ?_
            refine ap_const (pc := 80) dX9_bestHeat_80 ?_
            refine ap_iaload (pc := 81) dX9_bestHeat_81 sh_105 (by omega) (by omega) (by decide) ?_
            (try rw [y1 _ (by omega) (by omega)]); (try rw [tV0]); (try rw [tV1]); (try rw [tV2])
            refine ap_ist_3 (pc := 82) dX9_bestHeat_82 (by decide) ?_
            refine ap_iinc_4 (pc := 83) dX9_bestHeat_83 (by decide) ?_
            refine ap_goto (pc := 86) 13 dX9_bestHeat_86 rfl ?_
            exact (bestTo_not u1 c33 c53 c63 wR).elim
