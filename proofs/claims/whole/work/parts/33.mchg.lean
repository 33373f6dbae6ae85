
theorem am_rowF {m : AM} {k : Nat} {i v : Int} : am_up m k i v k = rup (m k) i v := funext fun _ => am_row
theorem am_kF {m : AM} {k k' : Nat} {i v : Int} (h : k' ≠ k) : am_up m k i v k' = m k' := funext fun _ => am_k h
def mOK (m m' : AM) : Prop := m' 100 3 = min (m 100 3 + 1) 4 ∧ (∀ k j : Int, 0 ≤ k → k < min (m 100 3 + 1) 4 → 0 ≤ j → j < 150 → m' 102 (150 * k + j) = hH (m 100 3) (fun k j => m 102 (150 * k + j)) (m 101) k j) ∧ (∀ (k : Nat) (j : Int), (k < 100 ∨ 102 < k) → m' k j = m k j) ∧ ∀ j : Int, j ≠ 3 → j < 8 → m' 100 j = m 100 j
theorem mOK_of {m m1 m' : AM} (h1 : m1 100 3 = min (m 100 3 + 1) 4) (h2 : ∀ k j : Int, 0 ≤ k → k < min (m 100 3 + 1) 4 → 0 ≤ j → j < 150 → m1 102 (150 * k + j) = hH (m 100 3) (fun k j => m 102 (150 * k + j)) (m 101) k j) (h3 : ∀ (k : Nat) (j : Int), k ≠ 100 → k ≠ 102 → m1 k j = m k j) (h4 : ∀ j : Int, j ≠ 3 → m1 100 j = m 100 j) (hf : ∀ (k : Nat) (j : Int), k ≠ 101 → m' k j = m1 k j) : mOK m m' :=
  ⟨by rw [hf _ _ (by omega)]; exact h1, fun k j a b c d => by rw [hf _ _ (by omega)]; exact h2 k j a b c d, fun k j a => by rw [hf _ _ (by omega)]; exact h3 k j (by omega) (by omega), fun j a b => by rw [hf _ _ (by omega)]; exact h4 j a⟩
set_option maxHeartbeats 4000000 in
theorem qX9_color (a b c : Int) (m : AM) (wR : wfR (m 101)) (hs : 0 ≤ m 100 3 ∧ m 100 3 ≤ 4) (ha : rng a) (hb : rng b) (hc : rng c) : CS 2 mX9_color [.inr 100, .inl a, .inl b, .inl c] m (fun v m' => v = some (vColor (m 101) a b c) ∧ ((okColor (m 101) a b c ∧ m' 101 = rColor (m 101) a b c ∧ mOK m m') ∨ (¬ okColor (m 101) a b c ∧ m' = m))) := by
  refine cs_of (by decide +kernel) (Nat.le_of_ble_eq_true rfl) rfl ?_
  have h12 := wR.1.1
  refine ap_ild_1 (pc := 0) dX9_color_0 ?_
  refine ap_sipush (pc := 1) dX9_color_1 sp_600 ?_
  refine ap_sipush (pc := 4) dX9_color_4 sp_900 ?_
  refine ap_invS (pc := 7) dX9_color_7 ms_RX9_32 (av := [_, _, _]) (rest := []) (qX9_in _ _ _ _ ⟨by omega, by omega⟩ ⟨by omega, by omega⟩ ⟨by omega, by omega⟩) rfl rfl (Nat.le_of_ble_eq_true rfl) (by decide) (by decide) ?_
  rintro _ _ ⟨⟨w7, rfl⟩ | ⟨w7, rfl⟩, rfl⟩
  · skip
    refine ap_if_eq (pc := 10) 41 dX9_color_10 rfl ⟨by omega, by omega⟩ (fun c10 => absurd c10 (by decide)) (fun _ => ?_)
    refine ap_ild_2 (pc := 13) dX9_color_13 ?_
    refine ap_ild_1 (pc := 14) dX9_color_14 ?_
    refine ap_bipush (pc := 15) dX9_color_15 bp_10 ?_
    refine ap_iadd (pc := 17) dX9_color_17 ?_
    refine ap_ild_1 (pc := 18) dX9_color_18 ?_
    refine ap_sipush (pc := 19) dX9_color_19 sp_200 ?_
    refine ap_iadd (pc := 22) dX9_color_22 ?_
    refine ap_invS (pc := 23) dX9_color_23 ms_RX9_32 (av := [_, _, _]) (rest := []) (qX9_in _ _ _ _ ⟨by omega, by omega⟩ ⟨by omega, by omega⟩ ⟨by omega, by omega⟩) rfl rfl (Nat.le_of_ble_eq_true rfl) (by decide) (by decide) ?_
    rintro _ _ ⟨⟨w23, rfl⟩ | ⟨w23, rfl⟩, rfl⟩
    · skip
      refine ap_if_eq (pc := 26) 41 dX9_color_26 rfl ⟨by omega, by omega⟩ (fun c26 => absurd c26 (by decide)) (fun _ => ?_)
      refine ap_ild_3 (pc := 29) dX9_color_29 ?_
      refine ap_bipush (pc := 30) dX9_color_30 bp_60 ?_
      refine ap_sipush (pc := 32) dX9_color_32 sp_160 ?_
      refine ap_invS (pc := 35) dX9_color_35 ms_RX9_32 (av := [_, _, _]) (rest := []) (qX9_in _ _ _ _ ⟨by omega, by omega⟩ ⟨by omega, by omega⟩ ⟨by omega, by omega⟩) rfl rfl (Nat.le_of_ble_eq_true rfl) (by decide) (by decide) ?_
      rintro _ _ ⟨⟨w35, rfl⟩ | ⟨w35, rfl⟩, rfl⟩
      · skip
        refine ap_if_ne (pc := 38) 43 dX9_color_38 rfl ⟨by omega, by omega⟩ (fun _ => ?_) (fun c38 => absurd c38 (by decide))
        refine ap_ald_0 (pc := 43) dX9_color_43 ?_
        refine ap_getR (pc := 44) dX9_color_44 fl_RX9_7 sh_100 rfl ?_
        refine ap_const (pc := 47) dX9_color_47 ?_
        refine ap_iaload (pc := 48) dX9_color_48 sh_101 (by omega) (by omega) (by decide) ?_
        refine ap_bipush (pc := 49) dX9_color_49 bp_12 ?_
        refine ap_icmp_ne (pc := 51) 57 dX9_color_51 rfl (Or.inr ⟨⟨by omega, by omega⟩, ⟨by omega, by omega⟩⟩) (fun c51 => ?_) (fun c51 => ?_)
        · skip
          refine ap_ald_0 (pc := 57) dX9_color_57 ?_
          refine ap_invV (pc := 58) dX9_color_58 mv_RX9_36 sh_100 (av := []) (rest := []) (qX9_records _ hs) rfl rfl (Nat.le_of_ble_eq_true rfl) (by decide) (by decide) ?_
          rintro _ m1 ⟨rfl, r1, r2, r3, r4⟩
          have hrow : m1 101 = m 101 := funext fun j => r3 101 j (by omega) (by omega)
          refine ap_const (pc := 61) dX9_color_61 ?_
          refine ap_const (pc := 62) dX9_color_62 ?_
          refine ap_ald_0 (pc := 63) dX9_color_63 ?_
          refine ap_getR (pc := 64) dX9_color_64 fl_RX9_7 sh_100 rfl ?_
          refine ap_const (pc := 67) dX9_color_67 ?_
          refine ap_iaload (pc := 68) dX9_color_68 sh_101 (by omega) (by omega) (by decide) ?_
          try simp (disch := omega) only [am_same, am_k, am_j, hrow]
          refine ap_imul (pc := 69) dX9_color_69 ?_
          refine ap_iadd (pc := 70) dX9_color_70 ?_
          refine ap_ist_4 (pc := 71) dX9_color_71 (by decide) ?_
          refine ap_ald_0 (pc := 73) dX9_color_73 ?_
          refine ap_getR (pc := 74) dX9_color_74 fl_RX9_7 sh_100 rfl ?_
          refine ap_ild_4 (pc := 77) dX9_color_77 ?_
          refine ap_ild_1 (pc := 79) dX9_color_79 ?_
          refine ap_iastore (pc := 80) dX9_color_80 sh_101 (by omega) (by omega) (by decide) ?_
          refine ap_ald_0 (pc := 81) dX9_color_81 ?_
          refine ap_getR (pc := 82) dX9_color_82 fl_RX9_7 sh_100 rfl ?_
          refine ap_ild_4 (pc := 85) dX9_color_85 ?_
          refine ap_const (pc := 87) dX9_color_87 ?_
          refine ap_iadd (pc := 88) dX9_color_88 ?_
          refine ap_ild_2 (pc := 89) dX9_color_89 ?_
          refine ap_iastore (pc := 90) dX9_color_90 sh_101 (by omega) (by omega) (by decide) ?_
          refine ap_ald_0 (pc := 91) dX9_color_91 ?_
          refine ap_getR (pc := 92) dX9_color_92 fl_RX9_7 sh_100 rfl ?_
          refine ap_ild_4 (pc := 95) dX9_color_95 ?_
          refine ap_const (pc := 97) dX9_color_97 ?_
          refine ap_iadd (pc := 98) dX9_color_98 ?_
          refine ap_ild_3 (pc := 99) dX9_color_99 ?_
          refine ap_iastore (pc := 100) dX9_color_100 sh_101 (by omega) (by omega) (by decide) ?_
          refine ap_ald_0 (pc := 101) dX9_color_101 ?_
          refine ap_getR (pc := 102) dX9_color_102 fl_RX9_7 sh_100 rfl ?_
          refine ap_const (pc := 105) dX9_color_105 ?_
          refine ap_dup2 (pc := 106) dX9_color_106 ?_
          refine ap_iaload (pc := 107) dX9_color_107 sh_101 (by omega) (by omega) (by decide) ?_
          try simp (disch := omega) only [am_same, am_k, am_j, hrow]
          refine ap_const (pc := 108) dX9_color_108 ?_
          refine ap_iadd (pc := 109) dX9_color_109 ?_
          refine ap_iastore (pc := 110) dX9_color_110 sh_101 (by omega) (by omega) (by decide) ?_
          refine ap_ald_0 (pc := 111) dX9_color_111 ?_
          refine ap_getR (pc := 112) dX9_color_112 fl_RX9_7 sh_100 rfl ?_
          refine ap_const (pc := 115) dX9_color_115 ?_
          refine ap_iaload (pc := 116) dX9_color_116 sh_101 (by omega) (by omega) (by decide) ?_
          try simp (disch := omega) only [am_same, am_k, am_j, hrow]
          refine ap_const (pc := 117) dX9_color_117 ?_
          refine ap_isub (pc := 118) dX9_color_118 ?_
          exact ap_ireturn (pc := 119) dX9_color_119 rfl ⟨by simp (disch := omega) only [vColor, if_pos]; congr 1; omega, Or.inl ⟨⟨by omega, by omega⟩, by simp only [am_rowF, hrow]; unfold rColor; rfl, mOK_of r1 r2 r3 r4 (fun k j a => by simp (disch := omega) only [am_k])⟩⟩
        · skip
          refine ap_bipush (pc := 54) dX9_color_54 bp_m3 ?_
          exact ap_ireturn (pc := 56) dX9_color_56 rfl ⟨by simp (disch := omega) only [vColor, if_pos, if_neg], Or.inr ⟨fun z => by unfold okColor at z; omega, rfl⟩⟩
      · skip
        refine ap_if_ne (pc := 38) 43 dX9_color_38 rfl ⟨by omega, by omega⟩ (fun c38 => absurd c38 (by decide)) (fun _ => ?_)
        refine ap_const (pc := 41) dX9_color_41 ?_
        exact ap_ireturn (pc := 42) dX9_color_42 rfl ⟨by simp (disch := omega) only [vColor, if_pos, if_neg], Or.inr ⟨fun z => by unfold okColor at z; omega, rfl⟩⟩
    · skip
      refine ap_if_eq (pc := 26) 41 dX9_color_26 rfl ⟨by omega, by omega⟩ (fun _ => ?_) (fun c26 => absurd c26 (by decide))
      refine ap_const (pc := 41) dX9_color_41 ?_
      exact ap_ireturn (pc := 42) dX9_color_42 rfl ⟨by simp (disch := omega) only [vColor, if_pos, if_neg], Or.inr ⟨fun z => by unfold okColor at z; omega, rfl⟩⟩
  · skip
    refine ap_if_eq (pc := 10) 41 dX9_color_10 rfl ⟨by omega, by omega⟩ (fun _ => ?_) (fun c10 => absurd c10 (by decide))
    refine ap_const (pc := 41) dX9_color_41 ?_
    exact ap_ireturn (pc := 42) dX9_color_42 rfl ⟨by simp (disch := omega) only [vColor, if_pos, if_neg], Or.inr ⟨fun z => by unfold okColor at z; omega, rfl⟩⟩

set_option maxHeartbeats 4000000 in
theorem qX9_put (f c : Int) (m : AM) (wR : wfR (m 101)) (hs : 0 ≤ m 100 3 ∧ m 100 3 ≤ 4) (hf : rng f) (hc : rng c) : CS 4 mX9_put [.inr 100, .inl f, .inl c] m (fun v m' => v = some (vPut (m 101) f c) ∧ ((okPut (m 101) f c ∧ m' 101 = rPut (m 101) f c ∧ mOK m m') ∨ (¬ okPut (m 101) f c ∧ m' = m))) := by
  refine cs_of (by decide +kernel) (Nat.le_of_ble_eq_true rfl) rfl ?_
  have h12 := wR.1.1
  refine ap_ild_1 (pc := 0) dX9_put_0 ?_
  refine ap_invS (pc := 1) dX9_put_1 ms_RX9_67 (av := [_]) (rest := []) (qX9_isField _ _ ⟨by omega, by omega⟩) rfl rfl (Nat.le_of_ble_eq_true rfl) (by decide) (by decide) ?_
  rintro _ _ ⟨⟨w1, rfl⟩ | ⟨w1, rfl⟩, rfl⟩
  · skip
    refine ap_if_eq (pc := 4) 15 dX9_put_4 rfl ⟨by omega, by omega⟩ (fun c4 => absurd c4 (by decide)) (fun _ => ?_)
    refine ap_ald_0 (pc := 7) dX9_put_7 ?_
    refine ap_ild_2 (pc := 8) dX9_put_8 ?_
    refine ap_invV (pc := 9) dX9_put_9 mv_RX9_47 sh_100 (av := [_]) (rest := []) (qX9_isColor _ _ ⟨by omega, by omega⟩ (by assumption)) rfl rfl (Nat.le_of_ble_eq_true rfl) (by decide) (by decide) ?_
    rintro _ _ ⟨⟨w9, rfl⟩ | ⟨w9, rfl⟩, rfl⟩
    · skip
      refine ap_if_ne (pc := 12) 17 dX9_put_12 rfl ⟨by omega, by omega⟩ (fun _ => ?_) (fun c12 => absurd c12 (by decide))
      refine ap_ald_0 (pc := 17) dX9_put_17 ?_
      refine ap_ild_1 (pc := 18) dX9_put_18 ?_
      refine ap_const (pc := 19) dX9_put_19 ?_
      refine ap_const (pc := 20) dX9_put_20 ?_
      refine ap_invV (pc := 21) dX9_put_21 mv_RX9_70 sh_100 (av := [_, _, _]) (rest := []) (qX9_layersWith _ _ _ _ (by omega) (by omega) (wR.2.1.1 f (by omega) (by omega)).1 (fun l a b => by have q := (wR.2.1.2 f l (by omega) (by omega) a b).2.1; simp only [stR] at q; constructor <;> omega) ⟨by omega, by omega⟩ ⟨by omega, by omega⟩) rfl rfl (Nat.le_of_ble_eq_true rfl) (by decide) (by decide) ?_
      rintro _ _ ⟨rfl, rfl⟩
      have hz3 := (wR.2.1.1 f (by omega) (by omega)).1
      simp only [szR] at hz3
      have hct := cnt_le (r := m 101) (f := f) (a := 0) (b := 0) (by simp only [szR]; omega)
      have hcp := (cnt_pos (r := m 101) (f := f) (a := 0) (b := 0)).1
      have hcr := raw_cnt wR (f := f) (by omega) (by omega)
      refine ap_if_le (pc := 24) 30 dX9_put_24 rfl ⟨by omega, by omega⟩ (fun c24 => ?_) (fun c24 => ?_)
      · skip
        refine ap_ald_0 (pc := 30) dX9_put_30 ?_
        refine ap_ild_1 (pc := 31) dX9_put_31 ?_
        refine ap_invV (pc := 32) dX9_put_32 mv_RX9_39 sh_100 (av := [_]) (rest := []) (qX9_layers _ _ (by omega) (by omega)) rfl rfl (Nat.le_of_ble_eq_true rfl) (by decide) (by decide) ?_
        rintro _ _ ⟨rfl, rfl⟩
        refine ap_const (pc := 35) dX9_put_35 ?_
        refine ap_icmp_ne (pc := 36) 42 dX9_put_36 rfl (Or.inr ⟨⟨by omega, by omega⟩, ⟨by omega, by omega⟩⟩) (fun c36 => ?_) (fun c36 => ?_)
        · skip
          refine ap_ald_0 (pc := 42) dX9_put_42 ?_
          refine ap_invV (pc := 43) dX9_put_43 mv_RX9_36 sh_100 (av := []) (rest := []) (qX9_records _ hs) rfl rfl (Nat.le_of_ble_eq_true rfl) (by decide) (by decide) ?_
          rintro _ m1 ⟨rfl, r1, r2, r3, r4⟩
          have hrow : m1 101 = m 101 := funext fun j => r3 101 j (by omega) (by omega)
          refine ap_ild_1 (pc := 46) dX9_put_46 ?_
          refine ap_ald_0 (pc := 47) dX9_put_47 ?_
          refine ap_ild_1 (pc := 48) dX9_put_48 ?_
          refine ap_invV (pc := 49) dX9_put_49 mv_RX9_39 sh_100 (av := [_]) (rest := [_]) (qX9_layers _ _ (by omega) (by omega)) rfl rfl (Nat.le_of_ble_eq_true rfl) (by decide) (by decide) ?_
          rintro _ _ ⟨rfl, rfl⟩
          try simp (disch := omega) only [am_same, am_k, am_j, hrow]
          refine ap_invS (pc := 52) dX9_put_52 ms_RX9_63 (av := [_, _]) (rest := []) (qX9_layerAt _ _ _) rfl rfl (Nat.le_of_ble_eq_true rfl) (by decide) (by decide) ?_
          rintro _ _ ⟨rfl, rfl⟩
          refine ap_ist_3 (pc := 55) dX9_put_55 (by decide) ?_
          refine ap_ald_0 (pc := 56) dX9_put_56 ?_
          refine ap_getR (pc := 57) dX9_put_57 fl_RX9_7 sh_100 rfl ?_
          refine ap_ild_3 (pc := 60) dX9_put_60 ?_
          refine ap_ild_2 (pc := 61) dX9_put_61 ?_
          refine ap_iastore (pc := 62) dX9_put_62 sh_101 (by omega) (by omega) (by decide) ?_
          refine ap_ald_0 (pc := 63) dX9_put_63 ?_
          refine ap_getR (pc := 64) dX9_put_64 fl_RX9_7 sh_100 rfl ?_
          refine ap_ild_3 (pc := 67) dX9_put_67 ?_
          refine ap_const (pc := 68) dX9_put_68 ?_
          refine ap_iadd (pc := 69) dX9_put_69 ?_
          refine ap_const (pc := 70) dX9_put_70 ?_
          refine ap_iastore (pc := 71) dX9_put_71 sh_101 (by omega) (by omega) (by decide) ?_
          refine ap_ald_0 (pc := 72) dX9_put_72 ?_
          refine ap_getR (pc := 73) dX9_put_73 fl_RX9_7 sh_100 rfl ?_
          refine ap_ild_3 (pc := 76) dX9_put_76 ?_
          refine ap_const (pc := 77) dX9_put_77 ?_
          refine ap_iadd (pc := 78) dX9_put_78 ?_
          refine ap_const (pc := 79) dX9_put_79 ?_
          refine ap_iastore (pc := 80) dX9_put_80 sh_101 (by omega) (by omega) (by decide) ?_
          refine ap_ald_0 (pc := 81) dX9_put_81 ?_
          refine ap_getR (pc := 82) dX9_put_82 fl_RX9_7 sh_100 rfl ?_
          refine ap_ild_1 (pc := 85) dX9_put_85 ?_
          refine ap_invS (pc := 86) dX9_put_86 ms_RX9_60 (av := [_]) (rest := [_]) (qX9_fieldAt _ _) rfl rfl (Nat.le_of_ble_eq_true rfl) (by decide) (by decide) ?_
          rintro _ _ ⟨rfl, rfl⟩
          refine ap_dup2 (pc := 89) dX9_put_89 ?_
          refine ap_iaload (pc := 90) dX9_put_90 sh_101 (by omega) (by omega) (by decide) ?_
          try simp (disch := omega) only [am_same, am_k, am_j, hrow]
          refine ap_const (pc := 91) dX9_put_91 ?_
          refine ap_iadd (pc := 92) dX9_put_92 ?_
          refine ap_iastore (pc := 93) dX9_put_93 sh_101 (by omega) (by omega) (by decide) ?_
          refine ap_ald_0 (pc := 94) dX9_put_94 ?_
          refine ap_getR (pc := 95) dX9_put_95 fl_RX9_7 sh_100 rfl ?_
          refine ap_bipush (pc := 98) dX9_put_98 bp_119 ?_
          refine ap_dup2 (pc := 100) dX9_put_100 ?_
          refine ap_iaload (pc := 101) dX9_put_101 sh_101 (by omega) (by omega) (by decide) ?_
          try simp (disch := omega) only [am_same, am_k, am_j, hrow]
          refine ap_const (pc := 102) dX9_put_102 ?_
          refine ap_iadd (pc := 103) dX9_put_103 ?_
          refine ap_iastore (pc := 104) dX9_put_104 sh_101 (by omega) (by omega) (by decide) ?_
          refine ap_ald_0 (pc := 105) dX9_put_105 ?_
          refine ap_ild_1 (pc := 106) dX9_put_106 ?_
          refine ap_invV (pc := 107) dX9_put_107 mv_RX9_39 sh_100 (av := [_]) (rest := []) (qX9_layers _ _ (by omega) (by omega)) rfl rfl (Nat.le_of_ble_eq_true rfl) (by decide) (by decide) ?_
          rintro _ _ ⟨rfl, rfl⟩
          try simp (disch := omega) only [am_same, am_k, am_j, hrow]
          refine ap_const (pc := 110) dX9_put_110 ?_
          refine ap_isub (pc := 111) dX9_put_111 ?_
          exact ap_ireturn (pc := 112) dX9_put_112 rfl ⟨by rw [(vPut_4 (r := m 101) (f := f) (c := c) (by omega) (fun z => by have := hcr.2 z; omega) (by simp only [szR]; omega)).1]; simp (disch := omega) only [am_same, am_j, am_k, hrow, szR]; congr 1; omega, Or.inl ⟨(vPut_4 (r := m 101) (by omega) (fun z => by have := hcr.2 z; omega) (by simp only [szR]; omega)).2, by simp only [am_rowF, hrow]; unfold rPut; rfl, mOK_of r1 r2 r3 r4 (fun k j a => by simp (disch := omega) only [am_k])⟩⟩
        · skip
          refine ap_bipush (pc := 39) dX9_put_39 bp_m3 ?_
          exact ap_ireturn (pc := 41) dX9_put_41 rfl ⟨by rw [(vPut_3 (r := m 101) (f := f) (c := c) (by omega) (fun z => by have := hcr.2 z; omega) (by simp only [szR]; omega)).1], Or.inr ⟨(vPut_3 (r := m 101) (f := f) (c := c) (by omega) (fun z => by have := hcr.2 z; omega) (by simp only [szR]; omega)).2, rfl⟩⟩
      · skip
        refine ap_bipush (pc := 27) dX9_put_27 bp_m2 ?_
        exact ap_ireturn (pc := 29) dX9_put_29 rfl ⟨by rw [(vPut_2 (r := m 101) (f := f) (c := c) (by omega) (hcr.1 (by omega))).1], Or.inr ⟨(vPut_2 (r := m 101) (f := f) (c := c) (by omega) (hcr.1 (by omega))).2, rfl⟩⟩
    · skip
      refine ap_if_ne (pc := 12) 17 dX9_put_12 rfl ⟨by omega, by omega⟩ (fun c12 => absurd c12 (by decide)) (fun _ => ?_)
      refine ap_const (pc := 15) dX9_put_15 ?_
      exact ap_ireturn (pc := 16) dX9_put_16 rfl ⟨by rw [(vPut_1 (r := m 101) (f := f) (c := c) (by omega)).1], Or.inr ⟨(vPut_1 (r := m 101) (f := f) (c := c) (by omega)).2, rfl⟩⟩
  · skip
    refine ap_if_eq (pc := 4) 15 dX9_put_4 rfl ⟨by omega, by omega⟩ (fun _ => ?_) (fun c4 => absurd c4 (by decide))
    refine ap_const (pc := 15) dX9_put_15 ?_
    exact ap_ireturn (pc := 16) dX9_put_16 rfl ⟨by rw [(vPut_1 (r := m 101) (f := f) (c := c) (by omega)).1], Or.inr ⟨(vPut_1 (r := m 101) (f := f) (c := c) (by omega)).2, rfl⟩⟩

set_option maxHeartbeats 4000000 in
theorem qX9_takeOff (f : Int) (m : AM) (wR : wfR (m 101)) (hs : 0 ≤ m 100 3 ∧ m 100 3 ≤ 4) (hf : rng f) : CS 3 mX9_takeOff [.inr 100, .inl f] m (fun v m' => v = some (vTake (m 101) f) ∧ ((okTake (m 101) f ∧ m' 101 = rTake (m 101) f ∧ mOK m m') ∨ (¬ okTake (m 101) f ∧ m' = m))) := by
  refine cs_of (by decide +kernel) (Nat.le_of_ble_eq_true rfl) rfl ?_
  have h12 := wR.1.1
  refine ap_ild_1 (pc := 0) dX9_takeOff_0 ?_
  refine ap_invS (pc := 1) dX9_takeOff_1 ms_RX9_67 (av := [_]) (rest := []) (qX9_isField _ _ ⟨by omega, by omega⟩) rfl rfl (Nat.le_of_ble_eq_true rfl) (by decide) (by decide) ?_
  rintro _ _ ⟨⟨w1, rfl⟩ | ⟨w1, rfl⟩, rfl⟩
  · skip
    refine ap_if_ne (pc := 4) 9 dX9_takeOff_4 rfl ⟨by omega, by omega⟩ (fun _ => ?_) (fun c4 => absurd c4 (by decide))
    refine ap_ald_0 (pc := 9) dX9_takeOff_9 ?_
    refine ap_ild_1 (pc := 10) dX9_takeOff_10 ?_
    refine ap_invV (pc := 11) dX9_takeOff_11 mv_RX9_39 sh_100 (av := [_]) (rest := []) (qX9_layers _ _ (by omega) (by omega)) rfl rfl (Nat.le_of_ble_eq_true rfl) (by decide) (by decide) ?_
    rintro _ _ ⟨rfl, rfl⟩
    have hz3 := (wR.2.1.1 f (by omega) (by omega)).1
    simp only [szR] at hz3
    refine ap_const (pc := 14) dX9_takeOff_14 ?_
    refine ap_isub (pc := 15) dX9_takeOff_15 ?_
    refine ap_ist_2 (pc := 16) dX9_takeOff_16 (by decide) ?_
    refine ap_ild_2 (pc := 17) dX9_takeOff_17 ?_
    refine ap_if_lt (pc := 18) 31 dX9_takeOff_18 rfl (by constructor <;> omega) (fun c18 => ?_) (fun c18 => ?_)
    · skip
      refine ap_bipush (pc := 31) dX9_takeOff_31 bp_m2 ?_
      exact ap_ireturn (pc := 33) dX9_takeOff_33 rfl ⟨by rw [(vTake_2 (r := m 101) (f := f) (by omega) (fun z => by have z1 := z.1; have z2 := z.2; simp only [szR, stR] at z1 z2; omega)).1], Or.inr ⟨(vTake_2 (r := m 101) (f := f) (by omega) (fun z => by have z1 := z.1; have z2 := z.2; simp only [szR, stR] at z1 z2; omega)).2, rfl⟩⟩
    · skip
      refine ap_ald_0 (pc := 21) dX9_takeOff_21 ?_
      refine ap_ild_1 (pc := 22) dX9_takeOff_22 ?_
      refine ap_ild_2 (pc := 23) dX9_takeOff_23 ?_
      refine ap_const (pc := 24) dX9_takeOff_24 ?_
      refine ap_invV (pc := 25) dX9_takeOff_25 mv_RX9_43 sh_100 (av := [_, _, _]) (rest := []) (qX9_of _ _ _ _ (by omega) (by omega) (by omega) (by omega) (by omega) (by omega)) rfl rfl (Nat.le_of_ble_eq_true rfl) (by decide) (by decide) ?_
      rintro _ _ ⟨rfl, rfl⟩
      refine ap_if_eq (pc := 28) 34 dX9_takeOff_28 rfl (by have q := (wR.2.1.2 f (m 101 (37 + 11 * f) - 1) (by omega) (by omega) (by omega) (by simp only [szR]; omega)).2.1; simp only [stR] at q; constructor <;> omega) (fun c28 => ?_) (fun c28 => ?_)
      · skip
        refine ap_ald_0 (pc := 34) dX9_takeOff_34 ?_
        refine ap_invV (pc := 35) dX9_takeOff_35 mv_RX9_36 sh_100 (av := []) (rest := []) (qX9_records _ hs) rfl rfl (Nat.le_of_ble_eq_true rfl) (by decide) (by decide) ?_
        rintro _ m1 ⟨rfl, r1, r2, r3, r4⟩
        have hrow : m1 101 = m 101 := funext fun j => r3 101 j (by omega) (by omega)
        refine ap_ald_0 (pc := 38) dX9_takeOff_38 ?_
        refine ap_getR (pc := 39) dX9_takeOff_39 fl_RX9_7 sh_100 rfl ?_
        refine ap_ild_1 (pc := 42) dX9_takeOff_42 ?_
        refine ap_invS (pc := 43) dX9_takeOff_43 ms_RX9_60 (av := [_]) (rest := [_]) (qX9_fieldAt _ _) rfl rfl (Nat.le_of_ble_eq_true rfl) (by decide) (by decide) ?_
        rintro _ _ ⟨rfl, rfl⟩
        refine ap_dup2 (pc := 46) dX9_takeOff_46 ?_
        refine ap_iaload (pc := 47) dX9_takeOff_47 sh_101 (by omega) (by omega) (by decide) ?_
        try simp (disch := omega) only [am_same, am_k, am_j, hrow]
        refine ap_const (pc := 48) dX9_takeOff_48 ?_
        refine ap_isub (pc := 49) dX9_takeOff_49 ?_
        refine ap_iastore (pc := 50) dX9_takeOff_50 sh_101 (by omega) (by omega) (by decide) ?_
        refine ap_ald_0 (pc := 51) dX9_takeOff_51 ?_
        refine ap_getR (pc := 52) dX9_takeOff_52 fl_RX9_7 sh_100 rfl ?_
        refine ap_bipush (pc := 55) dX9_takeOff_55 bp_120 ?_
        refine ap_dup2 (pc := 57) dX9_takeOff_57 ?_
        refine ap_iaload (pc := 58) dX9_takeOff_58 sh_101 (by omega) (by omega) (by decide) ?_
        try simp (disch := omega) only [am_same, am_k, am_j, hrow]
        refine ap_const (pc := 59) dX9_takeOff_59 ?_
        refine ap_iadd (pc := 60) dX9_takeOff_60 ?_
        refine ap_iastore (pc := 61) dX9_takeOff_61 sh_101 (by omega) (by omega) (by decide) ?_
        refine ap_ald_0 (pc := 62) dX9_takeOff_62 ?_
        refine ap_ild_1 (pc := 63) dX9_takeOff_63 ?_
        refine ap_ild_2 (pc := 64) dX9_takeOff_64 ?_
        refine ap_const (pc := 65) dX9_takeOff_65 ?_
        refine ap_invV (pc := 66) dX9_takeOff_66 mv_RX9_43 sh_100 (av := [_, _, _]) (rest := []) (qX9_of _ _ _ _ (by omega) (by omega) (by omega) (by omega) (by omega) (by omega)) rfl rfl (Nat.le_of_ble_eq_true rfl) (by decide) (by decide) ?_
        rintro _ _ ⟨rfl, rfl⟩
        try simp (disch := omega) only [am_same, am_k, am_j, hrow]
        exact ap_ireturn (pc := 69) dX9_takeOff_69 rfl ⟨by rw [(vTake_3 (r := m 101) (f := f) (by omega) ⟨by simp only [szR]; omega, by simp only [szR, stR]; omega⟩).1], Or.inl ⟨(vTake_3 (r := m 101) (by omega) ⟨by simp only [szR]; omega, by simp only [szR, stR]; omega⟩).2, by simp only [am_rowF, hrow]; unfold rTake; rfl, mOK_of r1 r2 r3 r4 (fun k j a => by simp (disch := omega) only [am_k])⟩⟩
      · skip
        refine ap_bipush (pc := 31) dX9_takeOff_31 bp_m2 ?_
        exact ap_ireturn (pc := 33) dX9_takeOff_33 rfl ⟨by rw [(vTake_2 (r := m 101) (f := f) (by omega) (fun z => by have z1 := z.1; have z2 := z.2; simp only [szR, stR] at z1 z2; omega)).1], Or.inr ⟨(vTake_2 (r := m 101) (f := f) (by omega) (fun z => by have z1 := z.1; have z2 := z.2; simp only [szR, stR] at z1 z2; omega)).2, rfl⟩⟩
  · skip
    refine ap_if_ne (pc := 4) 9 dX9_takeOff_4 rfl ⟨by omega, by omega⟩ (fun c4 => absurd c4 (by decide)) (fun _ => ?_)
    refine ap_const (pc := 7) dX9_takeOff_7 ?_
    exact ap_ireturn (pc := 8) dX9_takeOff_8 rfl ⟨by rw [(vTake_1 (r := m 101) (f := f) (by omega)).1], Or.inr ⟨(vTake_1 (r := m 101) (f := f) (by omega)).2, rfl⟩⟩

set_option maxHeartbeats 4000000 in
theorem qX9_clean (m : AM) (wR : wfR (m 101)) (hs : 0 ≤ m 100 3 ∧ m 100 3 ≤ 4) : CS 5 mX9_clean [.inr 100] m (fun v m' => v = some (layN (m 101)) ∧ isClean (m 101) (m' 101) ∧ mOK m m') := by
  refine cs_of (by decide +kernel) (Nat.le_of_ble_eq_true rfl) rfl ?_
  have h12 := wR.1.1
  refine ap_ald_0 (pc := 0) dX9_clean_0 ?_
  refine ap_invV (pc := 1) dX9_clean_1 mv_RX9_36 sh_100 (av := []) (rest := []) (qX9_records _ hs) rfl rfl (Nat.le_of_ble_eq_true rfl) (by decide) (by decide) ?_
  rintro _ m1 ⟨rfl, r1, r2, r3, r4⟩
  have hrow : m1 101 = m 101 := funext fun j => r3 101 j (by omega) (by omega)
  refine ap_ald_0 (pc := 4) dX9_clean_4 ?_
  refine ap_const (pc := 5) dX9_clean_5 ?_
  refine ap_const (pc := 6) dX9_clean_6 ?_
  refine ap_invV (pc := 7) dX9_clean_7 mv_RX9_73 sh_100 (av := [_, _]) (rest := []) (qX9_allLayers _ _ _ (by rw [hrow]; exact wR) ⟨by omega, by omega⟩ ⟨by omega, by omega⟩) rfl rfl (Nat.le_of_ble_eq_true rfl) (by decide) (by decide) ?_
  rintro _ _ ⟨rfl, rfl⟩
  rw [hrow, stN_all wR.2.1]
  refine ap_ist_1 (pc := 10) dX9_clean_10 (by decide) ?_
  refine ap_const (pc := 11) dX9_clean_11 ?_
  refine ap_ist_2 (pc := 12) dX9_clean_12 (by decide) ?_
  refine AP.bk (up_rec 7 (fun i => ∀ mi : AM, (∀ x : Int, 0 ≤ x → x < i → mi 101 (37 + 11 * x) = 0 ∧ mi 101 (37 + 11 * x + 1) = 0) → (∀ j : Int, (j < 37 ∨ 114 ≤ j) → mi 101 j = m 101 j) → (∀ (k : Nat) (j : Int), k ≠ 101 → mi k j = m1 k j) → AP 5 mX9_clean 13 [some (.inr 100), some (.inl (layN (m 101))), some (.inl (i : Int))] [] mi (fun v m' => v = some (layN (m 101)) ∧ isClean (m 101) (m' 101) ∧ mOK m m')) (by omega) (fun i hi ih mi u1 u2 u3 => ?_) m1 (fun x a b => by omega) (fun j _ => by rw [hrow]) (fun _ _ _ => rfl)) ⟨rfl, rfl, rfl, trivial⟩ rfl
  refine ap_ild_2 (pc := 13) dX9_clean_13 ?_
  refine ap_bipush (pc := 14) dX9_clean_14 bp_7 ?_
  refine ap_icmp_ge (pc := 16) 47 dX9_clean_16 rfl ⟨by omega, by omega⟩ ⟨by omega, by omega⟩ (fun c16 => ?_) (fun c16 => ?_)
  · skip
    refine ap_ald_0 (pc := 47) dX9_clean_47 ?_
    refine ap_getR (pc := 48) dX9_clean_48 fl_RX9_7 sh_100 rfl ?_
    refine ap_bipush (pc := 51) dX9_clean_51 bp_119 ?_
    refine ap_const (pc := 53) dX9_clean_53 ?_
    refine ap_iastore (pc := 54) dX9_clean_54 sh_101 (by omega) (by omega) (by decide) ?_
    refine ap_ald_0 (pc := 55) dX9_clean_55 ?_
    refine ap_getR (pc := 56) dX9_clean_56 fl_RX9_7 sh_100 rfl ?_
    refine ap_bipush (pc := 59) dX9_clean_59 bp_120 ?_
    refine ap_const (pc := 61) dX9_clean_61 ?_
    refine ap_iastore (pc := 62) dX9_clean_62 sh_101 (by omega) (by omega) (by decide) ?_
    refine ap_ild_1 (pc := 63) dX9_clean_63 ?_
    exact ap_ireturn (pc := 64) dX9_clean_64 rfl ⟨rfl, ⟨fun j a => by simp (disch := omega) only [am_j]; exact u2 j (by omega), by simp (disch := omega) only [am_j, am_same], by simp (disch := omega) only [am_same], fun f a b => by simp (disch := omega) only [szR, crR, am_j]; exact u1 f a (by omega)⟩, mOK_of r1 r2 r3 r4 (fun k j a => by simp (disch := omega) only [am_k]; exact u3 k j a)⟩
  · skip
    refine ap_ald_0 (pc := 19) dX9_clean_19 ?_
    refine ap_getR (pc := 20) dX9_clean_20 fl_RX9_7 sh_100 rfl ?_
    refine ap_ild_2 (pc := 23) dX9_clean_23 ?_
    refine ap_invS (pc := 24) dX9_clean_24 ms_RX9_60 (av := [_]) (rest := [_]) (qX9_fieldAt _ _) rfl rfl (Nat.le_of_ble_eq_true rfl) (by decide) (by decide) ?_
    rintro _ _ ⟨rfl, rfl⟩
    refine ap_const (pc := 27) dX9_clean_27 ?_
    refine ap_iastore (pc := 28) dX9_clean_28 sh_101 (by omega) (by omega) (by decide) ?_
    refine ap_ald_0 (pc := 29) dX9_clean_29 ?_
    refine ap_getR (pc := 30) dX9_clean_30 fl_RX9_7 sh_100 rfl ?_
    refine ap_ild_2 (pc := 33) dX9_clean_33 ?_
    refine ap_invS (pc := 34) dX9_clean_34 ms_RX9_60 (av := [_]) (rest := [_]) (qX9_fieldAt _ _) rfl rfl (Nat.le_of_ble_eq_true rfl) (by decide) (by decide) ?_
    rintro _ _ ⟨rfl, rfl⟩
    refine ap_const (pc := 37) dX9_clean_37 ?_
    refine ap_iadd (pc := 38) dX9_clean_38 ?_
    refine ap_const (pc := 39) dX9_clean_39 ?_
    refine ap_iastore (pc := 40) dX9_clean_40 sh_101 (by omega) (by omega) (by decide) ?_
    refine ap_iinc_2 (pc := 41) dX9_clean_41 (by decide) ?_
    refine ap_goto (pc := 44) 13 dX9_clean_44 rfl ?_
    exact (ih c16 _ (fun x a b => by
        by_cases e : x = (i : Int)
        · subst e; refine ⟨by simp (disch := omega) only [am_j, am_same], by simp (disch := omega) only [am_same]⟩
        · refine ⟨by simp (disch := omega) only [am_j]; exact (u1 x a (by omega)).1, by simp (disch := omega) only [am_j]; exact (u1 x a (by omega)).2⟩) (fun j a => by simp (disch := omega) only [am_j]; exact u2 j a) (fun k j a => by simp (disch := omega) only [am_k]; exact u3 k j a)).bk ⟨rfl, rfl, rfl, trivial⟩ rfl

set_option maxHeartbeats 4000000 in
theorem qX9_isSetting (w x : Int) (m : AM) (hw : rng w) (hx : rng x) : CS 1 mX9_isSetting [.inl w, .inl x] m (yn (okSet w x) m) := by
  refine cs_of (by decide +kernel) (Nat.le_of_ble_eq_true rfl) rfl ?_
  refine ap_ild_0 (pc := 0) dX9_isSetting_0 ?_
  rcases (by omega : w = 0 ∨ w = 1 ∨ (¬ w = 0 ∧ ¬ w = 1)) with h1 | h1 | h1
  · skip
    refine ap_lsw (pc := 1) (off := 27) 28 dX9_isSetting_1 ⟨by omega, by omega⟩ (by decide) (by show Op.lookupswitch.offset [(0, 27), (1, 35)] 42 _ = _; simp (disch := omega) only [Op.lookupswitch.offset_cons, Op.lookupswitch.offset_nil, if_pos, if_neg]) rfl ?_
    refine ap_ild_1 (pc := 28) dX9_isSetting_28 ?_
    refine ap_const (pc := 29) dX9_isSetting_29 ?_
    refine ap_bipush (pc := 30) dX9_isSetting_30 bp_10 ?_
    refine ap_invS (pc := 32) dX9_isSetting_32 ms_RX9_32 (av := [_, _, _]) (rest := []) (qX9_in _ _ _ _ ⟨by omega, by omega⟩ ⟨by omega, by omega⟩ ⟨by omega, by omega⟩) rfl rfl (Nat.le_of_ble_eq_true rfl) (by decide) (by decide) ?_
    rintro _ _ ⟨⟨w32, rfl⟩ | ⟨w32, rfl⟩, rfl⟩
    · skip
      exact ap_zreturn (pc := 35) dX9_isSetting_35 rfl (by decide) ⟨Or.inl ⟨by unfold okSet; omega, rfl⟩, rfl⟩
    · skip
      exact ap_zreturn (pc := 35) dX9_isSetting_35 rfl (by decide) ⟨Or.inr ⟨by unfold okSet; omega, rfl⟩, rfl⟩
  · skip
    refine ap_lsw (pc := 1) (off := 35) 36 dX9_isSetting_1 ⟨by omega, by omega⟩ (by decide) (by show Op.lookupswitch.offset [(0, 27), (1, 35)] 42 _ = _; simp (disch := omega) only [Op.lookupswitch.offset_cons, Op.lookupswitch.offset_nil, if_pos, if_neg]) rfl ?_
    refine ap_ild_1 (pc := 36) dX9_isSetting_36 ?_
    refine ap_const (pc := 37) dX9_isSetting_37 ?_
    refine ap_const (pc := 38) dX9_isSetting_38 ?_
    refine ap_invS (pc := 39) dX9_isSetting_39 ms_RX9_32 (av := [_, _, _]) (rest := []) (qX9_in _ _ _ _ ⟨by omega, by omega⟩ ⟨by omega, by omega⟩ ⟨by omega, by omega⟩) rfl rfl (Nat.le_of_ble_eq_true rfl) (by decide) (by decide) ?_
    rintro _ _ ⟨⟨w39, rfl⟩ | ⟨w39, rfl⟩, rfl⟩
    · skip
      exact ap_zreturn (pc := 42) dX9_isSetting_42 rfl (by decide) ⟨Or.inl ⟨by unfold okSet; omega, rfl⟩, rfl⟩
    · skip
      exact ap_zreturn (pc := 42) dX9_isSetting_42 rfl (by decide) ⟨Or.inr ⟨by unfold okSet; omega, rfl⟩, rfl⟩
  · skip
    refine ap_lsw (pc := 1) (off := 42) 43 dX9_isSetting_1 ⟨by omega, by omega⟩ (by decide) (by show Op.lookupswitch.offset [(0, 27), (1, 35)] 42 _ = _; simp (disch := omega) only [Op.lookupswitch.offset_cons, Op.lookupswitch.offset_nil, if_pos, if_neg]) rfl ?_
    refine ap_ild_0 (pc := 43) dX9_isSetting_43 ?_
    refine ap_const (pc := 44) dX9_isSetting_44 ?_
    refine ap_icmp_ne (pc := 45) 63 dX9_isSetting_45 rfl (Or.inr ⟨⟨by omega, by omega⟩, ⟨by omega, by omega⟩⟩) (fun c45 => ?_) (fun c45 => ?_)
    · skip
      refine ap_const (pc := 63) dX9_isSetting_63 ?_
      exact ap_zreturn (pc := 64) dX9_isSetting_64 rfl (by decide) ⟨Or.inr ⟨by unfold okSet; omega, rfl⟩, rfl⟩
    · skip
      refine ap_ild_1 (pc := 48) dX9_isSetting_48 ?_
      refine ap_const (pc := 49) dX9_isSetting_49 ?_
      refine ap_sipush (pc := 50) dX9_isSetting_50 sp_400 ?_
      refine ap_invS (pc := 53) dX9_isSetting_53 ms_RX9_32 (av := [_, _, _]) (rest := []) (qX9_in _ _ _ _ ⟨by omega, by omega⟩ ⟨by omega, by omega⟩ ⟨by omega, by omega⟩) rfl rfl (Nat.le_of_ble_eq_true rfl) (by decide) (by decide) ?_
      rintro _ _ ⟨⟨w53, rfl⟩ | ⟨w53, rfl⟩, rfl⟩
      · skip
        refine ap_if_eq (pc := 56) 63 dX9_isSetting_56 rfl ⟨by omega, by omega⟩ (fun c56 => absurd c56 (by decide)) (fun _ => ?_)
        refine ap_const (pc := 59) dX9_isSetting_59 ?_
        refine ap_goto (pc := 60) 64 dX9_isSetting_60 rfl ?_
        exact ap_zreturn (pc := 64) dX9_isSetting_64 rfl (by decide) ⟨Or.inl ⟨by unfold okSet; omega, rfl⟩, rfl⟩
      · skip
        refine ap_if_eq (pc := 56) 63 dX9_isSetting_56 rfl ⟨by omega, by omega⟩ (fun _ => ?_) (fun c56 => absurd c56 (by decide))
        refine ap_const (pc := 63) dX9_isSetting_63 ?_
        exact ap_zreturn (pc := 64) dX9_isSetting_64 rfl (by decide) ⟨Or.inr ⟨by unfold okSet; omega, rfl⟩, rfl⟩

set_option maxHeartbeats 4000000 in
theorem qX9_set (w x : Int) (m : AM) (wR : wfR (m 101)) (hs : 0 ≤ m 100 3 ∧ m 100 3 ≤ 4) (hw : rng w) (hx : rng x) : CS 2 mX9_set [.inr 100, .inl w, .inl x] m (fun v m' => v = some (vSet (m 101) w x) ∧ ((okSet w x ∧ m' 101 = rSet (m 101) w x ∧ mOK m m') ∨ (¬ okSet w x ∧ m' = m))) := by
  refine cs_of (by decide +kernel) (Nat.le_of_ble_eq_true rfl) rfl ?_
  have h12 := wR.1.1
  refine ap_ild_1 (pc := 0) dX9_set_0 ?_
  refine ap_ild_2 (pc := 1) dX9_set_1 ?_
  refine ap_invS (pc := 2) dX9_set_2 ms_RX9_94 (av := [_, _]) (rest := []) (qX9_isSetting _ _ _ hw hx) rfl rfl (Nat.le_of_ble_eq_true rfl) (by decide) (by decide) ?_
  rintro _ _ ⟨⟨w2, rfl⟩ | ⟨w2, rfl⟩, rfl⟩
  · skip
    refine ap_if_ne (pc := 5) 10 dX9_set_5 rfl ⟨by omega, by omega⟩ (fun _ => ?_) (fun c5 => absurd c5 (by decide))
    refine ap_ald_0 (pc := 10) dX9_set_10 ?_
    refine ap_invV (pc := 11) dX9_set_11 mv_RX9_36 sh_100 (av := []) (rest := []) (qX9_records _ hs) rfl rfl (Nat.le_of_ble_eq_true rfl) (by decide) (by decide) ?_
    rintro _ m1 ⟨rfl, r1, r2, r3, r4⟩
    have hrow : m1 101 = m 101 := funext fun j => r3 101 j (by omega) (by omega)
    refine ap_ald_0 (pc := 14) dX9_set_14 ?_
    refine ap_getR (pc := 15) dX9_set_15 fl_RX9_7 sh_100 rfl ?_
    refine ap_bipush (pc := 18) dX9_set_18 bp_114 ?_
    refine ap_ild_1 (pc := 20) dX9_set_20 ?_
    refine ap_iadd (pc := 21) dX9_set_21 ?_
    refine ap_iaload (pc := 22) dX9_set_22 sh_101 (by unfold okSet at w2; omega) (by unfold okSet at w2; omega) (by decide) ?_
    try simp (disch := omega) only [am_same, am_k, am_j, hrow]
    refine ap_ist_3 (pc := 23) dX9_set_23 (by decide) ?_
    refine ap_ald_0 (pc := 24) dX9_set_24 ?_
    refine ap_getR (pc := 25) dX9_set_25 fl_RX9_7 sh_100 rfl ?_
    refine ap_bipush (pc := 28) dX9_set_28 bp_114 ?_
    refine ap_ild_1 (pc := 30) dX9_set_30 ?_
    refine ap_iadd (pc := 31) dX9_set_31 ?_
    refine ap_ild_2 (pc := 32) dX9_set_32 ?_
    refine ap_iastore (pc := 33) dX9_set_33 sh_101 (by unfold okSet at w2; omega) (by unfold okSet at w2; omega) (by decide) ?_
    refine ap_ild_3 (pc := 34) dX9_set_34 ?_
    exact ap_ireturn (pc := 35) dX9_set_35 rfl ⟨by rw [(vSet_y (r := m 101) w2).1]; try rfl, Or.inl ⟨w2, by simp only [am_rowF, hrow]; unfold rSet; rfl, mOK_of r1 r2 r3 r4 (fun k j a => by simp (disch := omega) only [am_k])⟩⟩
  · skip
    refine ap_if_ne (pc := 5) 10 dX9_set_5 rfl ⟨by omega, by omega⟩ (fun c5 => absurd c5 (by decide)) (fun _ => ?_)
    refine ap_const (pc := 8) dX9_set_8 ?_
    exact ap_ireturn (pc := 9) dX9_set_9 rfl ⟨by rw [(vSet_n (r := m 101) w2).1], Or.inr ⟨(vSet_n (r := m 101) w2).2, rfl⟩⟩

set_option maxHeartbeats 4000000 in
theorem qX9_wish (f c : Int) (m : AM) (wR : wfR (m 101)) (hs : 0 ≤ m 100 3 ∧ m 100 3 ≤ 4) (hf : rng f) (hc : rng c) : CS 2 mX9_wish [.inr 100, .inl f, .inl c] m (fun v m' => v = some (vWish (m 101) f c) ∧ ((okWish (m 101) f c ∧ m' 101 = rWish (m 101) f c ∧ mOK m m') ∨ (¬ okWish (m 101) f c ∧ m' = m))) := by
  refine cs_of (by decide +kernel) (Nat.le_of_ble_eq_true rfl) rfl ?_
  have h12 := wR.1.1
  refine ap_ild_1 (pc := 0) dX9_wish_0 ?_
  refine ap_invS (pc := 1) dX9_wish_1 ms_RX9_122 (av := [_]) (rest := []) (qX9_isFront _ _ ⟨by omega, by omega⟩) rfl rfl (Nat.le_of_ble_eq_true rfl) (by decide) (by decide) ?_
  rintro _ _ ⟨⟨w1, rfl⟩ | ⟨w1, rfl⟩, rfl⟩
  · skip
    refine ap_if_eq (pc := 4) 20 dX9_wish_4 rfl ⟨by omega, by omega⟩ (fun c4 => absurd c4 (by decide)) (fun _ => ?_)
    refine ap_ild_2 (pc := 7) dX9_wish_7 ?_
    refine ap_const (pc := 8) dX9_wish_8 ?_
    refine ap_icmp_eq (pc := 9) 22 dX9_wish_9 rfl (Or.inr ⟨⟨by omega, by omega⟩, ⟨by omega, by omega⟩⟩) (fun c9 => ?_) (fun c9 => ?_)
    · skip
      refine ap_bipush (pc := 22) dX9_wish_22 bp_126 ?_
      refine ap_const (pc := 24) dX9_wish_24 ?_
      refine ap_ild_1 (pc := 25) dX9_wish_25 ?_
      refine ap_imul (pc := 26) dX9_wish_26 ?_
      refine ap_iadd (pc := 27) dX9_wish_27 ?_
      refine ap_ist_3 (pc := 28) dX9_wish_28 (by decide) ?_
      refine ap_ild_2 (pc := 29) dX9_wish_29 ?_
      refine ap_if_lt (pc := 30) 46 dX9_wish_30 rfl ⟨by omega, by omega⟩ (fun c30 => ?_) (fun c30 => ?_)
      · skip
        refine ap_ald_0 (pc := 46) dX9_wish_46 ?_
        refine ap_invV (pc := 47) dX9_wish_47 mv_RX9_36 sh_100 (av := []) (rest := []) (qX9_records _ hs) rfl rfl (Nat.le_of_ble_eq_true rfl) (by decide) (by decide) ?_
        rintro _ m1 ⟨rfl, r1, r2, r3, r4⟩
        have hrow : m1 101 = m 101 := funext fun j => r3 101 j (by omega) (by omega)
        refine ap_ild_2 (pc := 50) dX9_wish_50 ?_
        refine ap_if_ge (pc := 51) 64 dX9_wish_51 rfl ⟨by omega, by omega⟩ (fun c51 => ?_) (fun c51 => ?_)
        · skip
          exfalso; omega
        · skip
          obtain rfl : c = -1 := by omega
          refine ap_ald_0 (pc := 54) dX9_wish_54 ?_
          refine ap_getR (pc := 55) dX9_wish_55 fl_RX9_7 sh_100 rfl ?_
          refine ap_ild_3 (pc := 58) dX9_wish_58 ?_
          refine ap_const (pc := 59) dX9_wish_59 ?_
          refine ap_iastore (pc := 60) dX9_wish_60 sh_101 (by omega) (by omega) (by decide) ?_
          refine ap_goto (pc := 61) 90 dX9_wish_61 rfl ?_
          refine ap_ald_0 (pc := 90) dX9_wish_90 ?_
          refine ap_getR (pc := 91) dX9_wish_91 fl_RX9_7 sh_100 rfl ?_
          refine ap_ild_3 (pc := 94) dX9_wish_94 ?_
          refine ap_iaload (pc := 95) dX9_wish_95 sh_101 (by omega) (by omega) (by decide) ?_
          try simp (disch := omega) only [am_same, am_k, am_j, hrow]
          exact ap_ireturn (pc := 96) dX9_wish_96 rfl ⟨by unfold vWish; rw [if_pos ⟨w1, Or.inl rfl⟩, if_pos rfl], Or.inl ⟨by unfold okWish; omega, by simp only [am_rowF, hrow]; unfold rWish; rw [if_pos rfl], mOK_of r1 r2 r3 r4 (fun k j a => by simp (disch := omega) only [am_k])⟩⟩
      · skip
        exfalso; omega
    · skip
      refine ap_ald_0 (pc := 12) dX9_wish_12 ?_
      refine ap_ild_2 (pc := 13) dX9_wish_13 ?_
      refine ap_invV (pc := 14) dX9_wish_14 mv_RX9_47 sh_100 (av := [_]) (rest := []) (qX9_isColor _ _ ⟨by omega, by omega⟩ (by assumption)) rfl rfl (Nat.le_of_ble_eq_true rfl) (by decide) (by decide) ?_
      rintro _ _ ⟨⟨w14, rfl⟩ | ⟨w14, rfl⟩, rfl⟩
      · skip
        refine ap_if_ne (pc := 17) 22 dX9_wish_17 rfl ⟨by omega, by omega⟩ (fun _ => ?_) (fun c17 => absurd c17 (by decide))
        refine ap_bipush (pc := 22) dX9_wish_22 bp_126 ?_
        refine ap_const (pc := 24) dX9_wish_24 ?_
        refine ap_ild_1 (pc := 25) dX9_wish_25 ?_
        refine ap_imul (pc := 26) dX9_wish_26 ?_
        refine ap_iadd (pc := 27) dX9_wish_27 ?_
        refine ap_ist_3 (pc := 28) dX9_wish_28 (by decide) ?_
        refine ap_ild_2 (pc := 29) dX9_wish_29 ?_
        refine ap_if_lt (pc := 30) 46 dX9_wish_30 rfl ⟨by omega, by omega⟩ (fun c30 => ?_) (fun c30 => ?_)
        · skip
          exfalso; omega
        · skip
          have hz3 := (wR.2.2.2 f (by omega) (by omega)).1
          refine ap_ald_0 (pc := 33) dX9_wish_33 ?_
          refine ap_getR (pc := 34) dX9_wish_34 fl_RX9_7 sh_100 rfl ?_
          refine ap_ild_3 (pc := 37) dX9_wish_37 ?_
          refine ap_iaload (pc := 38) dX9_wish_38 sh_101 (by omega) (by omega) (by decide) ?_
          refine ap_const (pc := 39) dX9_wish_39 ?_
          refine ap_icmp_ne (pc := 40) 46 dX9_wish_40 rfl (Or.inr ⟨⟨by omega, by omega⟩, ⟨by omega, by omega⟩⟩) (fun c40 => ?_) (fun c40 => ?_)
          · skip
            refine ap_ald_0 (pc := 46) dX9_wish_46 ?_
            refine ap_invV (pc := 47) dX9_wish_47 mv_RX9_36 sh_100 (av := []) (rest := []) (qX9_records _ hs) rfl rfl (Nat.le_of_ble_eq_true rfl) (by decide) (by decide) ?_
            rintro _ m1 ⟨rfl, r1, r2, r3, r4⟩
            have hrow : m1 101 = m 101 := funext fun j => r3 101 j (by omega) (by omega)
            refine ap_ild_2 (pc := 50) dX9_wish_50 ?_
            refine ap_if_ge (pc := 51) 64 dX9_wish_51 rfl ⟨by omega, by omega⟩ (fun c51 => ?_) (fun c51 => ?_)
            · skip
              refine ap_ald_0 (pc := 64) dX9_wish_64 ?_
              refine ap_getR (pc := 65) dX9_wish_65 fl_RX9_7 sh_100 rfl ?_
              refine ap_ild_3 (pc := 68) dX9_wish_68 ?_
              refine ap_const (pc := 69) dX9_wish_69 ?_
              refine ap_iadd (pc := 70) dX9_wish_70 ?_
              refine ap_ald_0 (pc := 71) dX9_wish_71 ?_
              refine ap_getR (pc := 72) dX9_wish_72 fl_RX9_7 sh_100 rfl ?_
              refine ap_ild_3 (pc := 75) dX9_wish_75 ?_
              refine ap_iaload (pc := 76) dX9_wish_76 sh_101 (by omega) (by omega) (by decide) ?_
              try simp (disch := omega) only [am_same, am_k, am_j, hrow]
              refine ap_iadd (pc := 77) dX9_wish_77 ?_
              refine ap_ild_2 (pc := 78) dX9_wish_78 ?_
              refine ap_iastore (pc := 79) dX9_wish_79 sh_101 (by omega) (by omega) (by decide) ?_
              refine ap_ald_0 (pc := 80) dX9_wish_80 ?_
              refine ap_getR (pc := 81) dX9_wish_81 fl_RX9_7 sh_100 rfl ?_
              refine ap_ild_3 (pc := 84) dX9_wish_84 ?_
              refine ap_dup2 (pc := 85) dX9_wish_85 ?_
              refine ap_iaload (pc := 86) dX9_wish_86 sh_101 (by omega) (by omega) (by decide) ?_
              try simp (disch := omega) only [am_same, am_k, am_j, hrow]
              refine ap_const (pc := 87) dX9_wish_87 ?_
              refine ap_iadd (pc := 88) dX9_wish_88 ?_
              refine ap_iastore (pc := 89) dX9_wish_89 sh_101 (by omega) (by omega) (by decide) ?_
              refine ap_ald_0 (pc := 90) dX9_wish_90 ?_
              refine ap_getR (pc := 91) dX9_wish_91 fl_RX9_7 sh_100 rfl ?_
              refine ap_ild_3 (pc := 94) dX9_wish_94 ?_
              refine ap_iaload (pc := 95) dX9_wish_95 sh_101 (by omega) (by omega) (by decide) ?_
              try simp (disch := omega) only [am_same, am_k, am_j, hrow]
              exact ap_ireturn (pc := 96) dX9_wish_96 rfl ⟨by simp (disch := omega) only [vWish, am_same, if_pos, if_neg], Or.inl ⟨by unfold okWish; omega, by simp only [am_rowF, hrow]; unfold rWish; rw [if_neg (by omega)], mOK_of r1 r2 r3 r4 (fun k j a => by simp (disch := omega) only [am_k])⟩⟩
            · skip
              exfalso; omega
          · skip
            refine ap_bipush (pc := 43) dX9_wish_43 bp_m3 ?_
            exact ap_ireturn (pc := 45) dX9_wish_45 rfl ⟨by simp (disch := omega) only [vWish, if_pos, if_neg], Or.inr ⟨fun z => by unfold okWish at z; omega, rfl⟩⟩
      · skip
        refine ap_if_ne (pc := 17) 22 dX9_wish_17 rfl ⟨by omega, by omega⟩ (fun c17 => absurd c17 (by decide)) (fun _ => ?_)
        refine ap_const (pc := 20) dX9_wish_20 ?_
        exact ap_ireturn (pc := 21) dX9_wish_21 rfl ⟨by simp (disch := omega) only [vWish, if_pos, if_neg], Or.inr ⟨fun z => by unfold okWish at z; omega, rfl⟩⟩
  · skip
    refine ap_if_eq (pc := 4) 20 dX9_wish_4 rfl ⟨by omega, by omega⟩ (fun _ => ?_) (fun c4 => absurd c4 (by decide))
    refine ap_const (pc := 20) dX9_wish_20 ?_
    exact ap_ireturn (pc := 21) dX9_wish_21 rfl ⟨by simp (disch := omega) only [vWish, if_pos, if_neg], Or.inr ⟨fun z => by unfold okWish at z; omega, rfl⟩⟩

set_option maxHeartbeats 4000000 in
theorem qX9_isHeat (v : Int) (m : AM) (hv : rng v) : CS 1 mX9_isHeat [.inl v] m (yn (500 ≤ v ∧ v ≤ 1200) m) := by
  refine cs_of (by decide +kernel) (Nat.le_of_ble_eq_true rfl) rfl ?_
  refine ap_ild_0 (pc := 0) dX9_isHeat_0 ?_
  refine ap_sipush (pc := 1) dX9_isHeat_1 sp_500 ?_
  refine ap_sipush (pc := 4) dX9_isHeat_4 sp_1200 ?_
  refine ap_invS (pc := 7) dX9_isHeat_7 ms_RX9_32 (av := [_, _, _]) (rest := []) (qX9_in _ _ _ _ ⟨by omega, by omega⟩ ⟨by omega, by omega⟩ ⟨by omega, by omega⟩) rfl rfl (Nat.le_of_ble_eq_true rfl) (by decide) (by decide) ?_
  rintro _ _ ⟨⟨w7, rfl⟩ | ⟨w7, rfl⟩, rfl⟩
  · skip
    exact ap_zreturn (pc := 10) dX9_isHeat_10 rfl (by decide) ⟨Or.inl ⟨by omega, rfl⟩, rfl⟩
  · skip
    exact ap_zreturn (pc := 10) dX9_isHeat_10 rfl (by decide) ⟨Or.inr ⟨by omega, rfl⟩, rfl⟩

set_option maxHeartbeats 4000000 in
theorem qX9_fire (h t : Int) (m : AM) (wR : wfR (m 101)) (hs : 0 ≤ m 100 3 ∧ m 100 3 ≤ 4) (hh : rng h) (ht : rng t) : CS 6 mX9_fire [.inr 100, .inl h, .inl t] m (fun v m' => v = some (vFire (m 101) h t) ∧ ((okFire (m 101) h t ∧ isFire (m 101) h (lgR (m 101) t) t (m' 101) ∧ mOK m m') ∨ (¬ okFire (m 101) h t ∧ m' = m))) := by
  refine cs_of (by decide +kernel) (Nat.le_of_ble_eq_true rfl) rfl ?_
  have h12 := wR.1.1
  have h117 := wR.2.2.1.2.2.2.1
  refine ap_ild_1 (pc := 0) dX9_fire_0 ?_
  refine ap_invS (pc := 1) dX9_fire_1 ms_RX9_111 (av := [_]) (rest := []) (qX9_isHeat _ _ hh) rfl rfl (Nat.le_of_ble_eq_true rfl) (by decide) (by decide) ?_
  rintro _ _ ⟨⟨w1, rfl⟩ | ⟨w1, rfl⟩, rfl⟩
  · skip
    refine ap_if_eq (pc := 4) 17 dX9_fire_4 rfl ⟨by omega, by omega⟩ (fun c4 => absurd c4 (by decide)) (fun _ => ?_)
    refine ap_ild_2 (pc := 7) dX9_fire_7 ?_
    refine ap_const (pc := 8) dX9_fire_8 ?_
    refine ap_bipush (pc := 9) dX9_fire_9 bp_20 ?_
    refine ap_invS (pc := 11) dX9_fire_11 ms_RX9_32 (av := [_, _, _]) (rest := []) (qX9_in _ _ _ _ ⟨by omega, by omega⟩ ⟨by omega, by omega⟩ ⟨by omega, by omega⟩) rfl rfl (Nat.le_of_ble_eq_true rfl) (by decide) (by decide) ?_
    rintro _ _ ⟨⟨w11, rfl⟩ | ⟨w11, rfl⟩, rfl⟩
    · skip
      refine ap_if_ne (pc := 14) 19 dX9_fire_14 rfl ⟨by omega, by omega⟩ (fun _ => ?_) (fun c14 => absurd c14 (by decide))
      refine ap_ald_0 (pc := 19) dX9_fire_19 ?_
      refine ap_getR (pc := 20) dX9_fire_20 fl_RX9_7 sh_100 rfl ?_
      refine ap_bipush (pc := 23) dX9_fire_23 bp_117 ?_
      refine ap_iaload (pc := 25) dX9_fire_25 sh_101 (by omega) (by omega) (by decide) ?_
      refine ap_sipush (pc := 26) dX9_fire_26 sp_1000 ?_
      refine ap_icmp_ne (pc := 29) 35 dX9_fire_29 rfl (Or.inr ⟨⟨by omega, by omega⟩, ⟨by omega, by omega⟩⟩) (fun c29 => ?_) (fun c29 => ?_)
      · skip
        refine ap_ald_0 (pc := 35) dX9_fire_35 ?_
        refine ap_invV (pc := 36) dX9_fire_36 mv_RX9_36 sh_100 (av := []) (rest := []) (qX9_records _ hs) rfl rfl (Nat.le_of_ble_eq_true rfl) (by decide) (by decide) ?_
        rintro _ m1 ⟨rfl, r1, r2, r3, r4⟩
        have hrow : m1 101 = m 101 := funext fun j => r3 101 j (by omega) (by omega)
        refine ap_ald_0 (pc := 39) dX9_fire_39 ?_
        refine ap_getR (pc := 40) dX9_fire_40 fl_RX9_7 sh_100 rfl ?_
        refine ap_bipush (pc := 43) dX9_fire_43 bp_121 ?_
        refine ap_iaload (pc := 45) dX9_fire_45 sh_101 (by omega) (by omega) (by decide) ?_
        try simp (disch := omega) only [am_same, am_k, am_j, hrow]
        refine ap_ist_3 (pc := 46) dX9_fire_46 (by decide) ?_
        refine ap_ald_0 (pc := 47) dX9_fire_47 ?_
        refine ap_ild_1 (pc := 48) dX9_fire_48 ?_
        refine ap_ild_2 (pc := 49) dX9_fire_49 ?_
        refine ap_invV (pc := 50) dX9_fire_50 mv_RX9_114 sh_100 (av := [_, _]) (rest := []) (qX9_fires h t (lgR (m 101) t) _ (by omega) (by omega) (by rw [hrow]; exact lgR_d (m 101) t) (by rw [hrow]; exact wR.1) (by rw [hrow]; exact wR.2.1) (by rw [hrow]; exact wR.2.2.1)) rfl rfl (Nat.le_of_ble_eq_true rfl) (by decide) (by decide) ?_
        rintro _ m2 ⟨rfl, hI, hF⟩
        rw [hrow] at hI
        refine ap_ald_0 (pc := 53) dX9_fire_53 ?_
        refine ap_getR (pc := 54) dX9_fire_54 fl_RX9_7 sh_100 rfl ?_
        refine ap_bipush (pc := 57) dX9_fire_57 bp_121 ?_
        refine ap_iaload (pc := 59) dX9_fire_59 sh_101 (by omega) (by omega) (by decide) ?_
        try simp (disch := omega) only [am_same, am_k, am_j, hrow]
        refine ap_ild_3 (pc := 60) dX9_fire_60 ?_
        refine ap_isub (pc := 61) dX9_fire_61 ?_
        exact ap_ireturn (pc := 62) dX9_fire_62 rfl ⟨by rw [hI.2.2.2.2.2.2.2.1]; simp (disch := omega) only [vFire, if_pos]; congr 1; omega, Or.inl ⟨⟨by omega, by omega, by omega⟩, hI, mOK_of r1 r2 r3 r4 hF⟩⟩
      · skip
        refine ap_bipush (pc := 32) dX9_fire_32 bp_m3 ?_
        exact ap_ireturn (pc := 34) dX9_fire_34 rfl ⟨by simp (disch := omega) only [vFire, if_pos, if_neg], Or.inr ⟨fun z => by unfold okFire at z; omega, rfl⟩⟩
    · skip
      refine ap_if_ne (pc := 14) 19 dX9_fire_14 rfl ⟨by omega, by omega⟩ (fun c14 => absurd c14 (by decide)) (fun _ => ?_)
      refine ap_const (pc := 17) dX9_fire_17 ?_
      exact ap_ireturn (pc := 18) dX9_fire_18 rfl ⟨by simp (disch := omega) only [vFire, if_pos, if_neg], Or.inr ⟨fun z => by unfold okFire at z; omega, rfl⟩⟩
  · skip
    refine ap_if_eq (pc := 4) 17 dX9_fire_4 rfl ⟨by omega, by omega⟩ (fun _ => ?_) (fun c4 => absurd c4 (by decide))
    refine ap_const (pc := 17) dX9_fire_17 ?_
    exact ap_ireturn (pc := 18) dX9_fire_18 rfl ⟨by simp (disch := omega) only [vFire, if_pos, if_neg], Or.inr ⟨fun z => by unfold okFire at z; omega, rfl⟩⟩

set_option maxHeartbeats 4000000 in
theorem qX9_undo (m : AM) (hs : 0 ≤ m 100 3 ∧ m 100 3 ≤ 4) : CS 0 mX9_undo [.inr 100] m (fun v m' => v = some (if m 100 3 = 0 then -2 else m 100 3 - 1) ∧ ((m 100 3 ≠ 0 ∧ m' 100 3 = m 100 3 - 1 ∧ (∀ j : Int, 0 ≤ j → j < 150 → m' 101 j = m 102 (150 * (m 100 3 - 1) + j)) ∧ (∀ (k : Nat) (j : Int), (k < 100 ∨ 101 < k) → m' k j = m k j) ∧ ∀ j : Int, j ≠ 3 → m' 100 j = m 100 j) ∨ (m 100 3 = 0 ∧ m' = m))) := by
  refine cs_of (by decide +kernel) (Nat.le_of_ble_eq_true rfl) rfl ?_
  refine ap_ald_0 (pc := 0) dX9_undo_0 ?_
  refine ap_getI (pc := 1) (jz := 3) dX9_undo_1 fl_RX9_28 sh_100 rfl rfl ?_
  refine ap_if_ne (pc := 4) 10 dX9_undo_4 rfl ⟨by omega, by omega⟩ (fun c4 => ?_) (fun c4 => ?_)
  · skip
    refine ap_ald_0 (pc := 10) dX9_undo_10 ?_
    refine ap_dup (pc := 11) dX9_undo_11 ?_
    refine ap_getI (pc := 12) (jz := 3) dX9_undo_12 fl_RX9_28 sh_100 rfl rfl ?_
    refine ap_const (pc := 15) dX9_undo_15 ?_
    refine ap_isub (pc := 16) dX9_undo_16 ?_
    refine ap_putI (pc := 17) (jz := 3) dX9_undo_17 fn_RX9_28 sh_100 rfl rfl (fun z => by cases z) ?_
    refine ap_const (pc := 20) dX9_undo_20 ?_
    refine ap_ist_1 (pc := 21) dX9_undo_21 (by decide) ?_
    refine AP.bk (up_rec 150 (fun i => ∀ mi : AM, (∀ j : Int, 0 ≤ j → j < i → mi 101 j = m 102 (150 * (m 100 3 - 1) + j)) → (∀ (k : Nat) (j : Int), (k < 100 ∨ 101 < k) → mi k j = m k j) → (mi 100 3 = m 100 3 - 1 ∧ ∀ j : Int, j ≠ 3 → mi 100 j = m 100 j) → AP 0 mX9_undo 22 [some (.inr 100), some (.inl (i : Int))] [] mi (fun v m' => v = some (if m 100 3 = 0 then -2 else m 100 3 - 1) ∧ ((m 100 3 ≠ 0 ∧ m' 100 3 = m 100 3 - 1 ∧ (∀ j : Int, 0 ≤ j → j < 150 → m' 101 j = m 102 (150 * (m 100 3 - 1) + j)) ∧ (∀ (k : Nat) (j : Int), (k < 100 ∨ 101 < k) → m' k j = m k j) ∧ ∀ j : Int, j ≠ 3 → m' 100 j = m 100 j) ∨ (m 100 3 = 0 ∧ m' = m)))) (by omega) (fun i hi ih mi u1 u2 u3 => ?_) _ (fun x a b => by omega) (fun k j a => by rw [am_k (by omega)]) ⟨by rw [am_same], fun j a => by rw [am_j a]⟩) ⟨rfl, rfl, trivial⟩ rfl
    refine ap_ild_1 (pc := 22) dX9_undo_22 ?_
    refine ap_sipush (pc := 23) dX9_undo_23 sp_150 ?_
    refine ap_icmp_ge (pc := 26) 56 dX9_undo_26 rfl ⟨by omega, by omega⟩ ⟨by omega, by omega⟩ (fun c26 => ?_) (fun c26 => ?_)
    · skip
      refine ap_ald_0 (pc := 56) dX9_undo_56 ?_
      refine ap_getI (pc := 57) (jz := 3) dX9_undo_57 fl_RX9_28 sh_100 rfl rfl ?_
      try simp (disch := omega) only [am_same, am_k, am_j]
      exact ap_ireturn (pc := 60) dX9_undo_60 rfl ⟨by rw [u3.1]; simp (disch := omega) only [if_neg], Or.inl ⟨by omega, u3.1, fun j a b => u1 j a (by omega), u2, u3.2⟩⟩
    · skip
      refine ap_ald_0 (pc := 29) dX9_undo_29 ?_
      refine ap_getR (pc := 30) dX9_undo_30 fl_RX9_7 sh_100 rfl ?_
      refine ap_ild_1 (pc := 33) dX9_undo_33 ?_
      refine ap_ald_0 (pc := 34) dX9_undo_34 ?_
      refine ap_getR (pc := 35) dX9_undo_35 fl_RX9_13 sh_100 rfl ?_
      refine ap_sipush (pc := 38) dX9_undo_38 sp_150 ?_
      refine ap_ald_0 (pc := 41) dX9_undo_41 ?_
      refine ap_getI (pc := 42) (jz := 3) dX9_undo_42 fl_RX9_28 sh_100 rfl rfl ?_
      try simp (disch := omega) only [am_same, am_k, am_j]
      refine ap_imul (pc := 45) dX9_undo_45 ?_
      refine ap_ild_1 (pc := 46) dX9_undo_46 ?_
      refine ap_iadd (pc := 47) dX9_undo_47 ?_
      refine ap_iaload (pc := 48) dX9_undo_48 sh_102 (by rw [u3.1]; omega) (by rw [u3.1]; omega) (by decide) ?_
      try simp (disch := omega) only [am_same, am_k, am_j]
      refine ap_iastore (pc := 49) dX9_undo_49 sh_101 (by omega) (by omega) (by decide) ?_
      refine ap_iinc_1 (pc := 50) dX9_undo_50 (by decide) ?_
      refine ap_goto (pc := 53) 22 dX9_undo_53 rfl ?_
      exact (ih c26 _ (fun j a b => by
          by_cases e : j = (i : Int)
          · subst e; rw [am_same, u3.1]; exact u2 102 _ (by omega)
          · rw [am_j e]; exact u1 j a (by omega)) (fun k j a => by rw [am_k (by omega)]; exact u2 k j a) ⟨by rw [am_k (by omega)]; exact u3.1, fun j a => by rw [am_k (by omega)]; exact u3.2 j a⟩).bk ⟨rfl, rfl, trivial⟩ rfl
  · skip
    refine ap_bipush (pc := 7) dX9_undo_7 bp_m2 ?_
    exact ap_ireturn (pc := 9) dX9_undo_9 rfl ⟨by simp (disch := omega) only [if_pos], Or.inr ⟨by omega, rfl⟩⟩
