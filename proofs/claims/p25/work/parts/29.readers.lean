
def vCI (r : Int → Int) (c w : Int) : Int := if 0 ≤ c ∧ c < r 0 then (if w = 0 then meR r c else if w = 1 then buR r c else if w = 2 then exR r c else if w = 3 then 170 - exR r c else if w = 4 then colN r c else if w = 5 then wisN r c else -1) else -1
def vLY (r : Int → Int) (f l w : Int) : Int := if 0 ≤ f ∧ f ≤ 6 ∧ 0 ≤ l ∧ 0 ≤ w ∧ w ≤ 2 then (if l < szR r f then (if w = 0 then coR r f l else if w = 1 then stR r f l else soR r f l) else -4) else -1
def vFD (r : Int → Int) (f w : Int) : Int := if 0 ≤ f ∧ f ≤ 6 then (if w = 0 then szR r f else if w = 1 then pulR r f else if w = 2 then (if f = 6 then -4 else iab (pulR r f - pulR r 6)) else if w = 3 then (if f = 6 then -4 else crR r f) else if w = 4 then hmR r f else if w = 5 then hsR r f else -1) else -1
def vCN (r : Int → Int) (n t w : Int) : Int := if 2 ≤ w ∧ w ≤ 6 then stN r (w - 2) (w - 2) else if 8 ≤ w ∧ w ≤ 10 then r (114 + (w - 8)) else if 11 ≤ w ∧ w ≤ 19 then r (117 + (w - 11)) else if w = 0 then r 0 else if w = 1 then layN r else if w = 7 then crkN r else if w = 20 then wisT r else if w = 21 then n else if w = 22 then t else -1
def vWD (r : Int → Int) (f k : Int) : Int := if 0 ≤ f ∧ f ≤ 5 ∧ 0 ≤ k then (if k < r (126 + 4 * f) then r (126 + 4 * f + 1 + k) else -4) else -1
set_option maxHeartbeats 4000000 in
theorem qX8_colorInfo (c w : Int) (r : Int → Int) (m : AM) (wR : wfR r) (g : agB 1 r m) (hc : rng c) (hw : rng w) : CS 3 mX8_colorInfo [.inr 0, .inl c, .inl w] m (an (vCI r c w) m) := by
  refine cs_of (by decide +kernel) (Nat.le_of_ble_eq_true rfl) rfl ?_
  obtain ⟨gC, gP, gS, gW⟩ := ag1 g
  obtain ⟨hn, hC, hX, hPu⟩ := clF wR g
  have h12 := wR.1.1
  have hp := plate6
  have hm0 : m 2 3 = r 0 := gC.1
  have hm1 : 0 ≤ m 2 3 ∧ m 2 3 ≤ 12 := by rw [hm0]; exact h12
  refine ap_ald_0 (pc := 0) dX8_colorInfo_0 ?_
  refine ap_ild_1 (pc := 1) dX8_colorInfo_1 ?_
  refine ap_invV (pc := 2) dX8_colorInfo_2 mv_RX8_77 sh_0 (av := [_]) (rest := []) (qX8_isColor _ _ ⟨by omega, by omega⟩ (by assumption)) rfl rfl (Nat.le_of_ble_eq_true rfl) (by decide) (by decide) ?_
  rintro _ _ ⟨⟨w2, rfl⟩ | ⟨w2, rfl⟩, rfl⟩
  · skip
    refine ap_if_ne (pc := 5) 10 dX8_colorInfo_5 rfl ⟨by omega, by omega⟩ (fun _ => ?_) (fun c5 => absurd c5 (by decide))
    refine ap_ild_2 (pc := 10) dX8_colorInfo_10 ?_
    rcases (by omega : w = 0 ∨ w = 1 ∨ w = 2 ∨ w = 3 ∨ w = 4 ∨ w = 5 ∨ ((w < 0 ∨ 5 < w))) with h11 | h11 | h11 | h11 | h11 | h11 | h11
    · skip
      refine ap_tswIn (pc := 11) (off := 37) 48 dX8_colorInfo_11 ⟨by omega, by omega⟩ (by omega) (by omega) (by rw [h11]; rfl) rfl ?_
      refine ap_ald_0 (pc := 48) dX8_colorInfo_48 ?_
      refine ap_getR (pc := 49) dX8_colorInfo_49 fl_RX8_10 sh_0 rfl ?_
      refine ap_getR (pc := 52) dX8_colorInfo_52 fl_RX8_59 sh_1 rfl ?_
      refine ap_getR (pc := 55) dX8_colorInfo_55 fl_RX8_81 sh_2 rfl ?_
      refine ap_ild_1 (pc := 58) dX8_colorInfo_58 ?_
      refine ap_iaload (pc := 59) dX8_colorInfo_59 sh_3 (by omega) (by omega) (by decide) ?_
      exact ap_ireturn (pc := 60) dX8_colorInfo_60 rfl ⟨by simp (disch := omega) only [vCI, szR, if_pos, if_neg, if_true]; rw [(gC.2 c (by omega) (by omega)).1], rfl⟩
    · skip
      refine ap_tswIn (pc := 11) (off := 50) 61 dX8_colorInfo_11 ⟨by omega, by omega⟩ (by omega) (by omega) (by rw [h11]; rfl) rfl ?_
      refine ap_ald_0 (pc := 61) dX8_colorInfo_61 ?_
      refine ap_getR (pc := 62) dX8_colorInfo_62 fl_RX8_10 sh_0 rfl ?_
      refine ap_getR (pc := 65) dX8_colorInfo_65 fl_RX8_59 sh_1 rfl ?_
      refine ap_getR (pc := 68) dX8_colorInfo_68 fl_RX8_85 sh_2 rfl ?_
      refine ap_ild_1 (pc := 71) dX8_colorInfo_71 ?_
      refine ap_iaload (pc := 72) dX8_colorInfo_72 sh_4 (by omega) (by omega) (by decide) ?_
      exact ap_ireturn (pc := 73) dX8_colorInfo_73 rfl ⟨by simp (disch := omega) only [vCI, szR, if_pos, if_neg, if_true]; rw [(gC.2 c (by omega) (by omega)).2.1], rfl⟩
    · skip
      refine ap_tswIn (pc := 11) (off := 63) 74 dX8_colorInfo_11 ⟨by omega, by omega⟩ (by omega) (by omega) (by rw [h11]; rfl) rfl ?_
      refine ap_ald_0 (pc := 74) dX8_colorInfo_74 ?_
      refine ap_getR (pc := 75) dX8_colorInfo_75 fl_RX8_10 sh_0 rfl ?_
      refine ap_getR (pc := 78) dX8_colorInfo_78 fl_RX8_59 sh_1 rfl ?_
      refine ap_getR (pc := 81) dX8_colorInfo_81 fl_RX8_88 sh_2 rfl ?_
      refine ap_ild_1 (pc := 84) dX8_colorInfo_84 ?_
      refine ap_iaload (pc := 85) dX8_colorInfo_85 sh_5 (by omega) (by omega) (by decide) ?_
      exact ap_ireturn (pc := 86) dX8_colorInfo_86 rfl ⟨by simp (disch := omega) only [vCI, szR, if_pos, if_neg, if_true]; rw [(gC.2 c (by omega) (by omega)).2.2], rfl⟩
    · skip
      refine ap_tswIn (pc := 11) (off := 76) 87 dX8_colorInfo_11 ⟨by omega, by omega⟩ (by omega) (by omega) (by rw [h11]; rfl) rfl ?_
      refine ap_ald_0 (pc := 87) dX8_colorInfo_87 ?_
      refine ap_getR (pc := 88) dX8_colorInfo_88 fl_RX8_10 sh_0 rfl ?_
      refine ap_getR (pc := 91) dX8_colorInfo_91 fl_RX8_59 sh_1 rfl ?_
      refine ap_ild_1 (pc := 94) dX8_colorInfo_94 ?_
      refine ap_invV (pc := 95) dX8_colorInfo_95 mv_RX8_91 sh_2 (av := [_]) (rest := []) (qX3_pullOf _ _ (by omega) (by omega)) rfl rfl (Nat.le_of_ble_eq_true rfl) (by decide) (by decide) ?_
      rintro _ _ ⟨rfl, rfl⟩
      exact ap_ireturn (pc := 98) dX8_colorInfo_98 rfl ⟨by simp (disch := omega) only [vCI, szR, if_pos, if_neg, if_true]; rw [(gC.2 c (by omega) (by omega)).2.2], rfl⟩
    · skip
      refine ap_tswIn (pc := 11) (off := 88) 99 dX8_colorInfo_11 ⟨by omega, by omega⟩ (by omega) (by omega) (by rw [h11]; rfl) rfl ?_
      refine ap_ald_0 (pc := 99) dX8_colorInfo_99 ?_
      refine ap_getR (pc := 100) dX8_colorInfo_100 fl_RX8_10 sh_0 rfl ?_
      refine ap_getR (pc := 103) dX8_colorInfo_103 fl_RX8_95 sh_1 rfl ?_
      refine ap_ild_1 (pc := 106) dX8_colorInfo_106 ?_
      refine ap_invV (pc := 107) dX8_colorInfo_107 mv_RX8_98 sh_6 (av := [_]) (rest := []) (qX5_layersOfColor _ _ _ wR g ⟨by omega, by omega⟩) rfl rfl (Nat.le_of_ble_eq_true rfl) (by decide) (by decide) ?_
      rintro _ _ ⟨rfl, rfl⟩
      exact ap_ireturn (pc := 110) dX8_colorInfo_110 rfl ⟨by simp (disch := omega) only [vCI, szR, if_pos, if_neg, if_true], rfl⟩
    · skip
      refine ap_tswIn (pc := 11) (off := 100) 111 dX8_colorInfo_11 ⟨by omega, by omega⟩ (by omega) (by omega) (by rw [h11]; rfl) rfl ?_
      refine ap_ald_0 (pc := 111) dX8_colorInfo_111 ?_
      refine ap_getR (pc := 112) dX8_colorInfo_112 fl_RX8_10 sh_0 rfl ?_
      refine ap_getR (pc := 115) dX8_colorInfo_115 fl_RX8_101 sh_1 rfl ?_
      refine ap_ild_1 (pc := 118) dX8_colorInfo_118 ?_
      refine ap_invV (pc := 119) dX8_colorInfo_119 mv_RX8_105 sh_12 (av := [_]) (rest := []) (qX7_timesOfColor _ _ _ wR g ⟨by omega, by omega⟩) rfl rfl (Nat.le_of_ble_eq_true rfl) (by decide) (by decide) ?_
      rintro _ _ ⟨rfl, rfl⟩
      exact ap_ireturn (pc := 122) dX8_colorInfo_122 rfl ⟨by simp (disch := omega) only [vCI, szR, if_pos, if_neg, if_true], rfl⟩
    · skip
      refine ap_tswOut (pc := 11) 123 dX8_colorInfo_11 ⟨by omega, by omega⟩ (by omega) rfl ?_
      refine ap_const (pc := 123) dX8_colorInfo_123 ?_
      exact ap_ireturn (pc := 124) dX8_colorInfo_124 rfl ⟨by simp (disch := omega) only [vCI, szR, if_pos, if_neg, if_true], rfl⟩
  · skip
    refine ap_if_ne (pc := 5) 10 dX8_colorInfo_5 rfl ⟨by omega, by omega⟩ (fun c5 => absurd c5 (by decide)) (fun _ => ?_)
    refine ap_const (pc := 8) dX8_colorInfo_8 ?_
    exact ap_ireturn (pc := 9) dX8_colorInfo_9 rfl ⟨by simp (disch := omega) only [vCI, szR, if_pos, if_neg, if_true], rfl⟩

set_option maxHeartbeats 4000000 in
theorem qX8_layer (f l w : Int) (r : Int → Int) (m : AM) (wR : wfR r) (g : agB 1 r m) (hf : rng f) (hl : rng l) (hw : rng w) : CS 2 mX8_layer [.inr 0, .inl f, .inl l, .inl w] m (an (vLY r f l w) m) := by
  refine cs_of (by decide +kernel) (Nat.le_of_ble_eq_true rfl) rfl ?_
  obtain ⟨gC, gP, gS, gW⟩ := ag1 g
  obtain ⟨hn, hC, hX, hPu⟩ := clF wR g
  have h12 := wR.1.1
  have hp := plate6
  have hm0 : m 2 3 = r 0 := gC.1
  have hm1 : 0 ≤ m 2 3 ∧ m 2 3 ≤ 12 := by rw [hm0]; exact h12
  refine ap_ild_1 (pc := 0) dX8_layer_0 ?_
  refine ap_invS (pc := 1) dX8_layer_1 ms_RX8_110 (av := [_]) (rest := []) (qX8_isField _ _ ⟨by omega, by omega⟩) rfl rfl (Nat.le_of_ble_eq_true rfl) (by decide) (by decide) ?_
  rintro _ _ ⟨⟨w1, rfl⟩ | ⟨w1, rfl⟩, rfl⟩
  · skip
    refine ap_if_eq (pc := 4) 20 dX8_layer_4 rfl ⟨by omega, by omega⟩ (fun c4 => absurd c4 (by decide)) (fun _ => ?_)
    refine ap_ild_2 (pc := 7) dX8_layer_7 ?_
    refine ap_if_lt (pc := 8) 20 dX8_layer_8 rfl ⟨by omega, by omega⟩ (fun c8 => ?_) (fun c8 => ?_)
    · skip
      refine ap_const (pc := 20) dX8_layer_20 ?_
      exact ap_ireturn (pc := 21) dX8_layer_21 rfl ⟨by simp (disch := omega) only [vLY, szR, if_pos, if_neg, if_true], rfl⟩
    · skip
      refine ap_ild_3 (pc := 11) dX8_layer_11 ?_
      refine ap_const (pc := 12) dX8_layer_12 ?_
      refine ap_const (pc := 13) dX8_layer_13 ?_
      refine ap_invS (pc := 14) dX8_layer_14 ms_RX8_55 (av := [_, _, _]) (rest := []) (qX8_within _ _ _ _ ⟨by omega, by omega⟩ ⟨by omega, by omega⟩ ⟨by omega, by omega⟩) rfl rfl (Nat.le_of_ble_eq_true rfl) (by decide) (by decide) ?_
      rintro _ _ ⟨⟨w14, rfl⟩ | ⟨w14, rfl⟩, rfl⟩
      · skip
        refine ap_if_ne (pc := 17) 22 dX8_layer_17 rfl ⟨by omega, by omega⟩ (fun _ => ?_) (fun c17 => absurd c17 (by decide))
        refine ap_ild_2 (pc := 22) dX8_layer_22 ?_
        refine ap_ald_0 (pc := 23) dX8_layer_23 ?_
        refine ap_getR (pc := 24) dX8_layer_24 fl_RX8_10 sh_0 rfl ?_
        refine ap_getR (pc := 27) dX8_layer_27 fl_RX8_95 sh_1 rfl ?_
        refine ap_getR (pc := 30) dX8_layer_30 fl_RX8_116 sh_6 rfl ?_
        refine ap_ild_1 (pc := 33) dX8_layer_33 ?_
        refine ap_iaload (pc := 34) dX8_layer_34 sh_7 (by omega) (by omega) (by decide) ?_
        refine ap_icmp_lt (pc := 35) 41 dX8_layer_35 rfl ⟨by omega, by omega⟩ (by have q := hn f (by omega) (by omega); constructor <;> omega) (fun c35 => ?_) (fun c35 => ?_)
        · skip
          rw [gP.1 f (by omega) (by omega)] at c35
          have hzz := (wR.2.1.1 f (by omega) (by omega)).1
          have hag := gP.2.1 f l (by omega) (by omega) (by omega) c35
          simp only [szR] at c35 hzz
          refine ap_ild_1 (pc := 41) dX8_layer_41 ?_
          refine ap_ild_2 (pc := 42) dX8_layer_42 ?_
          refine ap_invS (pc := 43) dX8_layer_43 ms_RX8_135 (av := [_, _]) (rest := []) (qX8_placeOf _ _ _) rfl rfl (Nat.le_of_ble_eq_true rfl) (by decide) (by decide) ?_
          rintro _ _ ⟨rfl, rfl⟩
          refine ap_ist_4 (pc := 46) dX8_layer_46 (by decide) ?_
          refine ap_ild_3 (pc := 48) dX8_layer_48 ?_
          refine ap_if_ne (pc := 49) 66 dX8_layer_49 rfl ⟨by omega, by omega⟩ (fun c49 => ?_) (fun c49 => ?_)
          · skip
            refine ap_ild_3 (pc := 66) dX8_layer_66 ?_
            refine ap_const (pc := 67) dX8_layer_67 ?_
            refine ap_icmp_ne (pc := 68) 87 dX8_layer_68 rfl (Or.inr ⟨⟨by omega, by omega⟩, ⟨by omega, by omega⟩⟩) (fun c68 => ?_) (fun c68 => ?_)
            · skip
              refine ap_ald_0 (pc := 87) dX8_layer_87 ?_
              refine ap_getR (pc := 88) dX8_layer_88 fl_RX8_10 sh_0 rfl ?_
              refine ap_getR (pc := 91) dX8_layer_91 fl_RX8_95 sh_1 rfl ?_
              refine ap_getR (pc := 94) dX8_layer_94 fl_RX8_144 sh_6 rfl ?_
              refine ap_ild_4 (pc := 97) dX8_layer_97 ?_
              refine ap_iaload (pc := 99) dX8_layer_99 sh_10 (by omega) (by omega) (by decide) ?_
              exact ap_ireturn (pc := 100) dX8_layer_100 rfl ⟨by first | (simp (disch := omega) only [vLY, szR, coR, stR, soR, if_pos, if_neg, if_true]; rw [hag.2.1]) | (simp (disch := omega) only [vLY, szR, coR, stR, soR, if_pos, if_neg, if_true]; rw [hag.2.2]), rfl⟩
            · skip
              refine ap_ald_0 (pc := 71) dX8_layer_71 ?_
              refine ap_getR (pc := 72) dX8_layer_72 fl_RX8_10 sh_0 rfl ?_
              refine ap_getR (pc := 75) dX8_layer_75 fl_RX8_95 sh_1 rfl ?_
              refine ap_getR (pc := 78) dX8_layer_78 fl_RX8_141 sh_6 rfl ?_
              refine ap_ild_4 (pc := 81) dX8_layer_81 ?_
              refine ap_iaload (pc := 83) dX8_layer_83 sh_9 (by omega) (by omega) (by decide) ?_
              refine ap_goto (pc := 84) 100 dX8_layer_84 rfl ?_
              exact ap_ireturn (pc := 100) dX8_layer_100 rfl ⟨by first | (simp (disch := omega) only [vLY, szR, coR, stR, soR, if_pos, if_neg, if_true]; rw [hag.2.1]) | (simp (disch := omega) only [vLY, szR, coR, stR, soR, if_pos, if_neg, if_true]; rw [hag.2.2]), rfl⟩
          · skip
            refine ap_ald_0 (pc := 52) dX8_layer_52 ?_
            refine ap_getR (pc := 53) dX8_layer_53 fl_RX8_10 sh_0 rfl ?_
            refine ap_getR (pc := 56) dX8_layer_56 fl_RX8_95 sh_1 rfl ?_
            refine ap_getR (pc := 59) dX8_layer_59 fl_RX8_138 sh_6 rfl ?_
            refine ap_ild_4 (pc := 62) dX8_layer_62 ?_
            refine ap_iaload (pc := 64) dX8_layer_64 sh_8 (by omega) (by omega) (by decide) ?_
            exact ap_ireturn (pc := 65) dX8_layer_65 rfl ⟨by simp (disch := omega) only [vLY, szR, if_pos, if_neg, if_true]; rw [hag.1], rfl⟩
        · skip
          rw [gP.1 f (by omega) (by omega)] at c35
          simp only [szR] at c35
          refine ap_bipush (pc := 38) dX8_layer_38 bp_m4 ?_
          exact ap_ireturn (pc := 40) dX8_layer_40 rfl ⟨by simp (disch := omega) only [vLY, szR, if_pos, if_neg, if_true], rfl⟩
      · skip
        refine ap_if_ne (pc := 17) 22 dX8_layer_17 rfl ⟨by omega, by omega⟩ (fun c17 => absurd c17 (by decide)) (fun _ => ?_)
        refine ap_const (pc := 20) dX8_layer_20 ?_
        exact ap_ireturn (pc := 21) dX8_layer_21 rfl ⟨by simp (disch := omega) only [vLY, szR, if_pos, if_neg, if_true], rfl⟩
  · skip
    refine ap_if_eq (pc := 4) 20 dX8_layer_4 rfl ⟨by omega, by omega⟩ (fun _ => ?_) (fun c4 => absurd c4 (by decide))
    refine ap_const (pc := 20) dX8_layer_20 ?_
    exact ap_ireturn (pc := 21) dX8_layer_21 rfl ⟨by simp (disch := omega) only [vLY, szR, if_pos, if_neg, if_true], rfl⟩

set_option maxHeartbeats 4000000 in
theorem qX8_field (f w : Int) (r : Int → Int) (m : AM) (wR : wfR r) (g : agB 1 r m) (hf : rng f) (hw : rng w) : CS 3 mX8_field [.inr 0, .inl f, .inl w] m (an (vFD r f w) m) := by
  refine cs_of (by decide +kernel) (Nat.le_of_ble_eq_true rfl) rfl ?_
  obtain ⟨gC, gP, gS, gW⟩ := ag1 g
  obtain ⟨hn, hC, hX, hPu⟩ := clF wR g
  have h12 := wR.1.1
  have hp := plate6
  have hm0 : m 2 3 = r 0 := gC.1
  have hm1 : 0 ≤ m 2 3 ∧ m 2 3 ≤ 12 := by rw [hm0]; exact h12
  refine ap_ild_1 (pc := 0) dX8_field_0 ?_
  refine ap_invS (pc := 1) dX8_field_1 ms_RX8_110 (av := [_]) (rest := []) (qX8_isField _ _ ⟨by omega, by omega⟩) rfl rfl (Nat.le_of_ble_eq_true rfl) (by decide) (by decide) ?_
  rintro _ _ ⟨⟨w1, rfl⟩ | ⟨w1, rfl⟩, rfl⟩
  · skip
    refine ap_if_ne (pc := 4) 9 dX8_field_4 rfl ⟨by omega, by omega⟩ (fun _ => ?_) (fun c4 => absurd c4 (by decide))
    refine ap_ild_2 (pc := 9) dX8_field_9 ?_
    rcases (by omega : w = 0 ∨ w = 1 ∨ w = 2 ∨ w = 3 ∨ w = 4 ∨ w = 5 ∨ ((w < 0 ∨ 5 < w))) with h10 | h10 | h10 | h10 | h10 | h10 | h10
    · skip
      refine ap_tswIn (pc := 10) (off := 38) 48 dX8_field_10 ⟨by omega, by omega⟩ (by omega) (by omega) (by rw [h10]; rfl) rfl ?_
      refine ap_ald_0 (pc := 48) dX8_field_48 ?_
      refine ap_getR (pc := 49) dX8_field_49 fl_RX8_10 sh_0 rfl ?_
      refine ap_getR (pc := 52) dX8_field_52 fl_RX8_95 sh_1 rfl ?_
      refine ap_getR (pc := 55) dX8_field_55 fl_RX8_116 sh_6 rfl ?_
      refine ap_ild_1 (pc := 58) dX8_field_58 ?_
      refine ap_iaload (pc := 59) dX8_field_59 sh_7 (by omega) (by omega) (by decide) ?_
      exact ap_ireturn (pc := 60) dX8_field_60 rfl ⟨by simp (disch := omega) only [vFD, szR, if_pos, if_neg, if_true]; rw [gP.1 f (by omega) (by omega)], rfl⟩
    · skip
      refine ap_tswIn (pc := 10) (off := 51) 61 dX8_field_10 ⟨by omega, by omega⟩ (by omega) (by omega) (by rw [h10]; rfl) rfl ?_
      refine ap_ald_0 (pc := 61) dX8_field_61 ?_
      refine ap_getR (pc := 62) dX8_field_62 fl_RX8_10 sh_0 rfl ?_
      refine ap_getR (pc := 65) dX8_field_65 fl_RX8_95 sh_1 rfl ?_
      refine ap_ild_1 (pc := 68) dX8_field_68 ?_
      refine ap_ald_0 (pc := 69) dX8_field_69 ?_
      refine ap_getR (pc := 70) dX8_field_70 fl_RX8_10 sh_0 rfl ?_
      refine ap_getR (pc := 73) dX8_field_73 fl_RX8_59 sh_1 rfl ?_
      refine ap_invV (pc := 76) dX8_field_76 mv_RX8_147 sh_6 (av := [_, _]) (rest := []) (qX5_pullOf plate6 _ _ (by omega) (by omega) (hn _ (by omega) (by omega)) (fun l a b => hC _ l (by omega) (by omega) a b)) rfl rfl (Nat.le_of_ble_eq_true rfl) (by decide) (by decide) ?_
      rintro _ _ ⟨rfl, rfl⟩
      rw [hPu _ (by omega) (by omega)]
      exact ap_ireturn (pc := 79) dX8_field_79 rfl ⟨by simp (disch := omega) only [vFD, szR, if_pos, if_neg, if_true], rfl⟩
    · skip
      refine ap_tswIn (pc := 10) (off := 70) 80 dX8_field_10 ⟨by omega, by omega⟩ (by omega) (by omega) (by rw [h10]; rfl) rfl ?_
      refine ap_ild_1 (pc := 80) dX8_field_80 ?_
      refine ap_bipush (pc := 81) dX8_field_81 bp_6 ?_
      refine ap_icmp_ne (pc := 83) 91 dX8_field_83 rfl (Or.inr ⟨⟨by omega, by omega⟩, ⟨by omega, by omega⟩⟩) (fun c83 => ?_) (fun c83 => ?_)
      · skip
        refine ap_ald_0 (pc := 91) dX8_field_91 ?_
        refine ap_getR (pc := 92) dX8_field_92 fl_RX8_10 sh_0 rfl ?_
        refine ap_getR (pc := 95) dX8_field_95 fl_RX8_95 sh_1 rfl ?_
        refine ap_ild_1 (pc := 98) dX8_field_98 ?_
        refine ap_ald_0 (pc := 99) dX8_field_99 ?_
        refine ap_getR (pc := 100) dX8_field_100 fl_RX8_10 sh_0 rfl ?_
        refine ap_getR (pc := 103) dX8_field_103 fl_RX8_59 sh_1 rfl ?_
        refine ap_invV (pc := 106) dX8_field_106 mv_RX8_150 sh_6 (av := [_, _]) (rest := []) (qX5_strainOf plate6 _ _ (by omega) (by omega) hn hC hX) rfl rfl (Nat.le_of_ble_eq_true rfl) (by decide) (by decide) ?_
        rintro _ _ ⟨rfl, rfl⟩
        rw [hPu f (by omega) (by omega), hPu 6 (by omega) (by omega)]
        exact ap_ireturn (pc := 109) dX8_field_109 rfl ⟨by simp (disch := omega) only [vFD, szR, if_pos, if_neg, if_true]; try rfl, rfl⟩
      · skip
        refine ap_bipush (pc := 86) dX8_field_86 bp_m4 ?_
        refine ap_goto (pc := 88) 109 dX8_field_88 rfl ?_
        exact ap_ireturn (pc := 109) dX8_field_109 rfl ⟨by simp (disch := omega) only [vFD, szR, if_pos, if_neg, if_true]; try rfl, rfl⟩
    · skip
      refine ap_tswIn (pc := 10) (off := 100) 110 dX8_field_10 ⟨by omega, by omega⟩ (by omega) (by omega) (by rw [h10]; rfl) rfl ?_
      refine ap_ild_1 (pc := 110) dX8_field_110 ?_
      refine ap_bipush (pc := 111) dX8_field_111 bp_6 ?_
      refine ap_icmp_ne (pc := 113) 121 dX8_field_113 rfl (Or.inr ⟨⟨by omega, by omega⟩, ⟨by omega, by omega⟩⟩) (fun c113 => ?_) (fun c113 => ?_)
      · skip
        refine ap_ald_0 (pc := 121) dX8_field_121 ?_
        refine ap_getR (pc := 122) dX8_field_122 fl_RX8_10 sh_0 rfl ?_
        refine ap_getR (pc := 125) dX8_field_125 fl_RX8_95 sh_1 rfl ?_
        refine ap_getR (pc := 128) dX8_field_128 fl_RX8_153 sh_6 rfl ?_
        refine ap_ild_1 (pc := 131) dX8_field_131 ?_
        refine ap_iaload (pc := 132) dX8_field_132 sh_11 (by omega) (by omega) (by decide) ?_
        exact ap_ireturn (pc := 133) dX8_field_133 rfl ⟨by first | (simp (disch := omega) only [vFD, szR, if_pos, if_neg, if_true]; done) | (simp (disch := omega) only [vFD, szR, if_pos, if_neg, if_true]; rw [gP.2.2 f (by omega) (by omega)]), rfl⟩
      · skip
        refine ap_bipush (pc := 116) dX8_field_116 bp_m4 ?_
        refine ap_goto (pc := 118) 133 dX8_field_118 rfl ?_
        exact ap_ireturn (pc := 133) dX8_field_133 rfl ⟨by first | (simp (disch := omega) only [vFD, szR, if_pos, if_neg, if_true]; done) | (simp (disch := omega) only [vFD, szR, if_pos, if_neg, if_true]; rw [gP.2.2 f (by omega) (by omega)]), rfl⟩
    · skip
      refine ap_tswIn (pc := 10) (off := 124) 134 dX8_field_10 ⟨by omega, by omega⟩ (by omega) (by omega) (by rw [h10]; rfl) rfl ?_
      refine ap_ald_0 (pc := 134) dX8_field_134 ?_
      refine ap_getR (pc := 135) dX8_field_135 fl_RX8_10 sh_0 rfl ?_
      refine ap_getR (pc := 138) dX8_field_138 fl_RX8_95 sh_1 rfl ?_
      refine ap_ild_1 (pc := 141) dX8_field_141 ?_
      refine ap_ald_0 (pc := 142) dX8_field_142 ?_
      refine ap_getR (pc := 143) dX8_field_143 fl_RX8_10 sh_0 rfl ?_
      refine ap_getR (pc := 146) dX8_field_146 fl_RX8_59 sh_1 rfl ?_
      refine ap_invV (pc := 149) dX8_field_149 mv_RX8_156 sh_6 (av := [_, _]) (rest := []) (qX5_heatThatMelts _ _ _ (by omega) (by omega) wR g) rfl rfl (Nat.le_of_ble_eq_true rfl) (by decide) (by decide) ?_
      rintro _ _ ⟨rfl, rfl⟩
      exact ap_ireturn (pc := 152) dX8_field_152 rfl ⟨by simp (disch := omega) only [vFD, szR, if_pos, if_neg, if_true], rfl⟩
    · skip
      refine ap_tswIn (pc := 10) (off := 143) 153 dX8_field_10 ⟨by omega, by omega⟩ (by omega) (by omega) (by rw [h10]; rfl) rfl ?_
      refine ap_ald_0 (pc := 153) dX8_field_153 ?_
      refine ap_getR (pc := 154) dX8_field_154 fl_RX8_10 sh_0 rfl ?_
      refine ap_getR (pc := 157) dX8_field_157 fl_RX8_95 sh_1 rfl ?_
      refine ap_ild_1 (pc := 160) dX8_field_160 ?_
      refine ap_ald_0 (pc := 161) dX8_field_161 ?_
      refine ap_getR (pc := 162) dX8_field_162 fl_RX8_10 sh_0 rfl ?_
      refine ap_getR (pc := 165) dX8_field_165 fl_RX8_59 sh_1 rfl ?_
      refine ap_invV (pc := 168) dX8_field_168 mv_RX8_159 sh_6 (av := [_, _]) (rest := []) (qX5_heatThatSpares _ _ _ (by omega) (by omega) wR g) rfl rfl (Nat.le_of_ble_eq_true rfl) (by decide) (by decide) ?_
      rintro _ _ ⟨rfl, rfl⟩
      exact ap_ireturn (pc := 171) dX8_field_171 rfl ⟨by simp (disch := omega) only [vFD, szR, if_pos, if_neg, if_true], rfl⟩
    · skip
      refine ap_tswOut (pc := 10) 172 dX8_field_10 ⟨by omega, by omega⟩ (by omega) rfl ?_
      refine ap_const (pc := 172) dX8_field_172 ?_
      exact ap_ireturn (pc := 173) dX8_field_173 rfl ⟨by simp (disch := omega) only [vFD, szR, if_pos, if_neg, if_true], rfl⟩
  · skip
    refine ap_if_ne (pc := 4) 9 dX8_field_4 rfl ⟨by omega, by omega⟩ (fun c4 => absurd c4 (by decide)) (fun _ => ?_)
    refine ap_const (pc := 7) dX8_field_7 ?_
    exact ap_ireturn (pc := 8) dX8_field_8 rfl ⟨by simp (disch := omega) only [vFD, szR, if_pos, if_neg, if_true], rfl⟩

set_option maxHeartbeats 4000000 in
theorem qX8_count (w n t : Int) (r : Int → Int) (m : AM) (wR : wfR r) (g : agB 1 r m) (hw : rng w) (h17 : m 17 2 = n) (h98 : m 98 1 = t) : CS 3 mX8_count [.inr 0, .inl w] m (an (vCN r n t w) m) := by
  refine cs_of (by decide +kernel) (Nat.le_of_ble_eq_true rfl) rfl ?_
  obtain ⟨gC, gP, gS, gW⟩ := ag1 g
  obtain ⟨hn, hC, hX, hPu⟩ := clF wR g
  have h12 := wR.1.1
  have hp := plate6
  have hm0 : m 2 3 = r 0 := gC.1
  have hm1 : 0 ≤ m 2 3 ∧ m 2 3 ≤ 12 := by rw [hm0]; exact h12
  refine ap_ild_1 (pc := 0) dX8_count_0 ?_
  refine ap_const (pc := 1) dX8_count_1 ?_
  refine ap_bipush (pc := 2) dX8_count_2 bp_6 ?_
  refine ap_invS (pc := 4) dX8_count_4 ms_RX8_55 (av := [_, _, _]) (rest := []) (qX8_within _ _ _ _ ⟨by omega, by omega⟩ ⟨by omega, by omega⟩ ⟨by omega, by omega⟩) rfl rfl (Nat.le_of_ble_eq_true rfl) (by decide) (by decide) ?_
  rintro _ _ ⟨⟨w4, rfl⟩ | ⟨w4, rfl⟩, rfl⟩
  · skip
    refine ap_if_eq (pc := 7) 24 dX8_count_7 rfl ⟨by omega, by omega⟩ (fun c7 => absurd c7 (by decide)) (fun _ => ?_)
    refine ap_ald_0 (pc := 10) dX8_count_10 ?_
    refine ap_getR (pc := 11) dX8_count_11 fl_RX8_10 sh_0 rfl ?_
    refine ap_getR (pc := 14) dX8_count_14 fl_RX8_95 sh_1 rfl ?_
    refine ap_ild_1 (pc := 17) dX8_count_17 ?_
    refine ap_const (pc := 18) dX8_count_18 ?_
    refine ap_isub (pc := 19) dX8_count_19 ?_
    refine ap_invV (pc := 20) dX8_count_20 mv_RX8_171 sh_6 (av := [_]) (rest := []) (qX5_layersOfState _ _ _ wR g ⟨by omega, by omega⟩) rfl rfl (Nat.le_of_ble_eq_true rfl) (by decide) (by decide) ?_
    rintro _ _ ⟨rfl, rfl⟩
    exact ap_ireturn (pc := 23) dX8_count_23 rfl ⟨by simp (disch := omega) only [vCN, szR, if_pos, if_neg, if_true], rfl⟩
  · skip
    refine ap_if_eq (pc := 7) 24 dX8_count_7 rfl ⟨by omega, by omega⟩ (fun _ => ?_) (fun c7 => absurd c7 (by decide))
    refine ap_ild_1 (pc := 24) dX8_count_24 ?_
    refine ap_bipush (pc := 25) dX8_count_25 bp_8 ?_
    refine ap_bipush (pc := 27) dX8_count_27 bp_10 ?_
    refine ap_invS (pc := 29) dX8_count_29 ms_RX8_55 (av := [_, _, _]) (rest := []) (qX8_within _ _ _ _ ⟨by omega, by omega⟩ ⟨by omega, by omega⟩ ⟨by omega, by omega⟩) rfl rfl (Nat.le_of_ble_eq_true rfl) (by decide) (by decide) ?_
    rintro _ _ ⟨⟨w29, rfl⟩ | ⟨w29, rfl⟩, rfl⟩
    · skip
      refine ap_if_eq (pc := 32) 48 dX8_count_32 rfl ⟨by omega, by omega⟩ (fun c32 => absurd c32 (by decide)) (fun _ => ?_)
      refine ap_ald_0 (pc := 35) dX8_count_35 ?_
      refine ap_getR (pc := 36) dX8_count_36 fl_RX8_10 sh_0 rfl ?_
      refine ap_getR (pc := 39) dX8_count_39 fl_RX8_168 sh_1 rfl ?_
      refine ap_ild_1 (pc := 42) dX8_count_42 ?_
      refine ap_bipush (pc := 43) dX8_count_43 bp_8 ?_
      refine ap_isub (pc := 45) dX8_count_45 ?_
      refine ap_iaload (pc := 46) dX8_count_46 sh_15 (by omega) (by omega) (by decide) ?_
      exact ap_ireturn (pc := 47) dX8_count_47 rfl ⟨by simp (disch := omega) only [vCN, szR, if_pos, if_neg, if_true]; rw [gS.1 (w - 8) (by omega) (by omega)], rfl⟩
    · skip
      refine ap_if_eq (pc := 32) 48 dX8_count_32 rfl ⟨by omega, by omega⟩ (fun _ => ?_) (fun c32 => absurd c32 (by decide))
      refine ap_ild_1 (pc := 48) dX8_count_48 ?_
      refine ap_bipush (pc := 49) dX8_count_49 bp_11 ?_
      refine ap_bipush (pc := 51) dX8_count_51 bp_19 ?_
      refine ap_invS (pc := 53) dX8_count_53 ms_RX8_55 (av := [_, _, _]) (rest := []) (qX8_within _ _ _ _ ⟨by omega, by omega⟩ ⟨by omega, by omega⟩ ⟨by omega, by omega⟩) rfl rfl (Nat.le_of_ble_eq_true rfl) (by decide) (by decide) ?_
      rintro _ _ ⟨⟨w53, rfl⟩ | ⟨w53, rfl⟩, rfl⟩
      · skip
        refine ap_if_eq (pc := 56) 72 dX8_count_56 rfl ⟨by omega, by omega⟩ (fun c56 => absurd c56 (by decide)) (fun _ => ?_)
        refine ap_ald_0 (pc := 59) dX8_count_59 ?_
        refine ap_getR (pc := 60) dX8_count_60 fl_RX8_10 sh_0 rfl ?_
        refine ap_getR (pc := 63) dX8_count_63 fl_RX8_119 sh_1 rfl ?_
        refine ap_ild_1 (pc := 66) dX8_count_66 ?_
        refine ap_bipush (pc := 67) dX8_count_67 bp_11 ?_
        refine ap_isub (pc := 69) dX8_count_69 ?_
        refine ap_iaload (pc := 70) dX8_count_70 sh_16 (by omega) (by omega) (by decide) ?_
        exact ap_ireturn (pc := 71) dX8_count_71 rfl ⟨by simp (disch := omega) only [vCN, szR, if_pos, if_neg, if_true]; rw [gS.2 (w - 11) (by omega) (by omega)], rfl⟩
      · skip
        refine ap_if_eq (pc := 56) 72 dX8_count_56 rfl ⟨by omega, by omega⟩ (fun _ => ?_) (fun c56 => absurd c56 (by decide))
        refine ap_ild_1 (pc := 72) dX8_count_72 ?_
        rcases (by omega : w = 0 ∨ w = 1 ∨ w = 7 ∨ w = 20 ∨ w = 21 ∨ w = 22 ∨ (¬ w = 0 ∧ ¬ w = 1 ∧ ¬ w = 7 ∧ ¬ w = 20 ∧ ¬ w = 21 ∧ ¬ w = 22)) with h73 | h73 | h73 | h73 | h73 | h73 | h73
        · skip
          refine ap_lsw (pc := 73) (off := 59) 132 dX8_count_73 ⟨by omega, by omega⟩ (by decide) (by show Op.lookupswitch.offset [(0, 59), (1, 70), (7, 81), (20, 92), (21, 103), (22, 111)] 119 _ = _; simp (disch := omega) only [Op.lookupswitch.offset_cons, Op.lookupswitch.offset_nil, if_pos, if_neg]) rfl ?_
          refine ap_ald_0 (pc := 132) dX8_count_132 ?_
          refine ap_getR (pc := 133) dX8_count_133 fl_RX8_10 sh_0 rfl ?_
          refine ap_getR (pc := 136) dX8_count_136 fl_RX8_59 sh_1 rfl ?_
          refine ap_getI (pc := 139) (jz := 3) dX8_count_139 fl_RX8_63 sh_2 rfl rfl ?_
          exact ap_ireturn (pc := 142) dX8_count_142 rfl ⟨by simp (disch := omega) only [vCN, szR, if_pos, if_neg, if_true]; rw [hm0], rfl⟩
        · skip
          refine ap_lsw (pc := 73) (off := 70) 143 dX8_count_73 ⟨by omega, by omega⟩ (by decide) (by show Op.lookupswitch.offset [(0, 59), (1, 70), (7, 81), (20, 92), (21, 103), (22, 111)] 119 _ = _; simp (disch := omega) only [Op.lookupswitch.offset_cons, Op.lookupswitch.offset_nil, if_pos, if_neg]) rfl ?_
          refine ap_ald_0 (pc := 143) dX8_count_143 ?_
          refine ap_getR (pc := 144) dX8_count_144 fl_RX8_10 sh_0 rfl ?_
          refine ap_getR (pc := 147) dX8_count_147 fl_RX8_95 sh_1 rfl ?_
          refine ap_invV (pc := 150) dX8_count_150 mv_RX8_128 sh_6 (av := []) (rest := []) (qX5_layers _ _ wR g) rfl rfl (Nat.le_of_ble_eq_true rfl) (by decide) (by decide) ?_
          rintro _ _ ⟨rfl, rfl⟩
          exact ap_ireturn (pc := 153) dX8_count_153 rfl ⟨by simp (disch := omega) only [vCN, szR, if_pos, if_neg, if_true], rfl⟩
        · skip
          refine ap_lsw (pc := 73) (off := 81) 154 dX8_count_73 ⟨by omega, by omega⟩ (by decide) (by show Op.lookupswitch.offset [(0, 59), (1, 70), (7, 81), (20, 92), (21, 103), (22, 111)] 119 _ = _; simp (disch := omega) only [Op.lookupswitch.offset_cons, Op.lookupswitch.offset_nil, if_pos, if_neg]) rfl ?_
          refine ap_ald_0 (pc := 154) dX8_count_154 ?_
          refine ap_getR (pc := 155) dX8_count_155 fl_RX8_10 sh_0 rfl ?_
          refine ap_getR (pc := 158) dX8_count_158 fl_RX8_95 sh_1 rfl ?_
          refine ap_invV (pc := 161) dX8_count_161 mv_RX8_174 sh_6 (av := []) (rest := []) (qX5_crackedFields _ _ wR g) rfl rfl (Nat.le_of_ble_eq_true rfl) (by decide) (by decide) ?_
          rintro _ _ ⟨rfl, rfl⟩
          exact ap_ireturn (pc := 164) dX8_count_164 rfl ⟨by simp (disch := omega) only [vCN, szR, if_pos, if_neg, if_true], rfl⟩
        · skip
          refine ap_lsw (pc := 73) (off := 92) 165 dX8_count_73 ⟨by omega, by omega⟩ (by decide) (by show Op.lookupswitch.offset [(0, 59), (1, 70), (7, 81), (20, 92), (21, 103), (22, 111)] 119 _ = _; simp (disch := omega) only [Op.lookupswitch.offset_cons, Op.lookupswitch.offset_nil, if_pos, if_neg]) rfl ?_
          refine ap_ald_0 (pc := 165) dX8_count_165 ?_
          refine ap_getR (pc := 166) dX8_count_166 fl_RX8_10 sh_0 rfl ?_
          refine ap_getR (pc := 169) dX8_count_169 fl_RX8_101 sh_1 rfl ?_
          refine ap_invV (pc := 172) dX8_count_172 mv_RX8_177 sh_12 (av := []) (rest := []) (qX7_colorsTogether _ _ wR g) rfl rfl (Nat.le_of_ble_eq_true rfl) (by decide) (by decide) ?_
          rintro _ _ ⟨rfl, rfl⟩
          exact ap_ireturn (pc := 175) dX8_count_175 rfl ⟨by simp (disch := omega) only [vCN, szR, if_pos, if_neg, if_true], rfl⟩
        · skip
          refine ap_lsw (pc := 73) (off := 103) 176 dX8_count_73 ⟨by omega, by omega⟩ (by decide) (by show Op.lookupswitch.offset [(0, 59), (1, 70), (7, 81), (20, 92), (21, 103), (22, 111)] 119 _ = _; simp (disch := omega) only [Op.lookupswitch.offset_cons, Op.lookupswitch.offset_nil, if_pos, if_neg]) rfl ?_
          refine ap_ald_0 (pc := 176) dX8_count_176 ?_
          refine ap_getR (pc := 177) dX8_count_177 fl_RX8_19 sh_0 rfl ?_
          refine ap_getI (pc := 180) (jz := 2) dX8_count_180 fl_RX8_180 sh_17 rfl rfl ?_
          exact ap_ireturn (pc := 183) dX8_count_183 rfl ⟨by simp (disch := omega) only [vCN, szR, if_pos, if_neg, if_true]; rw [h17], rfl⟩
        · skip
          refine ap_lsw (pc := 73) (off := 111) 184 dX8_count_73 ⟨by omega, by omega⟩ (by decide) (by show Op.lookupswitch.offset [(0, 59), (1, 70), (7, 81), (20, 92), (21, 103), (22, 111)] 119 _ = _; simp (disch := omega) only [Op.lookupswitch.offset_cons, Op.lookupswitch.offset_nil, if_pos, if_neg]) rfl ?_
          refine ap_ald_0 (pc := 184) dX8_count_184 ?_
          refine ap_getR (pc := 185) dX8_count_185 fl_RX8_47 sh_0 rfl ?_
          refine ap_getI (pc := 188) (jz := 1) dX8_count_188 fl_RX8_181 sh_98 rfl rfl ?_
          exact ap_ireturn (pc := 191) dX8_count_191 rfl ⟨by simp (disch := omega) only [vCN, szR, if_pos, if_neg, if_true]; rw [h98], rfl⟩
        · skip
          refine ap_lsw (pc := 73) (off := 119) 192 dX8_count_73 ⟨by omega, by omega⟩ (by decide) (by show Op.lookupswitch.offset [(0, 59), (1, 70), (7, 81), (20, 92), (21, 103), (22, 111)] 119 _ = _; simp (disch := omega) only [Op.lookupswitch.offset_cons, Op.lookupswitch.offset_nil, if_pos, if_neg]) rfl ?_
          refine ap_const (pc := 192) dX8_count_192 ?_
          exact ap_ireturn (pc := 193) dX8_count_193 rfl ⟨by simp (disch := omega) only [vCN, szR, if_pos, if_neg, if_true], rfl⟩

set_option maxHeartbeats 4000000 in
theorem qX8_wished (f k : Int) (r : Int → Int) (m : AM) (wR : wfR r) (g : agB 1 r m) (hf : rng f) (hk : rng k) : CS 2 mX8_wished [.inr 0, .inl f, .inl k] m (an (vWD r f k) m) := by
  refine cs_of (by decide +kernel) (Nat.le_of_ble_eq_true rfl) rfl ?_
  obtain ⟨gC, gP, gS, gW⟩ := ag1 g
  obtain ⟨hn, hC, hX, hPu⟩ := clF wR g
  have h12 := wR.1.1
  have hp := plate6
  have hm0 : m 2 3 = r 0 := gC.1
  have hm1 : 0 ≤ m 2 3 ∧ m 2 3 ≤ 12 := by rw [hm0]; exact h12
  refine ap_ild_1 (pc := 0) dX8_wished_0 ?_
  refine ap_invS (pc := 1) dX8_wished_1 ms_RX8_206 (av := [_]) (rest := []) (qX8_isFrontField _ _ ⟨by omega, by omega⟩) rfl rfl (Nat.le_of_ble_eq_true rfl) (by decide) (by decide) ?_
  rintro _ _ ⟨⟨w1, rfl⟩ | ⟨w1, rfl⟩, rfl⟩
  · skip
    refine ap_if_eq (pc := 4) 11 dX8_wished_4 rfl ⟨by omega, by omega⟩ (fun c4 => absurd c4 (by decide)) (fun _ => ?_)
    refine ap_ild_2 (pc := 7) dX8_wished_7 ?_
    refine ap_if_ge (pc := 8) 13 dX8_wished_8 rfl ⟨by omega, by omega⟩ (fun c8 => ?_) (fun c8 => ?_)
    · skip
      refine ap_ild_2 (pc := 13) dX8_wished_13 ?_
      refine ap_ald_0 (pc := 14) dX8_wished_14 ?_
      refine ap_getR (pc := 15) dX8_wished_15 fl_RX8_10 sh_0 rfl ?_
      refine ap_getR (pc := 18) dX8_wished_18 fl_RX8_101 sh_1 rfl ?_
      refine ap_getR (pc := 21) dX8_wished_21 fl_RX8_209 sh_12 rfl ?_
      refine ap_ild_1 (pc := 24) dX8_wished_24 ?_
      refine ap_iaload (pc := 25) dX8_wished_25 sh_13 (by omega) (by omega) (by decide) ?_
      refine ap_icmp_lt (pc := 26) 32 dX8_wished_26 rfl ⟨by omega, by omega⟩ (by have q := (gW f (by omega) (by omega)).1; have q2 := (wR.2.2.2 f (by omega) (by omega)).1; constructor <;> omega) (fun c26 => ?_) (fun c26 => ?_)
      · skip
        have hwf := gW f (by omega) (by omega)
        have hw3 := (wR.2.2.2 f (by omega) (by omega)).1
        rw [hwf.1] at c26
        refine ap_ald_0 (pc := 32) dX8_wished_32 ?_
        refine ap_getR (pc := 33) dX8_wished_33 fl_RX8_10 sh_0 rfl ?_
        refine ap_getR (pc := 36) dX8_wished_36 fl_RX8_101 sh_1 rfl ?_
        refine ap_getR (pc := 39) dX8_wished_39 fl_RX8_213 sh_12 rfl ?_
        refine ap_ild_1 (pc := 42) dX8_wished_42 ?_
        refine ap_ild_2 (pc := 43) dX8_wished_43 ?_
        refine ap_invS (pc := 44) dX8_wished_44 ms_RX8_135 (av := [_, _]) (rest := [_]) (qX8_placeOf _ _ _) rfl rfl (Nat.le_of_ble_eq_true rfl) (by decide) (by decide) ?_
        rintro _ _ ⟨rfl, rfl⟩
        refine ap_iaload (pc := 47) dX8_wished_47 sh_14 (by omega) (by omega) (by decide) ?_
        exact ap_ireturn (pc := 48) dX8_wished_48 rfl ⟨by simp (disch := omega) only [vWD, szR, if_pos, if_neg, if_true]; rw [hwf.2 k (by omega) c26], rfl⟩
      · skip
        have hwf := gW f (by omega) (by omega)
        rw [hwf.1] at c26
        refine ap_bipush (pc := 29) dX8_wished_29 bp_m4 ?_
        exact ap_ireturn (pc := 31) dX8_wished_31 rfl ⟨by simp (disch := omega) only [vWD, szR, if_pos, if_neg, if_true], rfl⟩
    · skip
      refine ap_const (pc := 11) dX8_wished_11 ?_
      exact ap_ireturn (pc := 12) dX8_wished_12 rfl ⟨by simp (disch := omega) only [vWD, szR, if_pos, if_neg, if_true], rfl⟩
  · skip
    refine ap_if_eq (pc := 4) 11 dX8_wished_4 rfl ⟨by omega, by omega⟩ (fun _ => ?_) (fun c4 => absurd c4 (by decide))
    refine ap_const (pc := 11) dX8_wished_11 ?_
    exact ap_ireturn (pc := 12) dX8_wished_12 rfl ⟨by simp (disch := omega) only [vWD, szR, if_pos, if_neg, if_true], rfl⟩

