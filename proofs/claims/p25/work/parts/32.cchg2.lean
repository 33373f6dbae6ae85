
theorem sL_v : (sLeast 0).toInt = 1 ∧ (sLeast 1).toInt = 0 ∧ (sLeast 2).toInt = 0 ∧ (sGreat 0).toInt = 10 ∧ (sGreat 1).toInt = 5 ∧ (sGreat 2).toInt = 400 := by decide +kernel
theorem sL_w {w : Int} (w0 : 0 ≤ w) (w3 : w < 3) : (0 ≤ (sLeast w.toNat).toInt ∧ (sLeast w.toNat).toInt ≤ 1) ∧ (0 ≤ (sGreat w.toNat).toInt ∧ (sGreat w.toNat).toInt ≤ 400) := by
  have h := sL_v
  rcases (by omega : w = 0 ∨ w = 1 ∨ w = 2) with rfl | rfl | rfl
  · show (0 ≤ (sLeast 0).toInt ∧ _) ∧ (0 ≤ (sGreat 0).toInt ∧ _)
    show (0 ≤ (sLeast 0).toInt ∧ (sLeast 0).toInt ≤ 1) ∧ (0 ≤ (sGreat 0).toInt ∧ (sGreat 0).toInt ≤ 400)
    omega
  · show (0 ≤ (sLeast 1).toInt ∧ (sLeast 1).toInt ≤ 1) ∧ (0 ≤ (sGreat 1).toInt ∧ (sGreat 1).toInt ≤ 400)
    omega
  · show (0 ≤ (sLeast 2).toInt ∧ (sLeast 2).toInt ≤ 1) ∧ (0 ≤ (sGreat 2).toInt ∧ (sGreat 2).toInt ≤ 400)
    omega
theorem okSet_i {w v : Int} (w0 : 0 ≤ w) (w3 : w < 3) : okSet w v ↔ ((sLeast w.toNat).toInt ≤ v ∧ v ≤ (sGreat w.toNat).toInt) := by
  have h := sL_v
  unfold okSet
  rcases (by omega : w = 0 ∨ w = 1 ∨ w = 2) with rfl | rfl | rfl
  · show _ ↔ ((sLeast 0).toInt ≤ v ∧ v ≤ (sGreat 0).toInt)
    rw [h.1, h.2.2.2.1]; omega
  · show _ ↔ ((sLeast 1).toInt ≤ v ∧ v ≤ (sGreat 1).toInt)
    rw [h.2.1, h.2.2.2.2.1]; omega
  · show _ ↔ ((sLeast 2).toInt ≤ v ∧ v ≤ (sGreat 2).toInt)
    rw [h.2.2.1, h.2.2.2.2.2]; omega
theorem okSet_n {w v : Int} (h : ¬ (0 ≤ w ∧ w ≤ 2)) : ¬ okSet w v := by
  unfold okSet; omega
theorem vSet_n {r : Int → Int} {w v : Int} (h : ¬ okSet w v) : vSet r w v = -1 ∧ ¬ okSet w v := ⟨if_neg h, h⟩
theorem vSet_y {r : Int → Int} {w v : Int} (h : okSet w v) : vSet r w v = r (114 + w) ∧ okSet w v := ⟨if_pos h, h⟩
theorem lgR_d (r : Int → Int) (t : Int) : (t ≥ r 114 ∧ lgR r t = 1) ∨ (t < r 114 ∧ lgR r t = 0) := by
  unfold lgR; split <;> omega
set_option maxHeartbeats 4000000 in
theorem qX8_set (w x : Int) {n : Int} {H : Int → Int → Int} (r : Int → Int) (m : AM) (wR : wfR r) (g : agB 1 r m) (hH0 : HC n H m) (hw : rng w) (hv : rng x) : CS 5 mX8_set [.inr 0, .inl w, .inl x] m (fun v m' => v = some (vSet r w x) ∧ ((okSet w x ∧ agB 1 (rSet r w x) m' ∧ cOK (m 0 6) n H r m m') ∨ (¬ okSet w x ∧ m' = m))) := by
  refine cs_of (by decide +kernel) (Nat.le_of_ble_eq_true rfl) rfl ?_
  obtain ⟨gC, gP, gS, gW⟩ := ag1 g
  have h12 := wR.1.1
  have hm0 : m 2 3 = r 0 := gC.1
  have hm1 : 0 ≤ m 2 3 ∧ m 2 3 ≤ 12 := by rw [hm0]; exact h12
  refine ap_ild_1 (pc := 0) dX8_set_0 ?_
  refine ap_const (pc := 1) dX8_set_1 ?_
  refine ap_const (pc := 2) dX8_set_2 ?_
  refine ap_invS (pc := 3) dX8_set_3 ms_RX8_55 (av := [_, _, _]) (rest := []) (qX8_within _ _ _ _ ⟨by omega, by omega⟩ ⟨by omega, by omega⟩ ⟨by omega, by omega⟩) rfl rfl (Nat.le_of_ble_eq_true rfl) (by decide) (by decide) ?_
  rintro _ _ ⟨⟨w3, rfl⟩ | ⟨w3, rfl⟩, rfl⟩
  · skip
    refine ap_if_eq (pc := 6) 26 dX8_set_6 rfl ⟨by omega, by omega⟩ (fun c6 => absurd c6 (by decide)) (fun _ => ?_)
    refine ap_ild_2 (pc := 9) dX8_set_9 ?_
    refine ap_gets1001 (pc := 10) dX8_set_10 sl_RX8_162 ?_
    refine ap_ild_1 (pc := 13) dX8_set_13 ?_
    refine ap_sld1001 (pc := 14) dX8_set_14 (by omega) (by omega) ?_
    refine ap_gets1002 (pc := 15) dX8_set_15 sl_RX8_165 ?_
    refine ap_ild_1 (pc := 18) dX8_set_18 ?_
    refine ap_sld1002 (pc := 19) dX8_set_19 (by omega) (by omega) ?_
    refine ap_invS (pc := 20) dX8_set_20 ms_RX8_55 (av := [_, _, _]) (rest := []) (qX8_within _ _ _ _ hv (by have qs := sL_w (w := w) (by omega) (by omega); constructor <;> omega) (by have qs := sL_w (w := w) (by omega) (by omega); constructor <;> omega)) rfl rfl (Nat.le_of_ble_eq_true rfl) (by decide) (by decide) ?_
    rintro _ _ ⟨⟨w20, rfl⟩ | ⟨w20, rfl⟩, rfl⟩
    · skip
      refine ap_if_ne (pc := 23) 28 dX8_set_23 rfl ⟨by omega, by omega⟩ (fun _ => ?_) (fun c23 => absurd c23 (by decide))
      refine ap_ald_0 (pc := 28) dX8_set_28 ?_
      refine ap_getR (pc := 29) dX8_set_29 fl_RX8_19 sh_0 rfl ?_
      refine ap_ald_0 (pc := 32) dX8_set_32 ?_
      refine ap_getR (pc := 33) dX8_set_33 fl_RX8_10 sh_0 rfl ?_
      refine ap_invV (pc := 36) dX8_set_36 mv_RX8_69 sh_17 (av := [_]) (rest := []) (qX2_keep _ wR hH0 g) rfl rfl (Nat.le_of_ble_eq_true rfl) (by decide) (by decide) ?_
      rintro _ m1 ⟨rfl, hK, g1, fK⟩
      obtain ⟨gC1, gP1, gS1, gW1⟩ := ag1 g1
      have hz1 := gC1.1
      refine ap_ald_0 (pc := 39) dX8_set_39 ?_
      refine ap_getR (pc := 40) dX8_set_40 fl_RX8_10 sh_0 rfl ?_
      refine ap_getR (pc := 43) dX8_set_43 fl_RX8_168 sh_1 rfl ?_
      refine ap_ild_1 (pc := 46) dX8_set_46 ?_
      refine ap_iaload (pc := 47) dX8_set_47 sh_15 (by omega) (by omega) (by decide) ?_
      try simp (disch := omega) only [am_same, am_k, am_j]
      refine ap_ist_3 (pc := 48) dX8_set_48 (by decide) ?_
      refine ap_ald_0 (pc := 49) dX8_set_49 ?_
      refine ap_getR (pc := 50) dX8_set_50 fl_RX8_10 sh_0 rfl ?_
      refine ap_getR (pc := 53) dX8_set_53 fl_RX8_168 sh_1 rfl ?_
      refine ap_ild_1 (pc := 56) dX8_set_56 ?_
      refine ap_ild_2 (pc := 57) dX8_set_57 ?_
      refine ap_iastore (pc := 58) dX8_set_58 sh_15 (by omega) (by omega) (by decide) ?_
      refine ap_ild_3 (pc := 59) dX8_set_59 ?_
      exact ap_ireturn (pc := 60) dX8_set_60 rfl ⟨by rw [gS1.1 w (by omega) (by omega), (vSet_y (r := r) (w := w) (v := x) ((okSet_i (w := w) (by omega) (by omega)).2 w20)).1], Or.inl ⟨(okSet_i (w := w) (by omega) (by omega)).2 w20, gSet wR g1 (by omega) (by omega), ⟨HC_frame (fun k j p q => by simp (disch := omega) only [am_k, am_j]) hK, fun k j hk => by simp (disch := omega) only [am_k]; exact fK k j (by omega), by simp (disch := omega) only [am_k]; exact fK 0 6 (by omega)⟩⟩⟩
    · skip
      refine ap_if_ne (pc := 23) 28 dX8_set_23 rfl ⟨by omega, by omega⟩ (fun c23 => absurd c23 (by decide)) (fun _ => ?_)
      refine ap_const (pc := 26) dX8_set_26 ?_
      exact ap_ireturn (pc := 27) dX8_set_27 rfl ⟨by rw [(vSet_n (r := r) (fun z => w20 ((okSet_i (by omega) (by omega)).1 z))).1], Or.inr ⟨(vSet_n (r := r) (fun z => w20 ((okSet_i (by omega) (by omega)).1 z))).2, rfl⟩⟩
  · skip
    refine ap_if_eq (pc := 6) 26 dX8_set_6 rfl ⟨by omega, by omega⟩ (fun _ => ?_) (fun c6 => absurd c6 (by decide))
    refine ap_const (pc := 26) dX8_set_26 ?_
    exact ap_ireturn (pc := 27) dX8_set_27 rfl ⟨by rw [(vSet_n (r := r) (w := w) (v := x) (okSet_n w3)).1], Or.inr ⟨(vSet_n (r := r) (w := w) (v := x) (okSet_n w3)).2, rfl⟩⟩

set_option maxHeartbeats 4000000 in
theorem qX8_wish (f c : Int) {n : Int} {H : Int → Int → Int} (r : Int → Int) (m : AM) (wR : wfR r) (g : agB 1 r m) (hH0 : HC n H m) (hf : rng f) (hc : rng c) : CS 5 mX8_wish [.inr 0, .inl f, .inl c] m (fun v m' => v = some (vWish r f c) ∧ ((okWish r f c ∧ agB 1 (rWish r f c) m' ∧ cOK (1) n H r m m') ∨ (¬ okWish r f c ∧ m' = m))) := by
  refine cs_of (by decide +kernel) (Nat.le_of_ble_eq_true rfl) rfl ?_
  obtain ⟨gC, gP, gS, gW⟩ := ag1 g
  have h12 := wR.1.1
  have hm0 : m 2 3 = r 0 := gC.1
  have hm1 : 0 ≤ m 2 3 ∧ m 2 3 ≤ 12 := by rw [hm0]; exact h12
  refine ap_ild_1 (pc := 0) dX8_wish_0 ?_
  refine ap_invS (pc := 1) dX8_wish_1 ms_RX8_206 (av := [_]) (rest := []) (qX8_isFrontField _ _ ⟨by omega, by omega⟩) rfl rfl (Nat.le_of_ble_eq_true rfl) (by decide) (by decide) ?_
  rintro _ _ ⟨⟨w1, rfl⟩ | ⟨w1, rfl⟩, rfl⟩
  · skip
    refine ap_if_eq (pc := 4) 20 dX8_wish_4 rfl ⟨by omega, by omega⟩ (fun c4 => absurd c4 (by decide)) (fun _ => ?_)
    refine ap_ild_2 (pc := 7) dX8_wish_7 ?_
    refine ap_const (pc := 8) dX8_wish_8 ?_
    refine ap_icmp_eq (pc := 9) 22 dX8_wish_9 rfl (Or.inr ⟨⟨by omega, by omega⟩, ⟨by omega, by omega⟩⟩) (fun c9 => ?_) (fun c9 => ?_)
    · skip
      refine ap_ild_2 (pc := 22) dX8_wish_22 ?_
      refine ap_const (pc := 23) dX8_wish_23 ?_
      refine ap_icmp_eq (pc := 24) 46 dX8_wish_24 rfl (Or.inr ⟨⟨by omega, by omega⟩, ⟨by omega, by omega⟩⟩) (fun c24 => ?_) (fun c24 => ?_)
      · skip
        refine ap_ald_0 (pc := 46) dX8_wish_46 ?_
        refine ap_getR (pc := 47) dX8_wish_47 fl_RX8_19 sh_0 rfl ?_
        refine ap_ald_0 (pc := 50) dX8_wish_50 ?_
        refine ap_getR (pc := 51) dX8_wish_51 fl_RX8_10 sh_0 rfl ?_
        refine ap_invV (pc := 54) dX8_wish_54 mv_RX8_69 sh_17 (av := [_]) (rest := []) (qX2_keep _ wR hH0 g) rfl rfl (Nat.le_of_ble_eq_true rfl) (by decide) (by decide) ?_
        rintro _ m1 ⟨rfl, hK, g1, fK⟩
        obtain ⟨gC1, gP1, gS1, gW1⟩ := ag1 g1
        have hz1 := gC1.1
        refine ap_ald_0 (pc := 57) dX8_wish_57 ?_
        refine ap_const (pc := 58) dX8_wish_58 ?_
        refine ap_putI (pc := 59) (jz := 6) dX8_wish_59 fn_RX8_51 sh_0 rfl rfl (fun _ => by decide) ?_
        refine ap_ild_2 (pc := 62) dX8_wish_62 ?_
        refine ap_const (pc := 63) dX8_wish_63 ?_
        refine ap_icmp_ne (pc := 64) 83 dX8_wish_64 rfl (Or.inr ⟨⟨by omega, by omega⟩, ⟨by omega, by omega⟩⟩) (fun c64 => ?_) (fun c64 => ?_)
        · skip
          exfalso; omega
        · skip
          obtain rfl : c = -1 := by omega
          refine ap_ald_0 (pc := 67) dX8_wish_67 ?_
          refine ap_getR (pc := 68) dX8_wish_68 fl_RX8_10 sh_0 rfl ?_
          refine ap_getR (pc := 71) dX8_wish_71 fl_RX8_101 sh_1 rfl ?_
          refine ap_getR (pc := 74) dX8_wish_74 fl_RX8_209 sh_12 rfl ?_
          refine ap_ild_1 (pc := 77) dX8_wish_77 ?_
          refine ap_const (pc := 78) dX8_wish_78 ?_
          refine ap_iastore (pc := 79) dX8_wish_79 sh_13 (by omega) (by omega) (by decide) ?_
          refine ap_goto (pc := 80) 95 dX8_wish_80 rfl ?_
          refine ap_ald_0 (pc := 95) dX8_wish_95 ?_
          refine ap_getR (pc := 96) dX8_wish_96 fl_RX8_10 sh_0 rfl ?_
          refine ap_getR (pc := 99) dX8_wish_99 fl_RX8_101 sh_1 rfl ?_
          refine ap_getR (pc := 102) dX8_wish_102 fl_RX8_209 sh_12 rfl ?_
          refine ap_ild_1 (pc := 105) dX8_wish_105 ?_
          refine ap_iaload (pc := 106) dX8_wish_106 sh_13 (by omega) (by omega) (by decide) ?_
          try simp (disch := omega) only [am_same, am_k, am_j]
          exact ap_ireturn (pc := 107) dX8_wish_107 rfl ⟨by unfold vWish; rw [if_pos ⟨w1, Or.inl rfl⟩, if_pos rfl], Or.inl ⟨by unfold okWish; omega, gWish0 wR g1 (by omega) (by omega), ⟨HC_frame (fun k j p q => by simp (disch := omega) only [am_k, am_j]) hK, fun k j hk => by simp (disch := omega) only [am_k]; exact fK k j (by omega), by simp (disch := omega) only [am_k, am_same]⟩⟩⟩
      · skip
        exfalso; omega
    · skip
      refine ap_ald_0 (pc := 12) dX8_wish_12 ?_
      refine ap_ild_2 (pc := 13) dX8_wish_13 ?_
      refine ap_invV (pc := 14) dX8_wish_14 mv_RX8_77 sh_0 (av := [_]) (rest := []) (qX8_isColor _ _ ⟨by omega, by omega⟩ (by assumption)) rfl rfl (Nat.le_of_ble_eq_true rfl) (by decide) (by decide) ?_
      rintro _ _ ⟨⟨w14, rfl⟩ | ⟨w14, rfl⟩, rfl⟩
      · skip
        refine ap_if_ne (pc := 17) 22 dX8_wish_17 rfl ⟨by omega, by omega⟩ (fun _ => ?_) (fun c17 => absurd c17 (by decide))
        refine ap_ild_2 (pc := 22) dX8_wish_22 ?_
        refine ap_const (pc := 23) dX8_wish_23 ?_
        refine ap_icmp_eq (pc := 24) 46 dX8_wish_24 rfl (Or.inr ⟨⟨by omega, by omega⟩, ⟨by omega, by omega⟩⟩) (fun c24 => ?_) (fun c24 => ?_)
        · skip
          exfalso; omega
        · skip
          refine ap_ald_0 (pc := 27) dX8_wish_27 ?_
          refine ap_getR (pc := 28) dX8_wish_28 fl_RX8_10 sh_0 rfl ?_
          refine ap_getR (pc := 31) dX8_wish_31 fl_RX8_101 sh_1 rfl ?_
          refine ap_getR (pc := 34) dX8_wish_34 fl_RX8_209 sh_12 rfl ?_
          refine ap_ild_1 (pc := 37) dX8_wish_37 ?_
          refine ap_iaload (pc := 38) dX8_wish_38 sh_13 (by omega) (by omega) (by decide) ?_
          refine ap_const (pc := 39) dX8_wish_39 ?_
          refine ap_icmp_lt (pc := 40) 46 dX8_wish_40 rfl (by rw [(gW f (by omega) (by omega)).1]; have q := (wR.2.2.2 f (by omega) (by omega)).1; constructor <;> omega) ⟨by omega, by omega⟩ (fun c40 => ?_) (fun c40 => ?_)
          · skip
            rw [(gW f (by omega) (by omega)).1] at c40
            have hz3 := (wR.2.2.2 f (by omega) (by omega)).1
            refine ap_ald_0 (pc := 46) dX8_wish_46 ?_
            refine ap_getR (pc := 47) dX8_wish_47 fl_RX8_19 sh_0 rfl ?_
            refine ap_ald_0 (pc := 50) dX8_wish_50 ?_
            refine ap_getR (pc := 51) dX8_wish_51 fl_RX8_10 sh_0 rfl ?_
            refine ap_invV (pc := 54) dX8_wish_54 mv_RX8_69 sh_17 (av := [_]) (rest := []) (qX2_keep _ wR hH0 g) rfl rfl (Nat.le_of_ble_eq_true rfl) (by decide) (by decide) ?_
            rintro _ m1 ⟨rfl, hK, g1, fK⟩
            obtain ⟨gC1, gP1, gS1, gW1⟩ := ag1 g1
            have hz1 := gC1.1
            refine ap_ald_0 (pc := 57) dX8_wish_57 ?_
            refine ap_const (pc := 58) dX8_wish_58 ?_
            refine ap_putI (pc := 59) (jz := 6) dX8_wish_59 fn_RX8_51 sh_0 rfl rfl (fun _ => by decide) ?_
            refine ap_ild_2 (pc := 62) dX8_wish_62 ?_
            refine ap_const (pc := 63) dX8_wish_63 ?_
            refine ap_icmp_ne (pc := 64) 83 dX8_wish_64 rfl (Or.inr ⟨⟨by omega, by omega⟩, ⟨by omega, by omega⟩⟩) (fun c64 => ?_) (fun c64 => ?_)
            · skip
              refine ap_ald_0 (pc := 83) dX8_wish_83 ?_
              refine ap_getR (pc := 84) dX8_wish_84 fl_RX8_10 sh_0 rfl ?_
              refine ap_getR (pc := 87) dX8_wish_87 fl_RX8_101 sh_1 rfl ?_
              refine ap_ild_1 (pc := 90) dX8_wish_90 ?_
              refine ap_ild_2 (pc := 91) dX8_wish_91 ?_
              refine ap_invV (pc := 92) dX8_wish_92 mv_RX8_210 sh_12 (av := [_, _]) (rest := []) (qX7_append _ _ _ (by omega) (by omega) (by rw [am_k (by omega), (gW1 f (by omega) (by omega)).1]; omega)) rfl rfl (Nat.le_of_ble_eq_true rfl) (by decide) (by decide) ?_
              rintro _ _ ⟨rfl, rfl⟩
              simp (disch := omega) only [am_k, am_j, am_same]
              rw [(gW1 f (by omega) (by omega)).1]
              show AP _ _ _ _ _ _ _
              refine ap_ald_0 (pc := 95) dX8_wish_95 ?_
              refine ap_getR (pc := 96) dX8_wish_96 fl_RX8_10 sh_0 rfl ?_
              refine ap_getR (pc := 99) dX8_wish_99 fl_RX8_101 sh_1 rfl ?_
              refine ap_getR (pc := 102) dX8_wish_102 fl_RX8_209 sh_12 rfl ?_
              refine ap_ild_1 (pc := 105) dX8_wish_105 ?_
              refine ap_iaload (pc := 106) dX8_wish_106 sh_13 (by omega) (by omega) (by decide) ?_
              try simp (disch := omega) only [am_same, am_k, am_j]
              exact ap_ireturn (pc := 107) dX8_wish_107 rfl ⟨by simp (disch := omega) only [vWish, am_same, if_pos, if_neg], Or.inl ⟨by unfold okWish; omega, gWish1 wR g1 (by omega) (by omega) (by omega) (by omega), ⟨HC_frame (fun k j p q => by simp (disch := omega) only [am_k, am_j]) hK, fun k j hk => by simp (disch := omega) only [am_k]; exact fK k j (by omega), by simp (disch := omega) only [am_k, am_same]⟩⟩⟩
            · skip
              exfalso; omega
          · skip
            rw [(gW f (by omega) (by omega)).1] at c40
            refine ap_bipush (pc := 43) dX8_wish_43 bp_m3 ?_
            exact ap_ireturn (pc := 45) dX8_wish_45 rfl ⟨by simp (disch := omega) only [vWish, if_pos, if_neg], Or.inr ⟨fun z => by unfold okWish at z; omega, rfl⟩⟩
      · skip
        refine ap_if_ne (pc := 17) 22 dX8_wish_17 rfl ⟨by omega, by omega⟩ (fun c17 => absurd c17 (by decide)) (fun _ => ?_)
        refine ap_const (pc := 20) dX8_wish_20 ?_
        exact ap_ireturn (pc := 21) dX8_wish_21 rfl ⟨by simp (disch := omega) only [vWish, if_pos, if_neg], Or.inr ⟨fun z => by unfold okWish at z; omega, rfl⟩⟩
  · skip
    refine ap_if_eq (pc := 4) 20 dX8_wish_4 rfl ⟨by omega, by omega⟩ (fun _ => ?_) (fun c4 => absurd c4 (by decide))
    refine ap_const (pc := 20) dX8_wish_20 ?_
    exact ap_ireturn (pc := 21) dX8_wish_21 rfl ⟨by simp (disch := omega) only [vWish, if_pos, if_neg], Or.inr ⟨fun z => by unfold okWish at z; omega, rfl⟩⟩

set_option maxHeartbeats 4000000 in
theorem qX8_fire (h t : Int) {n : Int} {H : Int → Int → Int} (r : Int → Int) (m : AM) (wR : wfR r) (g : agB 1 r m) (hH0 : HC n H m) (hh : rng h) (ht : rng t) : CS 5 mX8_fire [.inr 0, .inl h, .inl t] m (fun v m' => v = some (vFire r h t) ∧ ((okFire r h t ∧ (∀ r' : Int → Int, isFire r h (lgR r t) t r' → agB 1 r' m') ∧ cOK (m 0 6) n H r m m') ∨ (¬ okFire r h t ∧ m' = m))) := by
  refine cs_of (by decide +kernel) (Nat.le_of_ble_eq_true rfl) rfl ?_
  obtain ⟨gC, gP, gS, gW⟩ := ag1 g
  have h12 := wR.1.1
  have hm0 : m 2 3 = r 0 := gC.1
  have hm1 : 0 ≤ m 2 3 ∧ m 2 3 ≤ 12 := by rw [hm0]; exact h12
  refine ap_ild_1 (pc := 0) dX8_fire_0 ?_
  refine ap_sipush (pc := 1) dX8_fire_1 sp_500 ?_
  refine ap_sipush (pc := 4) dX8_fire_4 sp_1200 ?_
  refine ap_invS (pc := 7) dX8_fire_7 ms_RX8_55 (av := [_, _, _]) (rest := []) (qX8_within _ _ _ _ ⟨by omega, by omega⟩ ⟨by omega, by omega⟩ ⟨by omega, by omega⟩) rfl rfl (Nat.le_of_ble_eq_true rfl) (by decide) (by decide) ?_
  rintro _ _ ⟨⟨w7, rfl⟩ | ⟨w7, rfl⟩, rfl⟩
  · skip
    refine ap_if_eq (pc := 10) 23 dX8_fire_10 rfl ⟨by omega, by omega⟩ (fun c10 => absurd c10 (by decide)) (fun _ => ?_)
    refine ap_ild_2 (pc := 13) dX8_fire_13 ?_
    refine ap_const (pc := 14) dX8_fire_14 ?_
    refine ap_bipush (pc := 15) dX8_fire_15 bp_20 ?_
    refine ap_invS (pc := 17) dX8_fire_17 ms_RX8_55 (av := [_, _, _]) (rest := []) (qX8_within _ _ _ _ ⟨by omega, by omega⟩ ⟨by omega, by omega⟩ ⟨by omega, by omega⟩) rfl rfl (Nat.le_of_ble_eq_true rfl) (by decide) (by decide) ?_
    rintro _ _ ⟨⟨w17, rfl⟩ | ⟨w17, rfl⟩, rfl⟩
    · skip
      refine ap_if_ne (pc := 20) 25 dX8_fire_20 rfl ⟨by omega, by omega⟩ (fun _ => ?_) (fun c20 => absurd c20 (by decide))
      refine ap_ald_0 (pc := 25) dX8_fire_25 ?_
      refine ap_getR (pc := 26) dX8_fire_26 fl_RX8_10 sh_0 rfl ?_
      refine ap_getR (pc := 29) dX8_fire_29 fl_RX8_119 sh_1 rfl ?_
      refine ap_const (pc := 32) dX8_fire_32 ?_
      refine ap_iaload (pc := 33) dX8_fire_33 sh_16 (by omega) (by omega) (by decide) ?_
      refine ap_sipush (pc := 34) dX8_fire_34 sp_1000 ?_
      refine ap_icmp_lt (pc := 37) 43 dX8_fire_37 rfl (by rw [gS.2 0 (by omega) (by omega)]; have q := wR.2.2.1.2.2.2.1; show rng (r 117); constructor <;> omega) ⟨by omega, by omega⟩ (fun c37 => ?_) (fun c37 => ?_)
      · skip
        rw [gS.2 0 (by omega) (by omega)] at c37
        have c37b : r 117 < 1000 := c37
        refine ap_ald_0 (pc := 43) dX8_fire_43 ?_
        refine ap_getR (pc := 44) dX8_fire_44 fl_RX8_19 sh_0 rfl ?_
        refine ap_ald_0 (pc := 47) dX8_fire_47 ?_
        refine ap_getR (pc := 48) dX8_fire_48 fl_RX8_10 sh_0 rfl ?_
        refine ap_invV (pc := 51) dX8_fire_51 mv_RX8_69 sh_17 (av := [_]) (rest := []) (qX2_keep _ wR hH0 g) rfl rfl (Nat.le_of_ble_eq_true rfl) (by decide) (by decide) ?_
        rintro _ m1 ⟨rfl, hK, g1, fK⟩
        obtain ⟨gC1, gP1, gS1, gW1⟩ := ag1 g1
        have hz1 := gC1.1
        refine ap_ald_0 (pc := 54) dX8_fire_54 ?_
        refine ap_getR (pc := 55) dX8_fire_55 fl_RX8_26 sh_0 rfl ?_
        refine ap_ald_0 (pc := 58) dX8_fire_58 ?_
        refine ap_getR (pc := 59) dX8_fire_59 fl_RX8_10 sh_0 rfl ?_
        refine ap_ald_0 (pc := 62) dX8_fire_62 ?_
        refine ap_getR (pc := 63) dX8_fire_63 fl_RX8_10 sh_0 rfl ?_
        refine ap_getR (pc := 66) dX8_fire_66 fl_RX8_95 sh_1 rfl ?_
        refine ap_ild_1 (pc := 69) dX8_fire_69 ?_
        refine ap_ild_2 (pc := 70) dX8_fire_70 ?_
        refine ap_invV (pc := 71) dX8_fire_71 mv_RX8_184 sh_83 (av := [_, _, _, _]) (rest := []) (qX1_happen plate6 h t (lgR r t) r _ (Or.inl (by omega)) (Or.inr rfl) (by omega) (by omega) (lgR_d r t) wR.1 wR.2.1 wR.2.2.1 gP1 gC1 gS1) rfl rfl (Nat.le_of_ble_eq_true rfl) (by decide) (by decide) ?_
        rintro _ m2 ⟨rfl, hcI⟩
        have hA : ∀ k : Int, 0 ≤ k → k < 9 → m2 16 k = r (117 + k) := fun k a b => by rw [hcI.1.1 16 k (by omega) (by omega) (by omega) (by omega) (by omega)]; exact gS1.2 k a b
        refine ap_ald_0 (pc := 74) dX8_fire_74 ?_
        refine ap_getR (pc := 75) dX8_fire_75 fl_RX8_10 sh_0 rfl ?_
        refine ap_getR (pc := 78) dX8_fire_78 fl_RX8_119 sh_1 rfl ?_
        refine ap_const (pc := 81) dX8_fire_81 ?_
        refine ap_dup2 (pc := 82) dX8_fire_82 ?_
        refine ap_iaload (pc := 83) dX8_fire_83 sh_16 (by omega) (by omega) (by decide) ?_
        try simp (disch := omega) only [am_same, am_k, am_j]
        refine ap_const (pc := 84) dX8_fire_84 ?_
        refine ap_iadd (pc := 85) dX8_fire_85 ?_
        refine ap_iastore (pc := 86) dX8_fire_86 sh_16 (by omega) (by omega) (by decide) ?_
        refine ap_ald_0 (pc := 87) dX8_fire_87 ?_
        refine ap_getR (pc := 88) dX8_fire_88 fl_RX8_10 sh_0 rfl ?_
        refine ap_getR (pc := 91) dX8_fire_91 fl_RX8_119 sh_1 rfl ?_
        refine ap_const (pc := 94) dX8_fire_94 ?_
        refine ap_dup2 (pc := 95) dX8_fire_95 ?_
        refine ap_iaload (pc := 96) dX8_fire_96 sh_16 (by omega) (by omega) (by decide) ?_
        try simp (disch := omega) only [am_same, am_k, am_j]
        refine ap_ild_2 (pc := 97) dX8_fire_97 ?_
        refine ap_iadd (pc := 98) dX8_fire_98 ?_
        refine ap_iastore (pc := 99) dX8_fire_99 sh_16 (by omega) (by omega) (by decide) ?_
        refine ap_ald_0 (pc := 100) dX8_fire_100 ?_
        refine ap_getR (pc := 101) dX8_fire_101 fl_RX8_10 sh_0 rfl ?_
        refine ap_getR (pc := 104) dX8_fire_104 fl_RX8_119 sh_1 rfl ?_
        refine ap_const (pc := 107) dX8_fire_107 ?_
        refine ap_dup2 (pc := 108) dX8_fire_108 ?_
        refine ap_iaload (pc := 109) dX8_fire_109 sh_16 (by omega) (by omega) (by decide) ?_
        try simp (disch := omega) only [am_same, am_k, am_j]
        refine ap_ald_0 (pc := 110) dX8_fire_110 ?_
        refine ap_getR (pc := 111) dX8_fire_111 fl_RX8_26 sh_0 rfl ?_
        refine ap_getI (pc := 114) (jz := 1) dX8_fire_114 fl_RX8_188 sh_83 rfl rfl ?_
        try simp (disch := omega) only [am_same, am_k, am_j]
        refine ap_iadd (pc := 117) dX8_fire_117 ?_
        refine ap_iastore (pc := 118) dX8_fire_118 sh_16 (by omega) (by omega) (by decide) ?_
        refine ap_ald_0 (pc := 119) dX8_fire_119 ?_
        refine ap_getR (pc := 120) dX8_fire_120 fl_RX8_10 sh_0 rfl ?_
        refine ap_getR (pc := 123) dX8_fire_123 fl_RX8_119 sh_1 rfl ?_
        refine ap_const (pc := 126) dX8_fire_126 ?_
        refine ap_dup2 (pc := 127) dX8_fire_127 ?_
        refine ap_iaload (pc := 128) dX8_fire_128 sh_16 (by omega) (by omega) (by decide) ?_
        try simp (disch := omega) only [am_same, am_k, am_j]
        refine ap_ald_0 (pc := 129) dX8_fire_129 ?_
        refine ap_getR (pc := 130) dX8_fire_130 fl_RX8_26 sh_0 rfl ?_
        refine ap_getI (pc := 133) (jz := 3) dX8_fire_133 fl_RX8_191 sh_83 rfl rfl ?_
        try simp (disch := omega) only [am_same, am_k, am_j]
        refine ap_iadd (pc := 136) dX8_fire_136 ?_
        refine ap_iastore (pc := 137) dX8_fire_137 sh_16 (by omega) (by omega) (by decide) ?_
        refine ap_ald_0 (pc := 138) dX8_fire_138 ?_
        refine ap_getR (pc := 139) dX8_fire_139 fl_RX8_10 sh_0 rfl ?_
        refine ap_getR (pc := 142) dX8_fire_142 fl_RX8_119 sh_1 rfl ?_
        refine ap_bipush (pc := 145) dX8_fire_145 bp_6 ?_
        refine ap_dup2 (pc := 147) dX8_fire_147 ?_
        refine ap_iaload (pc := 148) dX8_fire_148 sh_16 (by omega) (by omega) (by decide) ?_
        try simp (disch := omega) only [am_same, am_k, am_j]
        refine ap_ald_0 (pc := 149) dX8_fire_149 ?_
        refine ap_getR (pc := 150) dX8_fire_150 fl_RX8_26 sh_0 rfl ?_
        refine ap_getI (pc := 153) (jz := 2) dX8_fire_153 fl_RX8_194 sh_83 rfl rfl ?_
        try simp (disch := omega) only [am_same, am_k, am_j]
        refine ap_iadd (pc := 156) dX8_fire_156 ?_
        refine ap_iastore (pc := 157) dX8_fire_157 sh_16 (by omega) (by omega) (by decide) ?_
        refine ap_ald_0 (pc := 158) dX8_fire_158 ?_
        refine ap_getR (pc := 159) dX8_fire_159 fl_RX8_10 sh_0 rfl ?_
        refine ap_getR (pc := 162) dX8_fire_162 fl_RX8_119 sh_1 rfl ?_
        refine ap_bipush (pc := 165) dX8_fire_165 bp_7 ?_
        refine ap_dup2 (pc := 167) dX8_fire_167 ?_
        refine ap_iaload (pc := 168) dX8_fire_168 sh_16 (by omega) (by omega) (by decide) ?_
        try simp (disch := omega) only [am_same, am_k, am_j]
        refine ap_ald_0 (pc := 169) dX8_fire_169 ?_
        refine ap_getR (pc := 170) dX8_fire_170 fl_RX8_26 sh_0 rfl ?_
        refine ap_getI (pc := 173) (jz := 4) dX8_fire_173 fl_RX8_197 sh_83 rfl rfl ?_
        try simp (disch := omega) only [am_same, am_k, am_j]
        refine ap_iadd (pc := 176) dX8_fire_176 ?_
        refine ap_iastore (pc := 177) dX8_fire_177 sh_16 (by omega) (by omega) (by decide) ?_
        refine ap_ald_0 (pc := 178) dX8_fire_178 ?_
        refine ap_getR (pc := 179) dX8_fire_179 fl_RX8_10 sh_0 rfl ?_
        refine ap_getR (pc := 182) dX8_fire_182 fl_RX8_119 sh_1 rfl ?_
        refine ap_bipush (pc := 185) dX8_fire_185 bp_8 ?_
        refine ap_dup2 (pc := 187) dX8_fire_187 ?_
        refine ap_iaload (pc := 188) dX8_fire_188 sh_16 (by omega) (by omega) (by decide) ?_
        try simp (disch := omega) only [am_same, am_k, am_j]
        refine ap_ald_0 (pc := 189) dX8_fire_189 ?_
        refine ap_getR (pc := 190) dX8_fire_190 fl_RX8_26 sh_0 rfl ?_
        refine ap_getI (pc := 193) (jz := 5) dX8_fire_193 fl_RX8_199 sh_83 rfl rfl ?_
        try simp (disch := omega) only [am_same, am_k, am_j]
        refine ap_iadd (pc := 196) dX8_fire_196 ?_
        refine ap_iastore (pc := 197) dX8_fire_197 sh_16 (by omega) (by omega) (by decide) ?_
        refine ap_ald_0 (pc := 198) dX8_fire_198 ?_
        refine ap_getR (pc := 199) dX8_fire_199 fl_RX8_26 sh_0 rfl ?_
        refine ap_getI (pc := 202) (jz := 1) dX8_fire_202 fl_RX8_188 sh_83 rfl rfl ?_
        try simp (disch := omega) only [am_same, am_k, am_j]
        exact ap_ireturn (pc := 205) dX8_fire_205 rfl ⟨by rw [hcI.2.2.1]; simp (disch := omega) only [vFire, if_pos], Or.inl ⟨⟨by omega, by omega, by omega⟩, fun r' hx => gFire wR g1 hcI (fun k j a => by simp (disch := omega) only [am_k]) (fun k k0 k9 => by
      rcases (by omega : k = 0 ∨ k = 1 ∨ k = 2 ∨ k = 3 ∨ k = 4 ∨ k = 5 ∨ k = 6 ∨ k = 7 ∨ k = 8) with rfl | rfl | rfl | rfl | rfl | rfl | rfl | rfl | rfl <;>
        simp (disch := omega) only [am_same, am_j, if_pos, if_neg, if_true] <;> rw [hA _ (by omega) (by omega)] <;> rfl) hx, ⟨HC_frame (fun k j p q => by simp (disch := omega) only [am_k]; exact hcI.1.1 k j (by omega) (by omega) (by omega) (by omega) (by omega)) hK, fun k j hk => by simp (disch := omega) only [am_k]; rw [hcI.1.1 k j (by omega) (by omega) (by omega) (by omega) (by omega)]; exact fK k j (by omega), by simp (disch := omega) only [am_k]; rw [hcI.1.1 0 6 (by omega) (by omega) (by omega) (by omega) (by omega)]; exact fK 0 6 (by omega)⟩⟩⟩
      · skip
        rw [gS.2 0 (by omega) (by omega)] at c37
        have c37b : 1000 ≤ r 117 := c37
        refine ap_bipush (pc := 40) dX8_fire_40 bp_m3 ?_
        exact ap_ireturn (pc := 42) dX8_fire_42 rfl ⟨by simp (disch := omega) only [vFire, if_pos, if_neg], Or.inr ⟨fun z => by unfold okFire at z; omega, rfl⟩⟩
    · skip
      refine ap_if_ne (pc := 20) 25 dX8_fire_20 rfl ⟨by omega, by omega⟩ (fun c20 => absurd c20 (by decide)) (fun _ => ?_)
      refine ap_const (pc := 23) dX8_fire_23 ?_
      exact ap_ireturn (pc := 24) dX8_fire_24 rfl ⟨by simp (disch := omega) only [vFire, if_pos, if_neg], Or.inr ⟨fun z => by unfold okFire at z; omega, rfl⟩⟩
  · skip
    refine ap_if_eq (pc := 10) 23 dX8_fire_10 rfl ⟨by omega, by omega⟩ (fun _ => ?_) (fun c10 => absurd c10 (by decide))
    refine ap_const (pc := 23) dX8_fire_23 ?_
    exact ap_ireturn (pc := 24) dX8_fire_24 rfl ⟨by simp (disch := omega) only [vFire, if_pos, if_neg], Or.inr ⟨fun z => by unfold okFire at z; omega, rfl⟩⟩

set_option maxHeartbeats 4000000 in
theorem qX8_undo {n : Int} {H : Int → Int → Int} (m : AM) (hH0 : HC n H m) (wH : ∀ k : Int, 0 ≤ k → k < n → wfR (H k)) : CS 5 mX8_undo [.inr 0] m (fun v m' => v = some (if n = 0 then -2 else n - 1) ∧ ((n ≠ 0 ∧ agB 1 (H (n - 1)) m' ∧ HC (n - 1) H m' ∧ (∀ (k : Nat) (j : Int), 85 ≤ k → m' k j = m k j) ∧ m' 0 6 = 1) ∨ (n = 0 ∧ m' = m))) := by
  refine cs_of (by decide +kernel) (Nat.le_of_ble_eq_true rfl) rfl ?_
  have hn := hH0.2.1
  have h172 := hH0.1
  refine ap_ald_0 (pc := 0) dX8_undo_0 ?_
  refine ap_getR (pc := 1) dX8_undo_1 fl_RX8_19 sh_0 rfl ?_
  refine ap_getI (pc := 4) (jz := 2) dX8_undo_4 fl_RX8_180 sh_17 rfl rfl ?_
  refine ap_if_ne (pc := 7) 13 dX8_undo_7 rfl (by rw [h172]; constructor <;> omega) (fun c7 => ?_) (fun c7 => ?_)
  · skip
    refine ap_ald_0 (pc := 13) dX8_undo_13 ?_
    refine ap_getR (pc := 14) dX8_undo_14 fl_RX8_19 sh_0 rfl ?_
    refine ap_ald_0 (pc := 17) dX8_undo_17 ?_
    refine ap_getR (pc := 18) dX8_undo_18 fl_RX8_10 sh_0 rfl ?_
    refine ap_invV (pc := 21) dX8_undo_21 mv_RX8_230 sh_17 (av := [_]) (rest := []) (qX2_restore _ (by omega) (wH _ (by omega) (by omega)) hH0) rfl rfl (Nat.le_of_ble_eq_true rfl) (by decide) (by decide) ?_
    rintro _ m1 ⟨rfl, hK, g1, fK⟩
    refine ap_ald_0 (pc := 24) dX8_undo_24 ?_
    refine ap_const (pc := 25) dX8_undo_25 ?_
    refine ap_putI (pc := 26) (jz := 6) dX8_undo_26 fn_RX8_51 sh_0 rfl rfl (fun _ => by decide) ?_
    refine ap_ald_0 (pc := 29) dX8_undo_29 ?_
    refine ap_getR (pc := 30) dX8_undo_30 fl_RX8_19 sh_0 rfl ?_
    refine ap_getI (pc := 33) (jz := 2) dX8_undo_33 fl_RX8_180 sh_17 rfl rfl ?_
    try simp (disch := omega) only [am_same, am_k, am_j]
    exact ap_ireturn (pc := 36) dX8_undo_36 rfl ⟨by simp (disch := omega) only [am_k, if_neg]; rw [hK.1], Or.inl ⟨by omega, agB_frame (fun k j a b => by simp (disch := omega) only [am_k]) g1, HC_frame (fun k j p q => by simp (disch := omega) only [am_k]) hK, fun k j hk => by simp (disch := omega) only [am_k]; exact fK k j (by omega), by rw [am_same]⟩⟩
  · skip
    refine ap_bipush (pc := 10) dX8_undo_10 bp_m2 ?_
    exact ap_ireturn (pc := 12) dX8_undo_12 rfl ⟨by simp (disch := omega) only [if_pos], Or.inr ⟨by omega, rfl⟩⟩

