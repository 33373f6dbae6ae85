set_option maxHeartbeats 4000000 in
theorem qX8_tryHeat (h : Int) (r : Int → Int) (m : AM) (wR : wfR r) (g : agB 1 r m) (hh : 500 ≤ h ∧ h ≤ 1200) : CS 5 mX8_tryHeat [.inr 0, .inl h] m (fun v m' => v = none ∧ m' 83 1 = tU r h ∧ m' 83 2 = tB r h ∧ m' 83 3 = tD r h ∧ m' 83 4 = cntK r h 1 6 ∧ m' 83 5 = cntM r h 1 6 ∧ ∀ (k : Nat) (j : Int), (k < 83 ∨ 91 ≤ k) → m' k j = m k j) := by
  refine cs_of (by decide +kernel) (Nat.le_of_ble_eq_true rfl) rfl ?_
  obtain ⟨gC, gP, gS, gW⟩ := ag1 g
  have h12 := wR.1.1
  have hm0 : m 2 3 = r 0 := gC.1
  have hm1 : 0 ≤ m 2 3 ∧ m 2 3 ≤ 12 := by rw [hm0]; exact h12
  have h114 := wR.2.2.1.1
  refine ap_ald_0 (pc := 0) dX8_tryHeat_0 ?_
  refine ap_getR (pc := 1) dX8_tryHeat_1 fl_RX8_33 sh_0 rfl ?_
  refine ap_ald_0 (pc := 4) dX8_tryHeat_4 ?_
  refine ap_getR (pc := 5) dX8_tryHeat_5 fl_RX8_10 sh_0 rfl ?_
  refine ap_getR (pc := 8) dX8_tryHeat_8 fl_RX8_95 sh_1 rfl ?_
  refine ap_invV (pc := 11) dX8_tryHeat_11 mv_RX8_253 sh_85 (av := [_]) (rest := []) (qX5_copyFrom plate85 plate6 _ (by omega)) rfl rfl (Nat.le_of_ble_eq_true rfl) (by decide) (by decide) ?_
  rintro _ m2 ⟨rfl, ⟨s1, s2, s3, s4, s5⟩, fC⟩
  refine ap_ald_0 (pc := 14) dX8_tryHeat_14 ?_
  refine ap_getR (pc := 15) dX8_tryHeat_15 fl_RX8_26 sh_0 rfl ?_
  refine ap_ald_0 (pc := 18) dX8_tryHeat_18 ?_
  refine ap_getR (pc := 19) dX8_tryHeat_19 fl_RX8_10 sh_0 rfl ?_
  refine ap_ald_0 (pc := 22) dX8_tryHeat_22 ?_
  refine ap_getR (pc := 23) dX8_tryHeat_23 fl_RX8_33 sh_0 rfl ?_
  refine ap_ild_1 (pc := 26) dX8_tryHeat_26 ?_
  refine ap_ald_0 (pc := 27) dX8_tryHeat_27 ?_
  refine ap_getR (pc := 28) dX8_tryHeat_28 fl_RX8_10 sh_0 rfl ?_
  refine ap_getR (pc := 31) dX8_tryHeat_31 fl_RX8_168 sh_1 rfl ?_
  refine ap_const (pc := 34) dX8_tryHeat_34 ?_
  refine ap_iaload (pc := 35) dX8_tryHeat_35 sh_15 (by omega) (by omega) (by decide) ?_
  try simp (disch := omega) only [am_same, am_k, am_j]
  have hmn : m2 15 0 = r 114 := by rw [fC 15 0 (by omega)]; exact gS.1 0 (by omega) (by omega)
  refine ap_invV (pc := 36) dX8_tryHeat_36 mv_RX8_184 sh_83 (av := [_, _, _, _]) (rest := []) (qX1_happen plate85 h _ 1 r _ (Or.inr (by omega)) (Or.inl (by omega)) hh (by rw [hmn]; omega) (Or.inl ⟨by rw [hmn]; exact Int.le_refl _, rfl⟩) wR.1 wR.2.1 wR.2.2.1 (agP_copy wR.2.1 gP s1 s2 s3 s4 s5) (agC_frame (fun _ _ _ => rfl) (fun k j hk => fC k j (by omega)) h12.2 gC) (agS_frame (fun _ _ _ => rfl) (fun k j hk => fC k j (by omega)) gS)) rfl rfl (Nat.le_of_ble_eq_true rfl) (by decide) (by decide) ?_
  rintro _ m3 ⟨rfl, hcI⟩
  exact ap_return (pc := 39) dX8_tryHeat_39 rfl ⟨rfl, hcI.2.2.1, hcI.2.2.2.1, hcI.2.2.2.2.1, hcI.2.2.2.2.2.1, hcI.2.2.2.2.2.2, fun k j q => by rw [hcI.1.1 k j (by omega) (by omega) (by omega) (by omega) (by omega)]; exact fC k j (by omega)⟩

set_option maxHeartbeats 4000000 in
theorem qX8_ifFired (h w : Int) (r : Int → Int) (m : AM) (wR : wfR r) (g : agB 1 r m) (hh : rng h) (hw : rng w) : CS 6 mX8_ifFired [.inr 0, .inl h, .inl w] m (fun v m' => v = some (vIF r h w) ∧ ∀ (k : Nat) (j : Int), (k < 83 ∨ 91 ≤ k) → m' k j = m k j) := by
  refine cs_of (by decide +kernel) (Nat.le_of_ble_eq_true rfl) rfl ?_
  have gcur := g
  refine ap_ild_1 (pc := 0) dX8_ifFired_0 ?_
  refine ap_sipush (pc := 1) dX8_ifFired_1 sp_500 ?_
  refine ap_sipush (pc := 4) dX8_ifFired_4 sp_1200 ?_
  refine ap_invS (pc := 7) dX8_ifFired_7 ms_RX8_55 (av := [_, _, _]) (rest := []) (qX8_within _ _ _ _ ⟨by omega, by omega⟩ ⟨by omega, by omega⟩ ⟨by omega, by omega⟩) rfl rfl (Nat.le_of_ble_eq_true rfl) (by decide) (by decide) ?_
  rintro _ _ ⟨⟨w7, rfl⟩ | ⟨w7, rfl⟩, rfl⟩
  · skip
    refine ap_if_eq (pc := 10) 22 dX8_ifFired_10 rfl ⟨by omega, by omega⟩ (fun c10 => absurd c10 (by decide)) (fun _ => ?_)
    refine ap_ild_2 (pc := 13) dX8_ifFired_13 ?_
    refine ap_const (pc := 14) dX8_ifFired_14 ?_
    refine ap_const (pc := 15) dX8_ifFired_15 ?_
    refine ap_invS (pc := 16) dX8_ifFired_16 ms_RX8_55 (av := [_, _, _]) (rest := []) (qX8_within _ _ _ _ ⟨by omega, by omega⟩ ⟨by omega, by omega⟩ ⟨by omega, by omega⟩) rfl rfl (Nat.le_of_ble_eq_true rfl) (by decide) (by decide) ?_
    rintro _ _ ⟨⟨w16, rfl⟩ | ⟨w16, rfl⟩, rfl⟩
    · skip
      refine ap_if_ne (pc := 19) 24 dX8_ifFired_19 rfl ⟨by omega, by omega⟩ (fun _ => ?_) (fun c19 => absurd c19 (by decide))
      refine ap_ald_0 (pc := 24) dX8_ifFired_24 ?_
      refine ap_ild_1 (pc := 25) dX8_ifFired_25 ?_
      refine ap_invV (pc := 26) dX8_ifFired_26 mv_RX8_202 sh_0 (av := [_]) (rest := []) (qX8_tryHeat _ r _ wR gcur (by omega)) rfl rfl (Nat.le_of_ble_eq_true rfl) (by decide) (by decide) ?_
      rintro _ m2 ⟨rfl, y1, y2, y3, y4, y5, yF⟩
      refine ap_ild_2 (pc := 29) dX8_ifFired_29 ?_
      rcases (by omega : w = 0 ∨ w = 1 ∨ w = 2 ∨ w = 3 ∨ ((w < 0 ∨ 3 < w))) with h30 | h30 | h30 | h30 | h30
      · skip
        refine ap_tswIn (pc := 30) (off := 30) 60 dX8_ifFired_30 ⟨by omega, by omega⟩ (by omega) (by omega) (by rw [h30]; rfl) rfl ?_
        refine ap_ald_0 (pc := 60) dX8_ifFired_60 ?_
        refine ap_getR (pc := 61) dX8_ifFired_61 fl_RX8_26 sh_0 rfl ?_
        refine ap_getI (pc := 64) (jz := 1) dX8_ifFired_64 fl_RX8_188 sh_83 rfl rfl ?_
        try simp (disch := omega) only [am_same, am_k, am_j]
        exact ap_ireturn (pc := 67) dX8_ifFired_67 rfl ⟨by rw [y1]; simp (disch := omega) only [vIF, tV, if_pos, if_neg], yF⟩
      · skip
        refine ap_tswIn (pc := 30) (off := 38) 68 dX8_ifFired_30 ⟨by omega, by omega⟩ (by omega) (by omega) (by rw [h30]; rfl) rfl ?_
        refine ap_ald_0 (pc := 68) dX8_ifFired_68 ?_
        refine ap_getR (pc := 69) dX8_ifFired_69 fl_RX8_26 sh_0 rfl ?_
        refine ap_getI (pc := 72) (jz := 2) dX8_ifFired_72 fl_RX8_194 sh_83 rfl rfl ?_
        try simp (disch := omega) only [am_same, am_k, am_j]
        exact ap_ireturn (pc := 75) dX8_ifFired_75 rfl ⟨by rw [y2]; simp (disch := omega) only [vIF, tV, if_pos, if_neg], yF⟩
      · skip
        refine ap_tswIn (pc := 30) (off := 46) 76 dX8_ifFired_30 ⟨by omega, by omega⟩ (by omega) (by omega) (by rw [h30]; rfl) rfl ?_
        refine ap_ald_0 (pc := 76) dX8_ifFired_76 ?_
        refine ap_getR (pc := 77) dX8_ifFired_77 fl_RX8_26 sh_0 rfl ?_
        refine ap_getI (pc := 80) (jz := 3) dX8_ifFired_80 fl_RX8_191 sh_83 rfl rfl ?_
        try simp (disch := omega) only [am_same, am_k, am_j]
        exact ap_ireturn (pc := 83) dX8_ifFired_83 rfl ⟨by rw [y3]; simp (disch := omega) only [vIF, tV, if_pos, if_neg], yF⟩
      · skip
        refine ap_tswIn (pc := 30) (off := 54) 84 dX8_ifFired_30 ⟨by omega, by omega⟩ (by omega) (by omega) (by rw [h30]; rfl) rfl ?_
        refine ap_ald_0 (pc := 84) dX8_ifFired_84 ?_
        refine ap_getR (pc := 85) dX8_ifFired_85 fl_RX8_26 sh_0 rfl ?_
        refine ap_getI (pc := 88) (jz := 4) dX8_ifFired_88 fl_RX8_197 sh_83 rfl rfl ?_
        try simp (disch := omega) only [am_same, am_k, am_j]
        exact ap_ireturn (pc := 91) dX8_ifFired_91 rfl ⟨by rw [y4]; simp (disch := omega) only [vIF, tV, if_pos, if_neg], yF⟩
      · skip
        refine ap_tswOut (pc := 30) 92 dX8_ifFired_30 ⟨by omega, by omega⟩ (by omega) rfl ?_
        refine ap_ald_0 (pc := 92) dX8_ifFired_92 ?_
        refine ap_getR (pc := 93) dX8_ifFired_93 fl_RX8_26 sh_0 rfl ?_
        refine ap_getI (pc := 96) (jz := 5) dX8_ifFired_96 fl_RX8_199 sh_83 rfl rfl ?_
        try simp (disch := omega) only [am_same, am_k, am_j]
        exact ap_ireturn (pc := 99) dX8_ifFired_99 rfl ⟨by rw [y5]; simp (disch := omega) only [vIF, tV, if_pos, if_neg], yF⟩
    · skip
      refine ap_if_ne (pc := 19) 24 dX8_ifFired_19 rfl ⟨by omega, by omega⟩ (fun c19 => absurd c19 (by decide)) (fun _ => ?_)
      refine ap_const (pc := 22) dX8_ifFired_22 ?_
      exact ap_ireturn (pc := 23) dX8_ifFired_23 rfl ⟨by simp (disch := omega) only [vIF, tV, if_pos, if_neg], fun _ _ _ => rfl⟩
  · skip
    refine ap_if_eq (pc := 10) 22 dX8_ifFired_10 rfl ⟨by omega, by omega⟩ (fun _ => ?_) (fun c10 => absurd c10 (by decide))
    refine ap_const (pc := 22) dX8_ifFired_22 ?_
    exact ap_ireturn (pc := 23) dX8_ifFired_23 rfl ⟨by simp (disch := omega) only [vIF, tV, if_pos, if_neg], fun _ _ _ => rfl⟩

set_option maxHeartbeats 4000000 in
theorem qX8_bestHeat (r : Int → Int) (m : AM) (wR : wfR r) (g : agB 1 r m) : CS 6 mX8_bestHeat [.inr 0] m (fun v m' => (∃ b : Int, v = some b ∧ isBest r b) ∧ ∀ (k : Nat) (j : Int), (k < 83 ∨ 91 ≤ k) → m' k j = m k j) := by
  refine cs_of (by decide +kernel) (Nat.le_of_ble_eq_true rfl) rfl ?_
  obtain ⟨gC, gP, gS, gW⟩ := ag1 g
  have h12 := wR.1.1
  have hm0 : m 2 3 = r 0 := gC.1
  have hm1 : 0 ≤ m 2 3 ∧ m 2 3 ≤ 12 := by rw [hm0]; exact h12
  have gcur := g
  refine ap_ald_0 (pc := 0) dX8_bestHeat_0 ?_
  refine ap_sipush (pc := 1) dX8_bestHeat_1 sp_500 ?_
  refine ap_invV (pc := 4) dX8_bestHeat_4 mv_RX8_202 sh_0 (av := [_]) (rest := []) (qX8_tryHeat _ r _ wR gcur (by omega)) rfl rfl (Nat.le_of_ble_eq_true rfl) (by decide) (by decide) ?_
  rintro _ m2 ⟨rfl, y1, y2, y3, y4, y5, yF⟩
  refine ap_sipush (pc := 7) dX8_bestHeat_7 sp_500 ?_
  refine ap_ist_1 (pc := 10) dX8_bestHeat_10 (by decide) ?_
  refine ap_ald_0 (pc := 11) dX8_bestHeat_11 ?_
  refine ap_getR (pc := 12) dX8_bestHeat_12 fl_RX8_26 sh_0 rfl ?_
  refine ap_getI (pc := 15) (jz := 1) dX8_bestHeat_15 fl_RX8_188 sh_83 rfl rfl ?_
  (try rw [y1]); (try rw [y2])
  refine ap_ist_2 (pc := 18) dX8_bestHeat_18 (by decide) ?_
  refine ap_const (pc := 19) dX8_bestHeat_19 ?_
  refine ap_ist_3 (pc := 20) dX8_bestHeat_20 (by decide) ?_
  have g5 : good r 500 := ⟨by omega, tB_500 wR⟩
  refine AP.bk (up_rec (r 0) (fun i => ∀ (b : Int) (mi : AM), good r b → (∀ k : Int, (k = 500 ∨ ∃ c : Int, (0 ≤ c ∧ c < i) ∧ k = meR r c) → good r k → tU r k < tU r b ∨ (tU r k = tU r b ∧ b ≤ k)) → (∀ (k : Nat) (j : Int), (k < 83 ∨ 91 ≤ k) → mi k j = m k j) → AP 6 mX8_bestHeat 21 [some (.inr 0), some (.inl b), some (.inl (tU r b)), some (.inl (i : Int)), none] [] mi (fun v m' => (∃ b : Int, v = some b ∧ isBest r b) ∧ ∀ (k : Nat) (j : Int), (k < 83 ∨ 91 ≤ k) → m' k j = m k j)) h12.1 (fun i hi ih b mi u1 u2 u3 => ?_) 500 _ g5 (fun k q _ => by
    rcases q with rfl | ⟨c, a, -⟩
    · exact Or.inr ⟨rfl, Int.le_refl _⟩
    · omega) yF) ⟨rfl, rfl, rfl, rfl, trivial, trivial⟩ rfl
  clear y1 y2 y3 y4 y5 yF gcur
  have gcur : agB 1 r mi := agB_frame (fun k j a b => u3 k j (by omega)) g
  have hz : mi 2 3 = r 0 := by rw [u3 2 3 (by omega)]; exact hm0
  have hub := tU_bd wR.2.1 b
  refine ap_ild_3 (pc := 21) dX8_bestHeat_21 ?_
  refine ap_ald_0 (pc := 22) dX8_bestHeat_22 ?_
  refine ap_getR (pc := 23) dX8_bestHeat_23 fl_RX8_10 sh_0 rfl ?_
  refine ap_getR (pc := 26) dX8_bestHeat_26 fl_RX8_59 sh_1 rfl ?_
  refine ap_getI (pc := 29) (jz := 3) dX8_bestHeat_29 fl_RX8_63 sh_2 rfl rfl ?_
  (try rw [y1]); (try rw [y2])
  refine ap_icmp_ge (pc := 32) 110 dX8_bestHeat_32 rfl ⟨by omega, by omega⟩ (by rw [hz]; constructor <;> omega) (fun c32 => ?_) (fun c32 => ?_)
  · skip
    rw [hz] at c32
    obtain rfl := nat_of h12.1 hi c32
    refine ap_ild_1 (pc := 110) dX8_bestHeat_110 ?_
    exact ap_ireturn (pc := 111) dX8_bestHeat_111 rfl ⟨⟨b, rfl, u1, fun h gh => by
    obtain ⟨k, k1, k2, k3, k4⟩ := cand wR gh
    have q := u2 k (by rw [show (((r 0).toNat : Nat) : Int) = r 0 by omega]; exact k1) k3
    omega⟩, u3⟩
  · skip
    rw [hz] at c32
    have hme : mi 3 i = meR r i := by rw [u3 3 i (by omega)]; exact (gC.2 i (by omega) c32).1
    have hmr := (wR.1.2 i (by omega) c32).1
    have hu2 := tU_bd wR.2.1 (meR r i)
    have hb2 := tB_bd wR.2.1 (meR r i)
    have hgb := u1.1
    refine ap_ald_0 (pc := 35) dX8_bestHeat_35 ?_
    refine ap_getR (pc := 36) dX8_bestHeat_36 fl_RX8_10 sh_0 rfl ?_
    refine ap_getR (pc := 39) dX8_bestHeat_39 fl_RX8_59 sh_1 rfl ?_
    refine ap_getR (pc := 42) dX8_bestHeat_42 fl_RX8_81 sh_2 rfl ?_
    refine ap_ild_3 (pc := 45) dX8_bestHeat_45 ?_
    refine ap_iaload (pc := 46) dX8_bestHeat_46 sh_3 (by omega) (by omega) (by decide) ?_
    (try rw [y1]); (try rw [y2])
    rw [hme]
    refine ap_ist_4 (pc := 47) dX8_bestHeat_47 (by decide) ?_
    refine ap_ald_0 (pc := 49) dX8_bestHeat_49 ?_
    refine ap_ild_4 (pc := 50) dX8_bestHeat_50 ?_
    refine ap_invV (pc := 52) dX8_bestHeat_52 mv_RX8_202 sh_0 (av := [_]) (rest := []) (qX8_tryHeat _ r _ wR gcur (by omega)) rfl rfl (Nat.le_of_ble_eq_true rfl) (by decide) (by decide) ?_
    rintro _ m2 ⟨rfl, y1, y2, y3, y4, y5, yF⟩
    refine ap_ald_0 (pc := 55) dX8_bestHeat_55 ?_
    refine ap_getR (pc := 56) dX8_bestHeat_56 fl_RX8_26 sh_0 rfl ?_
    refine ap_getI (pc := 59) (jz := 2) dX8_bestHeat_59 fl_RX8_194 sh_83 rfl rfl ?_
    (try rw [y1]); (try rw [y2])
    refine ap_if_ne (pc := 62) 104 dX8_bestHeat_62 rfl ⟨by omega, by omega⟩ (fun c62 => ?_) (fun c62 => ?_)
    · skip
      refine ap_iinc_3 (pc := 104) dX8_bestHeat_104 (by decide) ?_
      refine ap_goto (pc := 107) 21 dX8_bestHeat_107 rfl ?_
      exact (ih c32 b _ u1 (fun k q gk => by
          by_cases e : k = meR r i
          · have gB := gk.2
            clear q gk
            rw [e] at gB ⊢
            omega
          · exact u2 k (q.imp id (fun ⟨c, a, z⟩ => ⟨c, ⟨a.1, by
              by_cases ec : c = i
              · rw [ec] at z; exact absurd z e
              · omega⟩, z⟩)) gk) (fun k j a => by rw [yF k j a]; exact u3 k j a)).bk ⟨rfl, rfl, rfl, rfl, trivial, trivial⟩ rfl
    · skip
      refine ap_ald_0 (pc := 65) dX8_bestHeat_65 ?_
      refine ap_getR (pc := 66) dX8_bestHeat_66 fl_RX8_26 sh_0 rfl ?_
      refine ap_getI (pc := 69) (jz := 1) dX8_bestHeat_69 fl_RX8_188 sh_83 rfl rfl ?_
      (try rw [y1]); (try rw [y2])
      refine ap_ild_2 (pc := 72) dX8_bestHeat_72 ?_
      refine ap_icmp_gt (pc := 73) 93 dX8_bestHeat_73 rfl ⟨by omega, by omega⟩ ⟨by omega, by omega⟩ (fun c73 => ?_) (fun c73 => ?_)
      · skip
        refine ap_ild_4 (pc := 93) dX8_bestHeat_93 ?_
        refine ap_ist_1 (pc := 95) dX8_bestHeat_95 (by decide) ?_
        refine ap_ald_0 (pc := 96) dX8_bestHeat_96 ?_
        refine ap_getR (pc := 97) dX8_bestHeat_97 fl_RX8_26 sh_0 rfl ?_
        refine ap_getI (pc := 100) (jz := 1) dX8_bestHeat_100 fl_RX8_188 sh_83 rfl rfl ?_
        (try rw [y1]); (try rw [y2])
        refine ap_ist_2 (pc := 103) dX8_bestHeat_103 (by decide) ?_
        refine ap_iinc_3 (pc := 104) dX8_bestHeat_104 (by decide) ?_
        refine ap_goto (pc := 107) 21 dX8_bestHeat_107 rfl ?_
        exact (ih c32 (meR r i) _ ⟨by omega, c62⟩ (fun k q gk => by
            have gi : good r (meR r i) := ⟨by omega, c62⟩
            by_cases e : k = meR r i
            · rw [e]; exact Or.inr ⟨rfl, Int.le_refl _⟩
            · have := u2 k (q.imp id (fun ⟨c, a, z⟩ => ⟨c, ⟨a.1, by
                by_cases ec : c = i
                · rw [ec] at z; exact absurd z e
                · omega⟩, z⟩)) gk
              exact bst this (by first | exact Or.inl c73 | (refine Or.inr ⟨?_, ?_⟩ <;> omega))) (fun k j a => by rw [yF k j a]; exact u3 k j a)).bk ⟨rfl, rfl, rfl, rfl, trivial, trivial⟩ rfl
      · skip
        refine ap_ald_0 (pc := 76) dX8_bestHeat_76 ?_
        refine ap_getR (pc := 77) dX8_bestHeat_77 fl_RX8_26 sh_0 rfl ?_
        refine ap_getI (pc := 80) (jz := 1) dX8_bestHeat_80 fl_RX8_188 sh_83 rfl rfl ?_
        (try rw [y1]); (try rw [y2])
        refine ap_ild_2 (pc := 83) dX8_bestHeat_83 ?_
        refine ap_icmp_ne (pc := 84) 104 dX8_bestHeat_84 rfl (Or.inr ⟨⟨by omega, by omega⟩, ⟨by omega, by omega⟩⟩) (fun c84 => ?_) (fun c84 => ?_)
        · skip
          refine ap_iinc_3 (pc := 104) dX8_bestHeat_104 (by decide) ?_
          refine ap_goto (pc := 107) 21 dX8_bestHeat_107 rfl ?_
          exact (ih c32 b _ u1 (fun k q gk => by
              by_cases e : k = meR r i
              · have gB := gk.2
                clear q gk
                rw [e] at gB ⊢
                omega
              · exact u2 k (q.imp id (fun ⟨c, a, z⟩ => ⟨c, ⟨a.1, by
                  by_cases ec : c = i
                  · rw [ec] at z; exact absurd z e
                  · omega⟩, z⟩)) gk) (fun k j a => by rw [yF k j a]; exact u3 k j a)).bk ⟨rfl, rfl, rfl, rfl, trivial, trivial⟩ rfl
        · skip
          refine ap_ild_4 (pc := 87) dX8_bestHeat_87 ?_
          refine ap_ild_1 (pc := 89) dX8_bestHeat_89 ?_
          refine ap_icmp_ge (pc := 90) 104 dX8_bestHeat_90 rfl ⟨by omega, by omega⟩ (by have q := u1.1; constructor <;> omega) (fun c90 => ?_) (fun c90 => ?_)
          · skip
            refine ap_iinc_3 (pc := 104) dX8_bestHeat_104 (by decide) ?_
            refine ap_goto (pc := 107) 21 dX8_bestHeat_107 rfl ?_
            exact (ih c32 b _ u1 (fun k q gk => by
                by_cases e : k = meR r i
                · have gB := gk.2
                  clear q gk
                  rw [e] at gB ⊢
                  omega
                · exact u2 k (q.imp id (fun ⟨c, a, z⟩ => ⟨c, ⟨a.1, by
                    by_cases ec : c = i
                    · rw [ec] at z; exact absurd z e
                    · omega⟩, z⟩)) gk) (fun k j a => by rw [yF k j a]; exact u3 k j a)).bk ⟨rfl, rfl, rfl, rfl, trivial, trivial⟩ rfl
          · skip
            refine ap_ild_4 (pc := 93) dX8_bestHeat_93 ?_
            refine ap_ist_1 (pc := 95) dX8_bestHeat_95 (by decide) ?_
            refine ap_ald_0 (pc := 96) dX8_bestHeat_96 ?_
            refine ap_getR (pc := 97) dX8_bestHeat_97 fl_RX8_26 sh_0 rfl ?_
            refine ap_getI (pc := 100) (jz := 1) dX8_bestHeat_100 fl_RX8_188 sh_83 rfl rfl ?_
            (try rw [y1]); (try rw [y2])
            refine ap_ist_2 (pc := 103) dX8_bestHeat_103 (by decide) ?_
            refine ap_iinc_3 (pc := 104) dX8_bestHeat_104 (by decide) ?_
            refine ap_goto (pc := 107) 21 dX8_bestHeat_107 rfl ?_
            exact (ih c32 (meR r i) _ ⟨by omega, c62⟩ (fun k q gk => by
                have gi : good r (meR r i) := ⟨by omega, c62⟩
                by_cases e : k = meR r i
                · rw [e]; exact Or.inr ⟨rfl, Int.le_refl _⟩
                · have := u2 k (q.imp id (fun ⟨c, a, z⟩ => ⟨c, ⟨a.1, by
                    by_cases ec : c = i
                    · rw [ec] at z; exact absurd z e
                    · omega⟩, z⟩)) gk
                  exact bst this (by first | exact Or.inl c73 | (refine Or.inr ⟨?_, ?_⟩ <;> omega))) (fun k j a => by rw [yF k j a]; exact u3 k j a)).bk ⟨rfl, rfl, rfl, rfl, trivial, trivial⟩ rfl

