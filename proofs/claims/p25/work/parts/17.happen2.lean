set_option maxHeartbeats 4000000 in
theorem qX1_happen {p sz co st so cr : Nat} (hp : isPlate p sz co st so cr) (h mn lg : Int) (r : Int → Int) (m : AM) (hpp : p + 5 < 83 ∨ 84 < p) (hp1 : 16 < p ∨ p = 6) (hh : 500 ≤ h ∧ h ≤ 1200) (hmn : 1 ≤ mn ∧ mn ≤ 20) (hlgd : (mn ≥ r 114 ∧ lg = 1) ∨ (mn < r 114 ∧ lg = 0)) (wC : wfC r) (wP : wfP r) (wS : wfS r) (aP : agP sz co st so cr r m) (aC : agC 2 3 4 5 r m) (aS : agS 15 16 r m) : CS 4 mX1_happen [.inr 83, .inr 1, .inr p, .inl h, .inl mn] m (fun v m' => v = none ∧ cI sz co st so cr r h lg m 6 m') := by
  refine cs_of (by decide +kernel) (Nat.le_of_ble_eq_true rfl) rfl ?_
  have hpn := hp.n
  have hlg : lg = 0 ∨ lg = 1 := by omega
  have hs0 : m 15 0 = r 114 := aS.1 0 (by omega) (by omega)
  have hw14 := wS.1
  refine ap_ald_0 (pc := 0) dX1_happen_0 ?_
  refine ap_const (pc := 1) dX1_happen_1 ?_
  refine ap_putI (pc := 2) (jz := 1) dX1_happen_2 fn_RX1_15 sh_83 rfl rfl (fun z => by cases z) ?_
  refine ap_ald_0 (pc := 5) dX1_happen_5 ?_
  refine ap_const (pc := 6) dX1_happen_6 ?_
  refine ap_putI (pc := 7) (jz := 2) dX1_happen_7 fn_RX1_19 sh_83 rfl rfl (fun z => by cases z) ?_
  refine ap_ald_0 (pc := 10) dX1_happen_10 ?_
  refine ap_const (pc := 11) dX1_happen_11 ?_
  refine ap_putI (pc := 12) (jz := 3) dX1_happen_12 fn_RX1_22 sh_83 rfl rfl (fun z => by cases z) ?_
  refine ap_ald_0 (pc := 15) dX1_happen_15 ?_
  refine ap_const (pc := 16) dX1_happen_16 ?_
  refine ap_putI (pc := 17) (jz := 4) dX1_happen_17 fn_RX1_25 sh_83 rfl rfl (fun z => by cases z) ?_
  refine ap_ald_0 (pc := 20) dX1_happen_20 ?_
  refine ap_const (pc := 21) dX1_happen_21 ?_
  refine ap_putI (pc := 22) (jz := 5) dX1_happen_22 fn_RX1_28 sh_83 rfl rfl (fun z => by cases z) ?_
  refine ap_ild_4 (pc := 25) dX1_happen_25 ?_
  refine ap_ald_1 (pc := 27) dX1_happen_27 ?_
  refine ap_getR (pc := 28) dX1_happen_28 fl_RX1_31 sh_1 rfl ?_
  refine ap_const (pc := 31) dX1_happen_31 ?_
  refine ap_iaload (pc := 32) dX1_happen_32 sh_15 (by omega) (by omega) (by decide) ?_
  try simp (disch := omega) only [am_same, am_k, am_j]
  refine ap_icmp_lt (pc := 33) 40 dX1_happen_33 rfl ⟨by omega, by omega⟩ ⟨by omega, by omega⟩ (fun c33 => ?_) (fun c33 => ?_)
  · skip
    have elg : lg = 0 := by omega
    refine ap_const (pc := 40) dX1_happen_40 ?_
    refine ap_ist_5 (pc := 41) dX1_happen_41 (by decide) ?_
    refine ap_const (pc := 43) dX1_happen_43 ?_
    refine ap_ist_6 (pc := 44) dX1_happen_44 (by decide) ?_
    have hinit : hI sz co st so cr r h lg m ((0 : Nat) : Int) 0 (am_up (am_up (am_up (am_up (am_up m 83 1 0) 83 2 0) 83 3 0) 83 4 0) 83 5 0) := by
      refine ⟨fun k j a b c d => ?_, ?_, ?_, fun x y x0 x7 y0 yl => ⟨fun z => absurd z (by omega), fun _ => ?_⟩, ?_, ?_, ?_⟩
      · rw [am_k c, am_k c, am_k c, am_k c, am_k c]
      · simp (disch := omega) only [am_same, am_k, am_j]
      · simp (disch := omega) only [am_same, am_k, am_j]
      · simp (disch := omega) only [am_same, am_k, am_j]
        exact ⟨(aP.2.1 x y x0 x7 y0 yl).2.1, (aP.2.1 x y x0 x7 y0 yl).2.2⟩
      · simp (disch := omega) only [am_same, am_k, am_j]; rfl
      · simp (disch := omega) only [am_same, am_k, am_j]; rfl
      · simp (disch := omega) only [am_same, am_k, am_j]; rfl
    refine AP.bk (up_rec 7 (fun f => ∀ (mi : AM) (o7 : Option AV), hI sz co st so cr r h lg m f 0 mi → AP 4 mX1_happen 46 [some (.inr 83), some (.inr 1), some (.inr p), some (.inl h), some (.inl mn), some (.inl lg), some (.inl (f : Int)), o7] [] mi (fun v m' => v = none ∧ cI sz co st so cr r h lg m 6 m')) (by omega) (fun f hf7 ihf mi o7 hi0 => ?_) _ none hinit) ⟨rfl, rfl, rfl, rfl, rfl, by rw [elg], rfl, trivial, trivial⟩ rfl
    refine ap_ild_6 (pc := 46) dX1_happen_46 ?_
    refine ap_bipush (pc := 48) dX1_happen_48 bp_7 ?_
    refine ap_icmp_ge (pc := 50) 96 dX1_happen_50 rfl ⟨by omega, by omega⟩ ⟨by omega, by omega⟩ (fun c50 => ?_) (fun c50 => ?_)
    · skip
      refine ap_const (pc := 96) dX1_happen_96 ?_
      refine ap_ist_6 (pc := 97) dX1_happen_97 (by decide) ?_
      have hc0 : cI sz co st so cr r h lg m (0 : Nat) mi := by
        obtain ⟨i1, i2, i3, i4, i5, i6, i7⟩ := hi0
        have e7 : f = 7 := by omega
        subst e7
        refine ⟨⟨fun k j a b c d e => i1 k j a b c d, fun x y x0 x7 y0 yl => (i4 x y x0 x7 y0 yl).1 (by omega)⟩, fun x x0 x6 => ⟨fun z => absurd z (by omega), fun _ => ?_⟩, ?_, ?_, ?_, i2, i3⟩
        · rw [i1 cr x (by omega) (by omega) (by omega) (by omega)]; exact aP.2.2 x x0 x6
        · rw [i5]; exact Int.add_zero _
        · rw [i6]; exact Int.add_zero _
        · rw [i7]; exact Int.add_zero _
      refine AP.bk (up_rec 6 (fun f => ∀ mi : AM, cI sz co st so cr r h lg m f mi → AP 4 mX1_happen 99 [some (.inr 83), some (.inr 1), some (.inr p), some (.inl h), some (.inl mn), some (.inl lg), some (.inl (f : Int)), none] [] mi (fun v m' => v = none ∧ cI sz co st so cr r h lg m 6 m')) (by omega) (fun f hf6 ih6 mi hi => ?_) mi hc0) ⟨rfl, rfl, rfl, rfl, rfl, rfl, rfl, trivial, trivial⟩ rfl
      refine ap_ild_6 (pc := 99) dX1_happen_99 ?_
      refine ap_bipush (pc := 101) dX1_happen_101 bp_6 ?_
      refine ap_icmp_ge (pc := 103) 127 dX1_happen_103 rfl ⟨by omega, by omega⟩ ⟨by omega, by omega⟩ (fun c103 => ?_) (fun c103 => ?_)
      · skip
        have e6 : f = 6 := by omega
        subst e6
        exact ap_return (pc := 127) dX1_happen_127 rfl ⟨rfl, hi⟩
      · skip
        have F0 := gI_facts hp hpp hp1 wC wP wS aP aC aS hi.1
        have hk0 : mi cr f = 0 ∨ mi cr f = 1 := by rw [(hi.2.1 f (by omega) c103).2 (by omega)]; exact (wP.1 f (by omega) (by omega)).2
        have hg0 : ∀ l : Int, 0 ≤ l → l < mi sz f → mi 84 ((f : Int) * 3 + l) = 0 ∨ mi 84 ((f : Int) * 3 + l) = 1 := fun l a b => by
          rw [F0.1 f (by omega) (by omega)] at b
          rw [(hi.1.2 f l (by omega) (by omega) a b).2.2]; exact fGv_01 _ _ _ _ _
        refine ap_ald_0 (pc := 106) dX1_happen_106 ?_
        refine ap_ald_2 (pc := 107) dX1_happen_107 ?_
        refine ap_ild_6 (pc := 108) dX1_happen_108 ?_
        refine ap_invV (pc := 110) dX1_happen_110 mv_RX1_50 sh_83 (av := [_, _]) (rest := []) (qX1_mendField hp _ _ hpp (by omega) (by omega) (F0.2.1 _ (by omega) (by omega)) hk0 hg0) rfl rfl (Nat.le_of_ble_eq_true rfl) (by decide) (by decide) ?_
        rintro _ m1 ⟨rfl, e1⟩
        obtain ⟨g1, hk1⟩ : gI sz co st so cr r h lg m m1 ∧ (m1 cr f = 0 ∨ m1 cr f = 1) := by
          rcases e1 with ⟨z, rfl⟩ | ⟨z, rfl⟩
          · exact ⟨gI_up hp hpp (gI_up hp hpp hi.1 (Or.inl rfl)) (Or.inr rfl), Or.inl (by rw [am_k (by omega), am_same])⟩
          · exact ⟨hi.1, hk0⟩
        have F1 := gI_facts hp hpp hp1 wC wP wS aP aC aS g1
        have hs1 : 0 ≤ m1 15 2 ∧ m1 15 2 ≤ 400 := by rw [F1.2.2.2.2.2]; exact wS.2.2.1
        refine ap_ald_0 (pc := 113) dX1_happen_113 ?_
        refine ap_ald_1 (pc := 114) dX1_happen_114 ?_
        refine ap_ald_2 (pc := 115) dX1_happen_115 ?_
        refine ap_ild_6 (pc := 116) dX1_happen_116 ?_
        refine ap_invV (pc := 118) dX1_happen_118 mv_RX1_54 sh_83 (av := [_, _, _]) (rest := []) (qX1_coolField hp _ _ hpp (by omega) (by omega) hk1 hs1 F1.2.1 F1.2.2.1 F1.2.2.2.1) rfl rfl (Nat.le_of_ble_eq_true rfl) (by decide) (by decide) ?_
        rintro _ m2 ⟨rfl, e2⟩
        have hc2 := cI_step hp hpp hp1 c103 wC wP wS aP aC aS hi e1 e2
        refine ap_iinc_6 (pc := 121) dX1_happen_121 (by decide) ?_
        refine ap_goto (pc := 124) 99 dX1_happen_124 rfl ?_
        exact (ih6 c103 m2 hc2).bk ⟨rfl, rfl, rfl, rfl, rfl, rfl, rfl, trivial, trivial⟩ rfl
    · skip
      refine ap_const (pc := 53) dX1_happen_53 ?_
      refine ap_ist_7 (pc := 54) dX1_happen_54 (by decide) ?_
      have hszf : ∀ (mj : AM) (x y : Int), hI sz co st so cr r h lg m x y mj → mj sz f = szR r f := fun mj x y q => by rw [q.1 sz _ (by omega) (by omega) (by omega) (by omega)]; exact aP.1 f (by omega) c50
      refine up_rec (szR r f) (fun l => ∀ mi : AM, hI sz co st so cr r h lg m f l mi → AP 4 mX1_happen 56 [some (.inr 83), some (.inr 1), some (.inr p), some (.inl h), some (.inl mn), some (.inl lg), some (.inl (f : Int)), some (.inl (l : Int))] [] mi (fun v m' => v = none ∧ cI sz co st so cr r h lg m 6 m')) (wP.1 f (by omega) c50).1.1 (fun l hl3 ihl mi hi => ?_) _ hi0
      have hzz := hszf mi _ _ hi
      have hz3 := (wP.1 f (by omega) c50).1
      refine ap_ild_7 (pc := 56) dX1_happen_56 ?_
      refine ap_ald_2 (pc := 58) dX1_happen_58 ?_
      refine ap_getR (pc := 59) dX1_happen_59 fl_RX1_37 hp.o rfl ?_
      refine ap_ild_6 (pc := 62) dX1_happen_62 ?_
      refine ap_iaload (pc := 64) dX1_happen_64 hp.a (by omega) (by omega) (by decide) ?_
      try simp (disch := omega) only [am_same, am_k, am_j]
      refine ap_icmp_ge (pc := 65) 90 dX1_happen_65 rfl ⟨by omega, by omega⟩ ⟨by omega, by omega⟩ (fun c65 => ?_) (fun c65 => ?_)
      · skip
        rw [hzz] at c65
        have hll : (l : Int) = szR r f := by omega
        rw [hll] at hi
        have hnx := hI_next wP c50 hi
        refine ap_iinc_6 (pc := 90) dX1_happen_90 (by decide) ?_
        refine ap_goto (pc := 93) 46 dX1_happen_93 rfl ?_
        exact (ihf (by omega) _ none hnx).bk ⟨rfl, rfl, rfl, rfl, rfl, rfl, rfl, trivial, trivial⟩ rfl
      · skip
        rw [hzz] at c65
        have hL := wP.2 f l (by omega) c50 (by omega) c65
        have hA := aP.2.1 f l (by omega) c50 (by omega) c65
        have hcoe : mi co ((f : Int) * 3 + l) = coR r f l := by rw [hi.1 co _ (by omega) (by omega) (by omega) (by omega)]; exact hA.1
        have h4 := (hi.2.2.2.1 f l (by omega) c50 (by omega) c65).2 (by omega)
        have hcc := wC.2 _ hL.1.1 hL.1.2
        have hca := aC.2 _ hL.1.1 hL.1.2
        have hM3 : mi 3 (coR r f l) = meR r (coR r f l) := by rw [hi.1 3 _ (by omega) (by omega) (by omega) (by omega)]; exact hca.1
        have hB4 : mi 4 (coR r f l) = buR r (coR r f l) := by rw [hi.1 4 _ (by omega) (by omega) (by omega) (by omega)]; exact hca.2.1
        have h12 := wC.1
        have hw17 := wS.2.2.2.1
        have hf1 : 0 ≤ mi st ((f : Int) * 3 + l) ∧ mi st ((f : Int) * 3 + l) ≤ 4 := by rw [h4.1]; exact hL.2.1
        have hf2 : 0 ≤ mi so ((f : Int) * 3 + l) ∧ mi so ((f : Int) * 3 + l) ≤ 1999 := by rw [h4.2]; exact ⟨hL.2.2.1.1, by omega⟩
        have hf3 : 0 ≤ mi 15 1 ∧ mi 15 1 ≤ 5 := by rw [hi.1 15 _ (by omega) (by omega) (by omega) (by omega), aS.1 1 (by omega) (by omega)]; exact wS.2.1
        have hf4 : 0 ≤ mi co ((f : Int) * 3 + l) ∧ mi co ((f : Int) * 3 + l) < 12 := by rw [hcoe]; exact ⟨hL.1.1, by omega⟩
        have hf5 : 600 ≤ mi 3 (mi co ((f : Int) * 3 + l)) ∧ mi 3 (mi co ((f : Int) * 3 + l)) ≤ 900 := by rw [hcoe, hM3]; exact hcc.1
        have hf6 : mi 3 (mi co ((f : Int) * 3 + l)) + 10 ≤ mi 4 (mi co ((f : Int) * 3 + l)) ∧ mi 4 (mi co ((f : Int) * 3 + l)) ≤ mi 3 (mi co ((f : Int) * 3 + l)) + 200 := by rw [hcoe, hM3, hB4]; exact hcc.2.1
        refine ap_ald_0 (pc := 68) dX1_happen_68 ?_
        refine ap_ald_1 (pc := 69) dX1_happen_69 ?_
        refine ap_ald_2 (pc := 70) dX1_happen_70 ?_
        refine ap_ild_6 (pc := 71) dX1_happen_71 ?_
        refine ap_ild_7 (pc := 73) dX1_happen_73 ?_
        refine ap_invS (pc := 75) dX1_happen_75 ms_RX1_42 (av := [_, _]) (rest := [_, _, _]) (qX8_placeOf _ _ _) rfl rfl (Nat.le_of_ble_eq_true rfl) (by decide) (by decide) ?_
        rintro _ _ ⟨rfl, rfl⟩
        refine ap_ild_3 (pc := 78) dX1_happen_78 ?_
        refine ap_ild_5 (pc := 79) dX1_happen_79 ?_
        refine ap_invV (pc := 81) dX1_happen_81 mv_RX1_46 sh_83 (av := [_, _, _, _, _]) (rest := []) (qX1_heatLayer hp _ _ _ _ hpp (by omega) (by omega) (by omega) hh hlg hf1 hf2 hf3 hf4 hf5 hf6) rfl rfl (Nat.le_of_ble_eq_true rfl) (by decide) (by decide) ?_
        rintro _ m2 ⟨rfl, hm2⟩
        have hI2 := hI_step hp hpp hp1 wP aP aC aS c50 c65 hi hm2
        refine ap_iinc_7 (pc := 84) dX1_happen_84 (by decide) ?_
        refine ap_goto (pc := 87) 56 dX1_happen_87 rfl ?_
        exact (ihl c65 m2 hI2).bk ⟨rfl, rfl, rfl, rfl, rfl, rfl, rfl, rfl, trivial⟩ rfl
  · skip
    have elg : lg = 1 := by omega
    refine ap_const (pc := 36) dX1_happen_36 ?_
    refine ap_goto (pc := 37) 41 dX1_happen_37 rfl ?_
    refine ap_ist_5 (pc := 41) dX1_happen_41 (by decide) ?_
    refine ap_const (pc := 43) dX1_happen_43 ?_
    refine ap_ist_6 (pc := 44) dX1_happen_44 (by decide) ?_
    have hinit : hI sz co st so cr r h lg m ((0 : Nat) : Int) 0 (am_up (am_up (am_up (am_up (am_up m 83 1 0) 83 2 0) 83 3 0) 83 4 0) 83 5 0) := by
      refine ⟨fun k j a b c d => ?_, ?_, ?_, fun x y x0 x7 y0 yl => ⟨fun z => absurd z (by omega), fun _ => ?_⟩, ?_, ?_, ?_⟩
      · rw [am_k c, am_k c, am_k c, am_k c, am_k c]
      · simp (disch := omega) only [am_same, am_k, am_j]
      · simp (disch := omega) only [am_same, am_k, am_j]
      · simp (disch := omega) only [am_same, am_k, am_j]
        exact ⟨(aP.2.1 x y x0 x7 y0 yl).2.1, (aP.2.1 x y x0 x7 y0 yl).2.2⟩
      · simp (disch := omega) only [am_same, am_k, am_j]; rfl
      · simp (disch := omega) only [am_same, am_k, am_j]; rfl
      · simp (disch := omega) only [am_same, am_k, am_j]; rfl
    refine AP.bk (up_rec 7 (fun f => ∀ (mi : AM) (o7 : Option AV), hI sz co st so cr r h lg m f 0 mi → AP 4 mX1_happen 46 [some (.inr 83), some (.inr 1), some (.inr p), some (.inl h), some (.inl mn), some (.inl lg), some (.inl (f : Int)), o7] [] mi (fun v m' => v = none ∧ cI sz co st so cr r h lg m 6 m')) (by omega) (fun f hf7 ihf mi o7 hi0 => ?_) _ none hinit) ⟨rfl, rfl, rfl, rfl, rfl, by rw [elg], rfl, trivial, trivial⟩ rfl
    refine ap_ild_6 (pc := 46) dX1_happen_46 ?_
    refine ap_bipush (pc := 48) dX1_happen_48 bp_7 ?_
    refine ap_icmp_ge (pc := 50) 96 dX1_happen_50 rfl ⟨by omega, by omega⟩ ⟨by omega, by omega⟩ (fun c50 => ?_) (fun c50 => ?_)
    · skip
      refine ap_const (pc := 96) dX1_happen_96 ?_
      refine ap_ist_6 (pc := 97) dX1_happen_97 (by decide) ?_
      have hc0 : cI sz co st so cr r h lg m (0 : Nat) mi := by
        obtain ⟨i1, i2, i3, i4, i5, i6, i7⟩ := hi0
        have e7 : f = 7 := by omega
        subst e7
        refine ⟨⟨fun k j a b c d e => i1 k j a b c d, fun x y x0 x7 y0 yl => (i4 x y x0 x7 y0 yl).1 (by omega)⟩, fun x x0 x6 => ⟨fun z => absurd z (by omega), fun _ => ?_⟩, ?_, ?_, ?_, i2, i3⟩
        · rw [i1 cr x (by omega) (by omega) (by omega) (by omega)]; exact aP.2.2 x x0 x6
        · rw [i5]; exact Int.add_zero _
        · rw [i6]; exact Int.add_zero _
        · rw [i7]; exact Int.add_zero _
      refine AP.bk (up_rec 6 (fun f => ∀ mi : AM, cI sz co st so cr r h lg m f mi → AP 4 mX1_happen 99 [some (.inr 83), some (.inr 1), some (.inr p), some (.inl h), some (.inl mn), some (.inl lg), some (.inl (f : Int)), none] [] mi (fun v m' => v = none ∧ cI sz co st so cr r h lg m 6 m')) (by omega) (fun f hf6 ih6 mi hi => ?_) mi hc0) ⟨rfl, rfl, rfl, rfl, rfl, rfl, rfl, trivial, trivial⟩ rfl
      refine ap_ild_6 (pc := 99) dX1_happen_99 ?_
      refine ap_bipush (pc := 101) dX1_happen_101 bp_6 ?_
      refine ap_icmp_ge (pc := 103) 127 dX1_happen_103 rfl ⟨by omega, by omega⟩ ⟨by omega, by omega⟩ (fun c103 => ?_) (fun c103 => ?_)
      · skip
        have e6 : f = 6 := by omega
        subst e6
        exact ap_return (pc := 127) dX1_happen_127 rfl ⟨rfl, hi⟩
      · skip
        have F0 := gI_facts hp hpp hp1 wC wP wS aP aC aS hi.1
        have hk0 : mi cr f = 0 ∨ mi cr f = 1 := by rw [(hi.2.1 f (by omega) c103).2 (by omega)]; exact (wP.1 f (by omega) (by omega)).2
        have hg0 : ∀ l : Int, 0 ≤ l → l < mi sz f → mi 84 ((f : Int) * 3 + l) = 0 ∨ mi 84 ((f : Int) * 3 + l) = 1 := fun l a b => by
          rw [F0.1 f (by omega) (by omega)] at b
          rw [(hi.1.2 f l (by omega) (by omega) a b).2.2]; exact fGv_01 _ _ _ _ _
        refine ap_ald_0 (pc := 106) dX1_happen_106 ?_
        refine ap_ald_2 (pc := 107) dX1_happen_107 ?_
        refine ap_ild_6 (pc := 108) dX1_happen_108 ?_
        refine ap_invV (pc := 110) dX1_happen_110 mv_RX1_50 sh_83 (av := [_, _]) (rest := []) (qX1_mendField hp _ _ hpp (by omega) (by omega) (F0.2.1 _ (by omega) (by omega)) hk0 hg0) rfl rfl (Nat.le_of_ble_eq_true rfl) (by decide) (by decide) ?_
        rintro _ m1 ⟨rfl, e1⟩
        obtain ⟨g1, hk1⟩ : gI sz co st so cr r h lg m m1 ∧ (m1 cr f = 0 ∨ m1 cr f = 1) := by
          rcases e1 with ⟨z, rfl⟩ | ⟨z, rfl⟩
          · exact ⟨gI_up hp hpp (gI_up hp hpp hi.1 (Or.inl rfl)) (Or.inr rfl), Or.inl (by rw [am_k (by omega), am_same])⟩
          · exact ⟨hi.1, hk0⟩
        have F1 := gI_facts hp hpp hp1 wC wP wS aP aC aS g1
        have hs1 : 0 ≤ m1 15 2 ∧ m1 15 2 ≤ 400 := by rw [F1.2.2.2.2.2]; exact wS.2.2.1
        refine ap_ald_0 (pc := 113) dX1_happen_113 ?_
        refine ap_ald_1 (pc := 114) dX1_happen_114 ?_
        refine ap_ald_2 (pc := 115) dX1_happen_115 ?_
        refine ap_ild_6 (pc := 116) dX1_happen_116 ?_
        refine ap_invV (pc := 118) dX1_happen_118 mv_RX1_54 sh_83 (av := [_, _, _]) (rest := []) (qX1_coolField hp _ _ hpp (by omega) (by omega) hk1 hs1 F1.2.1 F1.2.2.1 F1.2.2.2.1) rfl rfl (Nat.le_of_ble_eq_true rfl) (by decide) (by decide) ?_
        rintro _ m2 ⟨rfl, e2⟩
        have hc2 := cI_step hp hpp hp1 c103 wC wP wS aP aC aS hi e1 e2
        refine ap_iinc_6 (pc := 121) dX1_happen_121 (by decide) ?_
        refine ap_goto (pc := 124) 99 dX1_happen_124 rfl ?_
        exact (ih6 c103 m2 hc2).bk ⟨rfl, rfl, rfl, rfl, rfl, rfl, rfl, trivial, trivial⟩ rfl
    · skip
      refine ap_const (pc := 53) dX1_happen_53 ?_
      refine ap_ist_7 (pc := 54) dX1_happen_54 (by decide) ?_
      have hszf : ∀ (mj : AM) (x y : Int), hI sz co st so cr r h lg m x y mj → mj sz f = szR r f := fun mj x y q => by rw [q.1 sz _ (by omega) (by omega) (by omega) (by omega)]; exact aP.1 f (by omega) c50
      refine up_rec (szR r f) (fun l => ∀ mi : AM, hI sz co st so cr r h lg m f l mi → AP 4 mX1_happen 56 [some (.inr 83), some (.inr 1), some (.inr p), some (.inl h), some (.inl mn), some (.inl lg), some (.inl (f : Int)), some (.inl (l : Int))] [] mi (fun v m' => v = none ∧ cI sz co st so cr r h lg m 6 m')) (wP.1 f (by omega) c50).1.1 (fun l hl3 ihl mi hi => ?_) _ hi0
      have hzz := hszf mi _ _ hi
      have hz3 := (wP.1 f (by omega) c50).1
      refine ap_ild_7 (pc := 56) dX1_happen_56 ?_
      refine ap_ald_2 (pc := 58) dX1_happen_58 ?_
      refine ap_getR (pc := 59) dX1_happen_59 fl_RX1_37 hp.o rfl ?_
      refine ap_ild_6 (pc := 62) dX1_happen_62 ?_
      refine ap_iaload (pc := 64) dX1_happen_64 hp.a (by omega) (by omega) (by decide) ?_
      try simp (disch := omega) only [am_same, am_k, am_j]
      refine ap_icmp_ge (pc := 65) 90 dX1_happen_65 rfl ⟨by omega, by omega⟩ ⟨by omega, by omega⟩ (fun c65 => ?_) (fun c65 => ?_)
      · skip
        rw [hzz] at c65
        have hll : (l : Int) = szR r f := by omega
        rw [hll] at hi
        have hnx := hI_next wP c50 hi
        refine ap_iinc_6 (pc := 90) dX1_happen_90 (by decide) ?_
        refine ap_goto (pc := 93) 46 dX1_happen_93 rfl ?_
        exact (ihf (by omega) _ none hnx).bk ⟨rfl, rfl, rfl, rfl, rfl, rfl, rfl, trivial, trivial⟩ rfl
      · skip
        rw [hzz] at c65
        have hL := wP.2 f l (by omega) c50 (by omega) c65
        have hA := aP.2.1 f l (by omega) c50 (by omega) c65
        have hcoe : mi co ((f : Int) * 3 + l) = coR r f l := by rw [hi.1 co _ (by omega) (by omega) (by omega) (by omega)]; exact hA.1
        have h4 := (hi.2.2.2.1 f l (by omega) c50 (by omega) c65).2 (by omega)
        have hcc := wC.2 _ hL.1.1 hL.1.2
        have hca := aC.2 _ hL.1.1 hL.1.2
        have hM3 : mi 3 (coR r f l) = meR r (coR r f l) := by rw [hi.1 3 _ (by omega) (by omega) (by omega) (by omega)]; exact hca.1
        have hB4 : mi 4 (coR r f l) = buR r (coR r f l) := by rw [hi.1 4 _ (by omega) (by omega) (by omega) (by omega)]; exact hca.2.1
        have h12 := wC.1
        have hw17 := wS.2.2.2.1
        have hf1 : 0 ≤ mi st ((f : Int) * 3 + l) ∧ mi st ((f : Int) * 3 + l) ≤ 4 := by rw [h4.1]; exact hL.2.1
        have hf2 : 0 ≤ mi so ((f : Int) * 3 + l) ∧ mi so ((f : Int) * 3 + l) ≤ 1999 := by rw [h4.2]; exact ⟨hL.2.2.1.1, by omega⟩
        have hf3 : 0 ≤ mi 15 1 ∧ mi 15 1 ≤ 5 := by rw [hi.1 15 _ (by omega) (by omega) (by omega) (by omega), aS.1 1 (by omega) (by omega)]; exact wS.2.1
        have hf4 : 0 ≤ mi co ((f : Int) * 3 + l) ∧ mi co ((f : Int) * 3 + l) < 12 := by rw [hcoe]; exact ⟨hL.1.1, by omega⟩
        have hf5 : 600 ≤ mi 3 (mi co ((f : Int) * 3 + l)) ∧ mi 3 (mi co ((f : Int) * 3 + l)) ≤ 900 := by rw [hcoe, hM3]; exact hcc.1
        have hf6 : mi 3 (mi co ((f : Int) * 3 + l)) + 10 ≤ mi 4 (mi co ((f : Int) * 3 + l)) ∧ mi 4 (mi co ((f : Int) * 3 + l)) ≤ mi 3 (mi co ((f : Int) * 3 + l)) + 200 := by rw [hcoe, hM3, hB4]; exact hcc.2.1
        refine ap_ald_0 (pc := 68) dX1_happen_68 ?_
        refine ap_ald_1 (pc := 69) dX1_happen_69 ?_
        refine ap_ald_2 (pc := 70) dX1_happen_70 ?_
        refine ap_ild_6 (pc := 71) dX1_happen_71 ?_
        refine ap_ild_7 (pc := 73) dX1_happen_73 ?_
        refine ap_invS (pc := 75) dX1_happen_75 ms_RX1_42 (av := [_, _]) (rest := [_, _, _]) (qX8_placeOf _ _ _) rfl rfl (Nat.le_of_ble_eq_true rfl) (by decide) (by decide) ?_
        rintro _ _ ⟨rfl, rfl⟩
        refine ap_ild_3 (pc := 78) dX1_happen_78 ?_
        refine ap_ild_5 (pc := 79) dX1_happen_79 ?_
        refine ap_invV (pc := 81) dX1_happen_81 mv_RX1_46 sh_83 (av := [_, _, _, _, _]) (rest := []) (qX1_heatLayer hp _ _ _ _ hpp (by omega) (by omega) (by omega) hh hlg hf1 hf2 hf3 hf4 hf5 hf6) rfl rfl (Nat.le_of_ble_eq_true rfl) (by decide) (by decide) ?_
        rintro _ m2 ⟨rfl, hm2⟩
        have hI2 := hI_step hp hpp hp1 wP aP aC aS c50 c65 hi hm2
        refine ap_iinc_7 (pc := 84) dX1_happen_84 (by decide) ?_
        refine ap_goto (pc := 87) 56 dX1_happen_87 rfl ?_
        exact (ihl c65 m2 hI2).bk ⟨rfl, rfl, rfl, rfl, rfl, rfl, rfl, rfl, trivial⟩ rfl

