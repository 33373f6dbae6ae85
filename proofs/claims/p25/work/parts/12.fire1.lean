
/-- what a layer's firing writes -/
def hlM (m : AM) (st so : Nat) (i ns no gv ds db dd : Int) : AM := fun k j => if k = st ∧ j = i then ns else if k = so ∧ j = i then no else if k = 84 ∧ j = i then gv else if k = 83 ∧ j = 1 then m 83 1 + ds else if k = 83 ∧ j = 2 then m 83 2 + db else if k = 83 ∧ j = 3 then m 83 3 + dd else m k j
def fSt (h lg a M B s so : Int) : Int := if s = 4 then 4 else if h > B then 4 else if holds s then (if h ≥ M - 20 ∧ so + 1 > a ∧ s ≠ 3 then 3 else s) else if h ≥ M ∧ lg = 1 then 2 else if h ≥ M - 40 then 1 else s
def fSo (h M B s so : Int) : Int := if s ≠ 4 ∧ h ≤ B ∧ holds s ∧ h ≥ M - 20 then so + 1 else so
def fGv (h lg M B s : Int) : Int := if s ≠ 4 ∧ h ≤ B ∧ ((holds s ∧ h ≥ M - 20) ∨ (¬ holds s ∧ h ≥ M ∧ lg = 1)) then 1 else 0
def fdS (h lg M B s : Int) : Int := if s ≠ 4 ∧ h ≤ B ∧ ¬ holds s ∧ h ≥ M ∧ lg = 1 then 1 else 0
def fdB (h B s : Int) : Int := if s ≠ 4 ∧ h > B then 1 else 0
def fdD (h a M B s so : Int) : Int := if s ≠ 4 ∧ h ≤ B ∧ holds s ∧ h ≥ M - 20 ∧ so + 1 > a ∧ s ≠ 3 then 1 else 0
set_option maxHeartbeats 4000000 in
theorem qX5_hasHold {p sz co st so cr : Nat} (hp : isPlate p sz co st so cr) (f : Int) (m : AM) (h0 : 0 ≤ f) (h1 : f < 7) (hn : 0 ≤ m sz f ∧ m sz f ≤ 3) (hC : ∀ l : Int, 0 ≤ l → l < m sz f → 0 ≤ m st (f * 3 + l) ∧ m st (f * 3 + l) ≤ 4) : CS 1 mX5_hasHold [.inr p, .inl f] m (yn (∃ l : Int, 0 ≤ l ∧ l < m sz f ∧ holds (m st (f * 3 + l))) m) := by
  refine cs_of (by decide +kernel) (Nat.le_of_ble_eq_true rfl) rfl ?_
  refine ap_const (pc := 0) dX5_hasHold_0 ?_
  refine ap_ist_2 (pc := 1) dX5_hasHold_1 (by decide) ?_
  refine up_rec (m sz f) (fun i => (∀ l : Int, 0 ≤ l → l < i → ¬ holds (m st (f * 3 + l))) → AP 1 mX5_hasHold 2 [some (.inr p), some (.inl f), some (.inl (i : Int))] [] m _) hn.1 (fun i hi ih hno => ?_) (fun l a b => by omega)
  refine ap_ild_2 (pc := 2) dX5_hasHold_2 ?_
  refine ap_ald_0 (pc := 3) dX5_hasHold_3 ?_
  refine ap_getR (pc := 4) dX5_hasHold_4 fl_RX5_9 hp.o rfl ?_
  refine ap_ild_1 (pc := 7) dX5_hasHold_7 ?_
  refine ap_iaload (pc := 8) dX5_hasHold_8 hp.a (by omega) (by omega) (by decide) ?_
  refine ap_icmp_ge (pc := 9) 32 dX5_hasHold_9 rfl ⟨by omega, by omega⟩ ⟨by omega, by omega⟩ (fun c9 => ?_) (fun c9 => ?_)
  · skip
    refine ap_const (pc := 32) dX5_hasHold_32 ?_
    exact ap_zreturn (pc := 33) dX5_hasHold_33 rfl (by decide) ⟨Or.inr ⟨fun ⟨l, a, b, c⟩ => hno l a (by omega) c, rfl⟩, rfl⟩
  · skip
    have hst := hC (i : Int) (by omega) c9
    refine ap_ald_0 (pc := 12) dX5_hasHold_12 ?_
    refine ap_ild_1 (pc := 13) dX5_hasHold_13 ?_
    refine ap_ild_2 (pc := 14) dX5_hasHold_14 ?_
    refine ap_invS (pc := 15) dX5_hasHold_15 ms_RX5_27 (av := [_, _]) (rest := [_]) (qX8_placeOf _ _ _) rfl rfl (Nat.le_of_ble_eq_true rfl) (by decide) (by decide) ?_
    rintro _ _ ⟨rfl, rfl⟩
    refine ap_invV (pc := 18) dX5_hasHold_18 mv_RX5_35 hp.o (av := [_]) (rest := []) (qX5_holdsOn hp _ _ (by omega) (by omega) hst) rfl rfl (Nat.le_of_ble_eq_true rfl) (by decide) (by decide) ?_
    rintro _ _ ⟨⟨w18, rfl⟩ | ⟨w18, rfl⟩, rfl⟩
    · skip
      refine ap_if_eq (pc := 21) 26 dX5_hasHold_21 rfl ⟨by omega, by omega⟩ (fun c21 => absurd c21 (by decide)) (fun _ => ?_)
      refine ap_const (pc := 24) dX5_hasHold_24 ?_
      exact ap_zreturn (pc := 25) dX5_hasHold_25 rfl (by decide) ⟨Or.inl ⟨⟨(i : Int), by omega, c9, w18⟩, rfl⟩, rfl⟩
    · skip
      refine ap_if_eq (pc := 21) 26 dX5_hasHold_21 rfl ⟨by omega, by omega⟩ (fun _ => ?_) (fun c21 => absurd c21 (by decide))
      refine ap_iinc_2 (pc := 26) dX5_hasHold_26 (by decide) ?_
      refine ap_goto (pc := 29) 2 dX5_hasHold_29 rfl ?_
      exact (ih c9 (fun l a b => by
          rcases (by omega : l < (i : Int) ∨ l = (i : Int)) with z | z
          · exact hno l a z
          · rw [z]; exact w18)).bk ⟨rfl, rfl, rfl, trivial⟩ rfl

set_option maxHeartbeats 4000000 in
theorem qX1_soften {p sz co st so cr : Nat} (hp : isPlate p sz co st so cr) (i a : Int) (m : AM) (hpp : p + 5 < 83 ∨ 84 < p) (h0 : 0 ≤ i) (h1 : i < 21) (hs : 0 ≤ m st i ∧ m st i ≤ 4) (hso : 0 ≤ m so i ∧ m so i ≤ 2000) (ha : 0 ≤ a ∧ a ≤ 5) : CS 0 mX1_soften [.inr 83, .inr p, .inl i, .inl a] m (fun v m' => v = none ∧ m' = hlM m st so i (if m so i + 1 > a ∧ m st i ≠ 3 then 3 else m st i) (m so i + 1) 1 0 0 (if m so i + 1 > a ∧ m st i ≠ 3 then 1 else 0)) := by
  refine cs_of (by decide +kernel) (Nat.le_of_ble_eq_true rfl) rfl ?_
  have hpn := hp.n
  refine ap_ald_0 (pc := 0) dX1_soften_0 ?_
  refine ap_getR (pc := 1) dX1_soften_1 fl_RX1_9 sh_83 rfl ?_
  refine ap_ild_2 (pc := 4) dX1_soften_4 ?_
  refine ap_const (pc := 5) dX1_soften_5 ?_
  refine ap_bastore (pc := 6) dX1_soften_6 sh_84 (by omega) (by omega) (by decide) (by decide) ?_
  refine ap_ald_1 (pc := 7) dX1_soften_7 ?_
  refine ap_getR (pc := 8) dX1_soften_8 fl_RX1_84 hp.o rfl ?_
  refine ap_ild_2 (pc := 11) dX1_soften_11 ?_
  refine ap_dup2 (pc := 12) dX1_soften_12 ?_
  refine ap_iaload (pc := 13) dX1_soften_13 hp.d (by omega) (by omega) (by decide) ?_
  try simp (disch := omega) only [am_same, am_k, am_j]
  refine ap_const (pc := 14) dX1_soften_14 ?_
  refine ap_iadd (pc := 15) dX1_soften_15 ?_
  refine ap_iastore (pc := 16) dX1_soften_16 hp.d (by omega) (by omega) (by decide) ?_
  refine ap_ald_1 (pc := 17) dX1_soften_17 ?_
  refine ap_getR (pc := 18) dX1_soften_18 fl_RX1_84 hp.o rfl ?_
  refine ap_ild_2 (pc := 21) dX1_soften_21 ?_
  refine ap_iaload (pc := 22) dX1_soften_22 hp.d (by omega) (by omega) (by decide) ?_
  try simp (disch := omega) only [am_same, am_k, am_j]
  refine ap_ild_3 (pc := 23) dX1_soften_23 ?_
  refine ap_icmp_le (pc := 24) 54 dX1_soften_24 rfl ⟨by omega, by omega⟩ ⟨by omega, by omega⟩ (fun c24 => ?_) (fun c24 => ?_)
  · skip
    exact ap_return (pc := 54) dX1_soften_54 rfl ⟨rfl, by
    funext k j
    simp only [am_up, hlM]
    (repeat' split) <;> first | rfl | omega | (exfalso; omega) | simp_all⟩
  · skip
    refine ap_ald_1 (pc := 27) dX1_soften_27 ?_
    refine ap_getR (pc := 28) dX1_soften_28 fl_RX1_70 hp.o rfl ?_
    refine ap_ild_2 (pc := 31) dX1_soften_31 ?_
    refine ap_iaload (pc := 32) dX1_soften_32 hp.c (by omega) (by omega) (by decide) ?_
    try simp (disch := omega) only [am_same, am_k, am_j]
    refine ap_const (pc := 33) dX1_soften_33 ?_
    refine ap_icmp_eq (pc := 34) 54 dX1_soften_34 rfl (Or.inr ⟨⟨by omega, by omega⟩, ⟨by omega, by omega⟩⟩) (fun c34 => ?_) (fun c34 => ?_)
    · skip
      exact ap_return (pc := 54) dX1_soften_54 rfl ⟨rfl, by
    funext k j
    simp only [am_up, hlM]
    (repeat' split) <;> first | rfl | omega | (exfalso; omega) | simp_all⟩
    · skip
      refine ap_ald_1 (pc := 37) dX1_soften_37 ?_
      refine ap_getR (pc := 38) dX1_soften_38 fl_RX1_70 hp.o rfl ?_
      refine ap_ild_2 (pc := 41) dX1_soften_41 ?_
      refine ap_const (pc := 42) dX1_soften_42 ?_
      refine ap_iastore (pc := 43) dX1_soften_43 hp.c (by omega) (by omega) (by decide) ?_
      refine ap_ald_0 (pc := 44) dX1_soften_44 ?_
      refine ap_dup (pc := 45) dX1_soften_45 ?_
      refine ap_getI (pc := 46) (jz := 3) dX1_soften_46 fl_RX1_22 sh_83 rfl rfl ?_
      try simp (disch := omega) only [am_same, am_k, am_j]
      refine ap_const (pc := 49) dX1_soften_49 ?_
      refine ap_iadd (pc := 50) dX1_soften_50 ?_
      refine ap_putI (pc := 51) (jz := 3) dX1_soften_51 fn_RX1_22 sh_83 rfl rfl (fun z => by cases z) ?_
      exact ap_return (pc := 54) dX1_soften_54 rfl ⟨rfl, by
    funext k j
    simp only [am_up, hlM]
    (repeat' split) <;> first | rfl | omega | (exfalso; omega) | simp_all⟩

set_option maxHeartbeats 4000000 in
theorem qX1_heatLayer {p sz co st so cr : Nat} (hp : isPlate p sz co st so cr) (i h lg : Int) (m : AM) (hpp : p + 5 < 83 ∨ 84 < p) (hp1 : 5 < p) (h0 : 0 ≤ i) (h1 : i < 21) (hh : 500 ≤ h ∧ h ≤ 1200) (hlg : lg = 0 ∨ lg = 1) (hs : 0 ≤ m st i ∧ m st i ≤ 4) (hso : 0 ≤ m so i ∧ m so i ≤ 1999) (ha : 0 ≤ m 15 1 ∧ m 15 1 ≤ 5) (hc : 0 ≤ m co i ∧ m co i < 12) (hM : 600 ≤ m 3 (m co i) ∧ m 3 (m co i) ≤ 900) (hB : m 3 (m co i) + 10 ≤ m 4 (m co i) ∧ m 4 (m co i) ≤ m 3 (m co i) + 200) : CS 1 mX1_heatLayer [.inr 83, .inr 1, .inr p, .inl i, .inl h, .inl lg] m (fun v m' => v = none ∧ m' = hlM m st so i (fSt h lg (m 15 1) (m 3 (m co i)) (m 4 (m co i)) (m st i) (m so i)) (fSo h (m 3 (m co i)) (m 4 (m co i)) (m st i) (m so i)) (fGv h lg (m 3 (m co i)) (m 4 (m co i)) (m st i)) (fdS h lg (m 3 (m co i)) (m 4 (m co i)) (m st i)) (fdB h (m 4 (m co i)) (m st i)) (fdD h (m 15 1) (m 3 (m co i)) (m 4 (m co i)) (m st i) (m so i))) := by
  refine cs_of (by decide +kernel) (Nat.le_of_ble_eq_true rfl) rfl ?_
  have hpn := hp.n
  refine ap_ald_2 (pc := 0) dX1_heatLayer_0 ?_
  refine ap_getR (pc := 1) dX1_heatLayer_1 fl_RX1_58 hp.o rfl ?_
  refine ap_ild_3 (pc := 4) dX1_heatLayer_4 ?_
  refine ap_iaload (pc := 5) dX1_heatLayer_5 hp.b (by omega) (by omega) (by decide) ?_
  refine ap_ist_6 (pc := 6) dX1_heatLayer_6 (by decide) ?_
  refine ap_ald_1 (pc := 8) dX1_heatLayer_8 ?_
  refine ap_getR (pc := 9) dX1_heatLayer_9 fl_RX1_61 sh_1 rfl ?_
  refine ap_getR (pc := 12) dX1_heatLayer_12 fl_RX1_65 sh_2 rfl ?_
  refine ap_ild_6 (pc := 15) dX1_heatLayer_15 ?_
  refine ap_iaload (pc := 17) dX1_heatLayer_17 sh_3 (by omega) (by omega) (by decide) ?_
  refine ap_ist_7 (pc := 18) dX1_heatLayer_18 (by decide) ?_
  refine ap_ald_0 (pc := 20) dX1_heatLayer_20 ?_
  refine ap_getR (pc := 21) dX1_heatLayer_21 fl_RX1_9 sh_83 rfl ?_
  refine ap_ild_3 (pc := 24) dX1_heatLayer_24 ?_
  refine ap_const (pc := 25) dX1_heatLayer_25 ?_
  refine ap_bastore (pc := 26) dX1_heatLayer_26 sh_84 (by omega) (by omega) (by decide) (by decide) ?_
  refine ap_ald_2 (pc := 27) dX1_heatLayer_27 ?_
  refine ap_getR (pc := 28) dX1_heatLayer_28 fl_RX1_70 hp.o rfl ?_
  refine ap_ild_3 (pc := 31) dX1_heatLayer_31 ?_
  refine ap_iaload (pc := 32) dX1_heatLayer_32 hp.c (by omega) (by omega) (by decide) ?_
  try simp (disch := omega) only [am_same, am_k, am_j]
  refine ap_const (pc := 33) dX1_heatLayer_33 ?_
  refine ap_icmp_ne (pc := 34) 38 dX1_heatLayer_34 rfl (Or.inr ⟨⟨by omega, by omega⟩, ⟨by omega, by omega⟩⟩) (fun c34 => ?_) (fun c34 => ?_)
  · skip
    refine ap_ild_4 (pc := 38) dX1_heatLayer_38 ?_
    refine ap_ald_1 (pc := 40) dX1_heatLayer_40 ?_
    refine ap_getR (pc := 41) dX1_heatLayer_41 fl_RX1_61 sh_1 rfl ?_
    refine ap_getR (pc := 44) dX1_heatLayer_44 fl_RX1_73 sh_2 rfl ?_
    refine ap_ild_6 (pc := 47) dX1_heatLayer_47 ?_
    refine ap_iaload (pc := 49) dX1_heatLayer_49 sh_4 (by omega) (by omega) (by decide) ?_
    try simp (disch := omega) only [am_same, am_k, am_j]
    refine ap_icmp_le (pc := 50) 73 dX1_heatLayer_50 rfl ⟨by omega, by omega⟩ ⟨by omega, by omega⟩ (fun c50 => ?_) (fun c50 => ?_)
    · skip
      refine ap_ald_2 (pc := 73) dX1_heatLayer_73 ?_
      refine ap_ild_3 (pc := 74) dX1_heatLayer_74 ?_
      refine ap_invV (pc := 75) dX1_heatLayer_75 mv_RX1_76 hp.o (av := [_]) (rest := []) (qX5_holdsOn hp _ _ (by omega) (by omega) (by (try simp (disch := omega) only [am_same, am_k, am_j]); omega)) rfl rfl (Nat.le_of_ble_eq_true rfl) (by decide) (by decide) ?_
      rintro _ _ ⟨⟨w75, rfl⟩ | ⟨w75, rfl⟩, rfl⟩
      all_goals try simp (disch := omega) only [am_same, am_k, am_j] at w75
      · skip
        refine ap_if_eq (pc := 78) 106 dX1_heatLayer_78 rfl ⟨by omega, by omega⟩ (fun c78 => absurd c78 (by decide)) (fun _ => ?_)
        refine ap_ild_4 (pc := 81) dX1_heatLayer_81 ?_
        refine ap_ild_7 (pc := 83) dX1_heatLayer_83 ?_
        refine ap_bipush (pc := 85) dX1_heatLayer_85 bp_20 ?_
        refine ap_isub (pc := 87) dX1_heatLayer_87 ?_
        refine ap_icmp_lt (pc := 88) 162 dX1_heatLayer_88 rfl ⟨by omega, by omega⟩ ⟨by omega, by omega⟩ (fun c88 => ?_) (fun c88 => ?_)
        · skip
          exact ap_return (pc := 162) dX1_heatLayer_162 rfl ⟨rfl, by
    simp (disch := omega) only [fSt, fSo, fGv, fdS, fdB, fdD, if_pos, if_neg]
    funext k j
    simp only [am_up, hlM]
    (repeat' split) <;> first | rfl | (exfalso; omega) | omega | simp_all⟩
        · skip
          refine ap_ald_0 (pc := 91) dX1_heatLayer_91 ?_
          refine ap_ald_2 (pc := 92) dX1_heatLayer_92 ?_
          refine ap_ild_3 (pc := 93) dX1_heatLayer_93 ?_
          refine ap_ald_1 (pc := 94) dX1_heatLayer_94 ?_
          refine ap_getR (pc := 95) dX1_heatLayer_95 fl_RX1_31 sh_1 rfl ?_
          refine ap_const (pc := 98) dX1_heatLayer_98 ?_
          refine ap_iaload (pc := 99) dX1_heatLayer_99 sh_15 (by omega) (by omega) (by decide) ?_
          try simp (disch := omega) only [am_same, am_k, am_j]
          refine ap_invV (pc := 100) dX1_heatLayer_100 mv_RX1_80 sh_83 (av := [_, _, _]) (rest := []) (qX1_soften hp _ _ _ hpp (by omega) (by omega) (by (try simp (disch := omega) only [am_same, am_k, am_j]); omega) (by (try simp (disch := omega) only [am_same, am_k, am_j]); omega) (by (try simp (disch := omega) only [am_same, am_k, am_j]); omega)) rfl rfl (Nat.le_of_ble_eq_true rfl) (by decide) (by decide) ?_
          rintro _ _ ⟨rfl, rfl⟩
          refine ap_goto (pc := 103) 162 dX1_heatLayer_103 rfl ?_
          exact ap_return (pc := 162) dX1_heatLayer_162 rfl ⟨rfl, by
    simp (disch := omega) only [fSt, fSo, fGv, fdS, fdB, fdD, if_pos, if_neg]
    funext k j
    simp only [am_up, hlM]
    (repeat' split) <;> first | rfl | (exfalso; omega) | omega | simp_all⟩
      · skip
        refine ap_if_eq (pc := 78) 106 dX1_heatLayer_78 rfl ⟨by omega, by omega⟩ (fun _ => ?_) (fun c78 => absurd c78 (by decide))
        refine ap_ild_4 (pc := 106) dX1_heatLayer_106 ?_
        refine ap_ild_7 (pc := 108) dX1_heatLayer_108 ?_
        refine ap_icmp_lt (pc := 110) 145 dX1_heatLayer_110 rfl ⟨by omega, by omega⟩ ⟨by omega, by omega⟩ (fun c110 => ?_) (fun c110 => ?_)
        · skip
          refine ap_ild_4 (pc := 145) dX1_heatLayer_145 ?_
          refine ap_ild_7 (pc := 147) dX1_heatLayer_147 ?_
          refine ap_bipush (pc := 149) dX1_heatLayer_149 bp_40 ?_
          refine ap_isub (pc := 151) dX1_heatLayer_151 ?_
          refine ap_icmp_lt (pc := 152) 162 dX1_heatLayer_152 rfl ⟨by omega, by omega⟩ ⟨by omega, by omega⟩ (fun c152 => ?_) (fun c152 => ?_)
          · skip
            exact ap_return (pc := 162) dX1_heatLayer_162 rfl ⟨rfl, by
    simp (disch := omega) only [fSt, fSo, fGv, fdS, fdB, fdD, if_pos, if_neg]
    funext k j
    simp only [am_up, hlM]
    (repeat' split) <;> first | rfl | (exfalso; omega) | omega | simp_all⟩
          · skip
            refine ap_ald_2 (pc := 155) dX1_heatLayer_155 ?_
            refine ap_getR (pc := 156) dX1_heatLayer_156 fl_RX1_70 hp.o rfl ?_
            refine ap_ild_3 (pc := 159) dX1_heatLayer_159 ?_
            refine ap_const (pc := 160) dX1_heatLayer_160 ?_
            refine ap_iastore (pc := 161) dX1_heatLayer_161 hp.c (by omega) (by omega) (by decide) ?_
            exact ap_return (pc := 162) dX1_heatLayer_162 rfl ⟨rfl, by
    simp (disch := omega) only [fSt, fSo, fGv, fdS, fdB, fdD, if_pos, if_neg]
    funext k j
    simp only [am_up, hlM]
    (repeat' split) <;> first | rfl | (exfalso; omega) | omega | simp_all⟩
        · skip
          refine ap_ild_5 (pc := 113) dX1_heatLayer_113 ?_
          refine ap_if_eq (pc := 115) 145 dX1_heatLayer_115 rfl ⟨by omega, by omega⟩ (fun c115 => ?_) (fun c115 => ?_)
          · skip
            refine ap_ild_4 (pc := 145) dX1_heatLayer_145 ?_
            refine ap_ild_7 (pc := 147) dX1_heatLayer_147 ?_
            refine ap_bipush (pc := 149) dX1_heatLayer_149 bp_40 ?_
            refine ap_isub (pc := 151) dX1_heatLayer_151 ?_
            refine ap_icmp_lt (pc := 152) 162 dX1_heatLayer_152 rfl ⟨by omega, by omega⟩ ⟨by omega, by omega⟩ (fun c152 => ?_) (fun c152 => ?_)
            · skip
              exact ap_return (pc := 162) dX1_heatLayer_162 rfl ⟨rfl, by
    simp (disch := omega) only [fSt, fSo, fGv, fdS, fdB, fdD, if_pos, if_neg]
    funext k j
    simp only [am_up, hlM]
    (repeat' split) <;> first | rfl | (exfalso; omega) | omega | simp_all⟩
            · skip
              refine ap_ald_2 (pc := 155) dX1_heatLayer_155 ?_
              refine ap_getR (pc := 156) dX1_heatLayer_156 fl_RX1_70 hp.o rfl ?_
              refine ap_ild_3 (pc := 159) dX1_heatLayer_159 ?_
              refine ap_const (pc := 160) dX1_heatLayer_160 ?_
              refine ap_iastore (pc := 161) dX1_heatLayer_161 hp.c (by omega) (by omega) (by decide) ?_
              exact ap_return (pc := 162) dX1_heatLayer_162 rfl ⟨rfl, by
    simp (disch := omega) only [fSt, fSo, fGv, fdS, fdB, fdD, if_pos, if_neg]
    funext k j
    simp only [am_up, hlM]
    (repeat' split) <;> first | rfl | (exfalso; omega) | omega | simp_all⟩
          · skip
            refine ap_ald_2 (pc := 118) dX1_heatLayer_118 ?_
            refine ap_getR (pc := 119) dX1_heatLayer_119 fl_RX1_70 hp.o rfl ?_
            refine ap_ild_3 (pc := 122) dX1_heatLayer_122 ?_
            refine ap_const (pc := 123) dX1_heatLayer_123 ?_
            refine ap_iastore (pc := 124) dX1_heatLayer_124 hp.c (by omega) (by omega) (by decide) ?_
            refine ap_ald_0 (pc := 125) dX1_heatLayer_125 ?_
            refine ap_getR (pc := 126) dX1_heatLayer_126 fl_RX1_9 sh_83 rfl ?_
            refine ap_ild_3 (pc := 129) dX1_heatLayer_129 ?_
            refine ap_const (pc := 130) dX1_heatLayer_130 ?_
            refine ap_bastore (pc := 131) dX1_heatLayer_131 sh_84 (by omega) (by omega) (by decide) (by decide) ?_
            refine ap_ald_0 (pc := 132) dX1_heatLayer_132 ?_
            refine ap_dup (pc := 133) dX1_heatLayer_133 ?_
            refine ap_getI (pc := 134) (jz := 1) dX1_heatLayer_134 fl_RX1_15 sh_83 rfl rfl ?_
            try simp (disch := omega) only [am_same, am_k, am_j]
            refine ap_const (pc := 137) dX1_heatLayer_137 ?_
            refine ap_iadd (pc := 138) dX1_heatLayer_138 ?_
            refine ap_putI (pc := 139) (jz := 1) dX1_heatLayer_139 fn_RX1_15 sh_83 rfl rfl (fun z => by cases z) ?_
            refine ap_goto (pc := 142) 162 dX1_heatLayer_142 rfl ?_
            exact ap_return (pc := 162) dX1_heatLayer_162 rfl ⟨rfl, by
    simp (disch := omega) only [fSt, fSo, fGv, fdS, fdB, fdD, if_pos, if_neg]
    funext k j
    simp only [am_up, hlM]
    (repeat' split) <;> first | rfl | (exfalso; omega) | omega | simp_all⟩
    · skip
      refine ap_ald_2 (pc := 53) dX1_heatLayer_53 ?_
      refine ap_getR (pc := 54) dX1_heatLayer_54 fl_RX1_70 hp.o rfl ?_
      refine ap_ild_3 (pc := 57) dX1_heatLayer_57 ?_
      refine ap_const (pc := 58) dX1_heatLayer_58 ?_
      refine ap_iastore (pc := 59) dX1_heatLayer_59 hp.c (by omega) (by omega) (by decide) ?_
      refine ap_ald_0 (pc := 60) dX1_heatLayer_60 ?_
      refine ap_dup (pc := 61) dX1_heatLayer_61 ?_
      refine ap_getI (pc := 62) (jz := 2) dX1_heatLayer_62 fl_RX1_19 sh_83 rfl rfl ?_
      try simp (disch := omega) only [am_same, am_k, am_j]
      refine ap_const (pc := 65) dX1_heatLayer_65 ?_
      refine ap_iadd (pc := 66) dX1_heatLayer_66 ?_
      refine ap_putI (pc := 67) (jz := 2) dX1_heatLayer_67 fn_RX1_19 sh_83 rfl rfl (fun z => by cases z) ?_
      refine ap_goto (pc := 70) 162 dX1_heatLayer_70 rfl ?_
      exact ap_return (pc := 162) dX1_heatLayer_162 rfl ⟨rfl, by
    simp (disch := omega) only [fSt, fSo, fGv, fdS, fdB, fdD, if_pos, if_neg]
    funext k j
    simp only [am_up, hlM]
    (repeat' split) <;> first | rfl | (exfalso; omega) | omega | simp_all⟩
  · skip
    exact ap_return (pc := 37) dX1_heatLayer_37 rfl ⟨rfl, by
    simp (disch := omega) only [fSt, fSo, fGv, fdS, fdB, fdD, if_pos, if_neg]
    funext k j
    simp only [am_up, hlM]
    (repeat' split) <;> first | rfl | (exfalso; omega) | omega | simp_all⟩

