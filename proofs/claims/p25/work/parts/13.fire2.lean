
theorem pullS_bd {n : Int} {St Ex : Int → Int} (h3 : n ≤ 3) (h : ∀ l : Int, 0 ≤ l → l < n → 60 ≤ Ex l ∧ Ex l ≤ 160) : 0 ≤ pullS n St Ex ∧ pullS n St Ex ≤ 330 := by
  have key : ∀ k : Nat, (k : Int) ≤ n ∨ k = 0 → 0 ≤ sumL (fun l => if holds (St l) then 170 - Ex l else 0) k ∧ sumL (fun l => if holds (St l) then 170 - Ex l else 0) k ≤ 110 * k := by
    intro k
    induction k with
    | zero => exact fun _ => ⟨Int.le_refl _, Int.le_refl _⟩
    | succ k ih =>
      intro hk
      have hk2 : ((k + 1 : Nat) : Int) ≤ n := by omega
      have h1 := ih (by omega)
      have h2 := h (k : Int) (by omega) (by omega)
      rw [sumL_succ]
      split <;> omega
  have := key n.toNat (by omega)
  unfold pullS
  omega
set_option maxHeartbeats 4000000 in
theorem qX5_strainOf {p sz co st so cr : Nat} (hp : isPlate p sz co st so cr) (f : Int) (m : AM) (h0 : 0 ≤ f) (h1 : f < 7) (hn : ∀ f : Int, 0 ≤ f → f < 7 → 0 ≤ m sz f ∧ m sz f ≤ 3) (hC : ∀ f l : Int, 0 ≤ f → f < 7 → 0 ≤ l → l < m sz f → (0 ≤ m co (f * 3 + l) ∧ m co (f * 3 + l) < 12) ∧ (0 ≤ m st (f * 3 + l) ∧ m st (f * 3 + l) ≤ 4)) (hX : ∀ f l : Int, 0 ≤ f → f < 7 → 0 ≤ l → l < m sz f → 60 ≤ m 5 (m co (f * 3 + l)) ∧ m 5 (m co (f * 3 + l)) ≤ 160) : CS 2 mX5_strainOf [.inr p, .inl f, .inr 2] m (an (if 0 ≤ (pullS (m sz f) (fun l => m st (f * 3 + l)) (fun l => m 5 (m co (f * 3 + l)))) - (pullS (m sz 6) (fun l => m st (6 * 3 + l)) (fun l => m 5 (m co (6 * 3 + l)))) then (pullS (m sz f) (fun l => m st (f * 3 + l)) (fun l => m 5 (m co (f * 3 + l)))) - (pullS (m sz 6) (fun l => m st (6 * 3 + l)) (fun l => m 5 (m co (6 * 3 + l)))) else -((pullS (m sz f) (fun l => m st (f * 3 + l)) (fun l => m 5 (m co (f * 3 + l)))) - (pullS (m sz 6) (fun l => m st (6 * 3 + l)) (fun l => m 5 (m co (6 * 3 + l)))))) m) := by
  refine cs_of (by decide +kernel) (Nat.le_of_ble_eq_true rfl) rfl ?_
  have hb1 := pullS_bd (St := fun l => m st (f * 3 + l)) (Ex := fun l => m 5 (m co (f * 3 + l))) (hn f h0 (by omega)).2 (fun l a b => hX f l h0 (by omega) a b)
  have hb2 := pullS_bd (St := fun l => m st (6 * 3 + l)) (Ex := fun l => m 5 (m co (6 * 3 + l))) (hn 6 (by omega) (by omega)).2 (fun l a b => hX 6 l (by omega) (by omega) a b)
  refine ap_ald_0 (pc := 0) dX5_strainOf_0 ?_
  refine ap_ild_1 (pc := 1) dX5_strainOf_1 ?_
  refine ap_ald_2 (pc := 2) dX5_strainOf_2 ?_
  refine ap_invV (pc := 3) dX5_strainOf_3 mv_RX5_45 hp.o (av := [_, _]) (rest := []) (qX5_pullOf hp _ _ (by omega) (by omega) (hn _ (by omega) (by omega)) (fun l a b => hC _ l (by omega) (by omega) a b)) rfl rfl (Nat.le_of_ble_eq_true rfl) (by decide) (by decide) ?_
  rintro _ _ ⟨rfl, rfl⟩
  refine ap_ald_0 (pc := 6) dX5_strainOf_6 ?_
  refine ap_bipush (pc := 7) dX5_strainOf_7 bp_6 ?_
  refine ap_ald_2 (pc := 9) dX5_strainOf_9 ?_
  refine ap_invV (pc := 10) dX5_strainOf_10 mv_RX5_45 hp.o (av := [_, _]) (rest := [_]) (qX5_pullOf hp _ _ (by omega) (by omega) (hn _ (by omega) (by omega)) (fun l a b => hC _ l (by omega) (by omega) a b)) rfl rfl (Nat.le_of_ble_eq_true rfl) (by decide) (by decide) ?_
  rintro _ _ ⟨rfl, rfl⟩
  refine ap_isub (pc := 13) dX5_strainOf_13 ?_
  refine ap_mabs (pc := 14) dX5_strainOf_14 jl_RX5_48 jw_abs (by decide) (by decide) ⟨by omega, by omega⟩ ?_
  exact ap_ireturn (pc := 17) dX5_strainOf_17 rfl ⟨rfl, rfl⟩

set_option maxHeartbeats 4000000 in
theorem qX1_mendField {p sz co st so cr : Nat} (hp : isPlate p sz co st so cr) (f : Int) (m : AM) (hpp : p + 5 < 83 ∨ 84 < p) (h0 : 0 ≤ f) (h1 : f < 6) (hn : 0 ≤ m sz f ∧ m sz f ≤ 3) (hk : m cr f = 0 ∨ m cr f = 1) (hg : ∀ l : Int, 0 ≤ l → l < m sz f → m 84 (f * 3 + l) = 0 ∨ m 84 (f * 3 + l) = 1) : CS 1 mX1_mendField [.inr 83, .inr p, .inl f] m (fun v m' => v = none ∧ (((m cr f = 1 ∧ ∀ l : Int, 0 ≤ l → l < m sz f → m 84 (f * 3 + l) = 1) ∧ m' = am_up (am_up m cr f 0) 83 5 (m 83 5 + 1)) ∨ (¬ (m cr f = 1 ∧ ∀ l : Int, 0 ≤ l → l < m sz f → m 84 (f * 3 + l) = 1) ∧ m' = m))) := by
  refine cs_of (by decide +kernel) (Nat.le_of_ble_eq_true rfl) rfl ?_
  have hpn := hp.n
  refine ap_ald_1 (pc := 0) dX1_mendField_0 ?_
  refine ap_getR (pc := 1) dX1_mendField_1 fl_RX1_87 hp.o rfl ?_
  refine ap_ild_2 (pc := 4) dX1_mendField_4 ?_
  refine ap_iaload (pc := 5) dX1_mendField_5 hp.e (by omega) (by omega) (by decide) ?_
  refine ap_if_ne (pc := 6) 10 dX1_mendField_6 rfl ⟨by omega, by omega⟩ (fun c6 => ?_) (fun c6 => ?_)
  · skip
    refine ap_const (pc := 10) dX1_mendField_10 ?_
    refine ap_ist_3 (pc := 11) dX1_mendField_11 (by decide) ?_
    refine up_rec (m sz f) (fun i => (∀ l : Int, 0 ≤ l → l < i → m 84 (f * 3 + l) = 1) → AP 1 mX1_mendField 12 [some (.inr 83), some (.inr p), some (.inl f), some (.inl (i : Int))] [] m _) hn.1 (fun i hi ih hal => ?_) (fun l a b => by omega)
    refine ap_ild_3 (pc := 12) dX1_mendField_12 ?_
    refine ap_ald_1 (pc := 13) dX1_mendField_13 ?_
    refine ap_getR (pc := 14) dX1_mendField_14 fl_RX1_37 hp.o rfl ?_
    refine ap_ild_2 (pc := 17) dX1_mendField_17 ?_
    refine ap_iaload (pc := 18) dX1_mendField_18 hp.a (by omega) (by omega) (by decide) ?_
    refine ap_icmp_ge (pc := 19) 42 dX1_mendField_19 rfl ⟨by omega, by omega⟩ ⟨by omega, by omega⟩ (fun c19 => ?_) (fun c19 => ?_)
    · skip
      refine ap_ald_1 (pc := 42) dX1_mendField_42 ?_
      refine ap_getR (pc := 43) dX1_mendField_43 fl_RX1_87 hp.o rfl ?_
      refine ap_ild_2 (pc := 46) dX1_mendField_46 ?_
      refine ap_const (pc := 47) dX1_mendField_47 ?_
      refine ap_iastore (pc := 48) dX1_mendField_48 hp.e (by omega) (by omega) (by decide) ?_
      refine ap_ald_0 (pc := 49) dX1_mendField_49 ?_
      refine ap_dup (pc := 50) dX1_mendField_50 ?_
      refine ap_getI (pc := 51) (jz := 5) dX1_mendField_51 fl_RX1_28 sh_83 rfl rfl ?_
      try simp (disch := omega) only [am_same, am_k, am_j]
      refine ap_const (pc := 54) dX1_mendField_54 ?_
      refine ap_iadd (pc := 55) dX1_mendField_55 ?_
      refine ap_putI (pc := 56) (jz := 5) dX1_mendField_56 fn_RX1_28 sh_83 rfl rfl (fun z => by cases z) ?_
      exact ap_return (pc := 59) dX1_mendField_59 rfl ⟨rfl, Or.inl ⟨⟨by omega, fun l a b => hal l a (by omega)⟩, rfl⟩⟩
    · skip
      have hgi := hg (i : Int) (by omega) c19
      refine ap_ald_0 (pc := 22) dX1_mendField_22 ?_
      refine ap_getR (pc := 23) dX1_mendField_23 fl_RX1_9 sh_83 rfl ?_
      refine ap_ild_2 (pc := 26) dX1_mendField_26 ?_
      refine ap_ild_3 (pc := 27) dX1_mendField_27 ?_
      refine ap_invS (pc := 28) dX1_mendField_28 ms_RX1_42 (av := [_, _]) (rest := [_]) (qX8_placeOf _ _ _) rfl rfl (Nat.le_of_ble_eq_true rfl) (by decide) (by decide) ?_
      rintro _ _ ⟨rfl, rfl⟩
      refine ap_baload (pc := 31) dX1_mendField_31 sh_84 (by omega) (by omega) (by decide) ?_
      refine ap_if_ne (pc := 32) 36 dX1_mendField_32 rfl ⟨by omega, by omega⟩ (fun c32 => ?_) (fun c32 => ?_)
      · skip
        refine ap_iinc_3 (pc := 36) dX1_mendField_36 (by decide) ?_
        refine ap_goto (pc := 39) 12 dX1_mendField_39 rfl ?_
        exact (ih c19 (fun l a b => by
            rcases (by omega : l < (i : Int) ∨ l = (i : Int)) with z | z
            · exact hal l a z
            · rw [z]; omega)).bk ⟨rfl, rfl, rfl, rfl, trivial⟩ rfl
      · skip
        exact ap_return (pc := 35) dX1_mendField_35 rfl ⟨rfl, Or.inr ⟨fun z => by have z2 := z.2 (i : Int) (by omega) c19; omega, rfl⟩⟩
  · skip
    exact ap_return (pc := 9) dX1_mendField_9 rfl ⟨rfl, Or.inr ⟨fun z => by omega, rfl⟩⟩

set_option maxHeartbeats 4000000 in
theorem qX1_coolField {p sz co st so cr : Nat} (hp : isPlate p sz co st so cr) (f : Int) (m : AM) (hpp : p + 5 < 83 ∨ 84 < p) (h0 : 0 ≤ f) (h1 : f < 6) (hk : m cr f = 0 ∨ m cr f = 1) (hs : 0 ≤ m 15 2 ∧ m 15 2 ≤ 400) (hn : ∀ f : Int, 0 ≤ f → f < 7 → 0 ≤ m sz f ∧ m sz f ≤ 3) (hC : ∀ f l : Int, 0 ≤ f → f < 7 → 0 ≤ l → l < m sz f → (0 ≤ m co (f * 3 + l) ∧ m co (f * 3 + l) < 12) ∧ (0 ≤ m st (f * 3 + l) ∧ m st (f * 3 + l) ≤ 4)) (hX : ∀ f l : Int, 0 ≤ f → f < 7 → 0 ≤ l → l < m sz f → 60 ≤ m 5 (m co (f * 3 + l)) ∧ m 5 (m co (f * 3 + l)) ≤ 160) : CS 3 mX1_coolField [.inr 83, .inr 1, .inr p, .inl f] m (fun v m' => v = none ∧ (((m cr f = 0 ∧ (∃ l : Int, 0 ≤ l ∧ l < m sz f ∧ holds (m st (f * 3 + l))) ∧ (if 0 ≤ (pullS (m sz f) (fun l => m st (f * 3 + l)) (fun l => m 5 (m co (f * 3 + l)))) - (pullS (m sz 6) (fun l => m st (6 * 3 + l)) (fun l => m 5 (m co (6 * 3 + l)))) then (pullS (m sz f) (fun l => m st (f * 3 + l)) (fun l => m 5 (m co (f * 3 + l)))) - (pullS (m sz 6) (fun l => m st (6 * 3 + l)) (fun l => m 5 (m co (6 * 3 + l)))) else -((pullS (m sz f) (fun l => m st (f * 3 + l)) (fun l => m 5 (m co (f * 3 + l)))) - (pullS (m sz 6) (fun l => m st (6 * 3 + l)) (fun l => m 5 (m co (6 * 3 + l)))))) > m 15 2) ∧ m' = am_up (am_up m cr f 1) 83 4 (m 83 4 + 1)) ∨ (¬ (m cr f = 0 ∧ (∃ l : Int, 0 ≤ l ∧ l < m sz f ∧ holds (m st (f * 3 + l))) ∧ (if 0 ≤ (pullS (m sz f) (fun l => m st (f * 3 + l)) (fun l => m 5 (m co (f * 3 + l)))) - (pullS (m sz 6) (fun l => m st (6 * 3 + l)) (fun l => m 5 (m co (6 * 3 + l)))) then (pullS (m sz f) (fun l => m st (f * 3 + l)) (fun l => m 5 (m co (f * 3 + l)))) - (pullS (m sz 6) (fun l => m st (6 * 3 + l)) (fun l => m 5 (m co (6 * 3 + l)))) else -((pullS (m sz f) (fun l => m st (f * 3 + l)) (fun l => m 5 (m co (f * 3 + l)))) - (pullS (m sz 6) (fun l => m st (6 * 3 + l)) (fun l => m 5 (m co (6 * 3 + l)))))) > m 15 2) ∧ m' = m))) := by
  refine cs_of (by decide +kernel) (Nat.le_of_ble_eq_true rfl) rfl ?_
  have hpn := hp.n
  have hb1 := pullS_bd (St := fun l => m st (f * 3 + l)) (Ex := fun l => m 5 (m co (f * 3 + l))) (hn f h0 (by omega)).2 (fun l a b => hX f l h0 (by omega) a b)
  have hb2 := pullS_bd (St := fun l => m st (6 * 3 + l)) (Ex := fun l => m 5 (m co (6 * 3 + l))) (hn 6 (by omega) (by omega)).2 (fun l a b => hX 6 l (by omega) (by omega) a b)
  have hsr : rng (if 0 ≤ (pullS (m sz f) (fun l => m st (f * 3 + l)) (fun l => m 5 (m co (f * 3 + l)))) - (pullS (m sz 6) (fun l => m st (6 * 3 + l)) (fun l => m 5 (m co (6 * 3 + l)))) then (pullS (m sz f) (fun l => m st (f * 3 + l)) (fun l => m 5 (m co (f * 3 + l)))) - (pullS (m sz 6) (fun l => m st (6 * 3 + l)) (fun l => m 5 (m co (6 * 3 + l)))) else -((pullS (m sz f) (fun l => m st (f * 3 + l)) (fun l => m 5 (m co (f * 3 + l)))) - (pullS (m sz 6) (fun l => m st (6 * 3 + l)) (fun l => m 5 (m co (6 * 3 + l)))))) := by constructor <;> split <;> omega
  refine ap_ald_2 (pc := 0) dX1_coolField_0 ?_
  refine ap_getR (pc := 1) dX1_coolField_1 fl_RX1_87 hp.o rfl ?_
  refine ap_ild_3 (pc := 4) dX1_coolField_4 ?_
  refine ap_iaload (pc := 5) dX1_coolField_5 hp.e (by omega) (by omega) (by decide) ?_
  refine ap_if_ne (pc := 6) 52 dX1_coolField_6 rfl ⟨by omega, by omega⟩ (fun c6 => ?_) (fun c6 => ?_)
  · skip
    exact ap_return (pc := 52) dX1_coolField_52 rfl ⟨rfl, by first | exact Or.inl ⟨⟨by omega, w11, by omega⟩, rfl⟩ | exact Or.inr ⟨fun z => absurd z.2.1 w11, rfl⟩ | exact Or.inr ⟨fun z => by have z2 := z.2.2; omega, rfl⟩ | exact Or.inr ⟨fun z => by have z2 := z.1; omega, rfl⟩⟩
  · skip
    refine ap_ald_2 (pc := 9) dX1_coolField_9 ?_
    refine ap_ild_3 (pc := 10) dX1_coolField_10 ?_
    refine ap_invV (pc := 11) dX1_coolField_11 mv_RX1_89 hp.o (av := [_]) (rest := []) (qX5_hasHold hp _ _ (by omega) (by omega) (hn _ (by omega) (by omega)) (fun l a b => (hC _ l (by omega) (by omega) a b).2)) rfl rfl (Nat.le_of_ble_eq_true rfl) (by decide) (by decide) ?_
    rintro _ _ ⟨⟨w11, rfl⟩ | ⟨w11, rfl⟩, rfl⟩
    · skip
      refine ap_if_eq (pc := 14) 52 dX1_coolField_14 rfl ⟨by omega, by omega⟩ (fun c14 => absurd c14 (by decide)) (fun _ => ?_)
      refine ap_ald_2 (pc := 17) dX1_coolField_17 ?_
      refine ap_ild_3 (pc := 18) dX1_coolField_18 ?_
      refine ap_ald_1 (pc := 19) dX1_coolField_19 ?_
      refine ap_getR (pc := 20) dX1_coolField_20 fl_RX1_61 sh_1 rfl ?_
      refine ap_invV (pc := 23) dX1_coolField_23 mv_RX1_92 hp.o (av := [_, _]) (rest := []) (qX5_strainOf hp _ _ (by omega) (by omega) hn hC hX) rfl rfl (Nat.le_of_ble_eq_true rfl) (by decide) (by decide) ?_
      rintro _ _ ⟨rfl, rfl⟩
      refine ap_ald_1 (pc := 26) dX1_coolField_26 ?_
      refine ap_getR (pc := 27) dX1_coolField_27 fl_RX1_31 sh_1 rfl ?_
      refine ap_const (pc := 30) dX1_coolField_30 ?_
      refine ap_iaload (pc := 31) dX1_coolField_31 sh_15 (by omega) (by omega) (by decide) ?_
      refine ap_icmp_le (pc := 32) 52 dX1_coolField_32 rfl hsr ⟨by omega, by omega⟩ (fun c32 => ?_) (fun c32 => ?_)
      · skip
        exact ap_return (pc := 52) dX1_coolField_52 rfl ⟨rfl, by first | exact Or.inl ⟨⟨by omega, w11, by omega⟩, rfl⟩ | exact Or.inr ⟨fun z => absurd z.2.1 w11, rfl⟩ | exact Or.inr ⟨fun z => by have z2 := z.2.2; omega, rfl⟩ | exact Or.inr ⟨fun z => by have z2 := z.1; omega, rfl⟩⟩
      · skip
        refine ap_ald_2 (pc := 35) dX1_coolField_35 ?_
        refine ap_getR (pc := 36) dX1_coolField_36 fl_RX1_87 hp.o rfl ?_
        refine ap_ild_3 (pc := 39) dX1_coolField_39 ?_
        refine ap_const (pc := 40) dX1_coolField_40 ?_
        refine ap_iastore (pc := 41) dX1_coolField_41 hp.e (by omega) (by omega) (by decide) ?_
        refine ap_ald_0 (pc := 42) dX1_coolField_42 ?_
        refine ap_dup (pc := 43) dX1_coolField_43 ?_
        refine ap_getI (pc := 44) (jz := 4) dX1_coolField_44 fl_RX1_25 sh_83 rfl rfl ?_
        try simp (disch := omega) only [am_same, am_k, am_j]
        refine ap_const (pc := 47) dX1_coolField_47 ?_
        refine ap_iadd (pc := 48) dX1_coolField_48 ?_
        refine ap_putI (pc := 49) (jz := 4) dX1_coolField_49 fn_RX1_25 sh_83 rfl rfl (fun z => by cases z) ?_
        exact ap_return (pc := 52) dX1_coolField_52 rfl ⟨rfl, by first | exact Or.inl ⟨⟨by omega, w11, by omega⟩, rfl⟩ | exact Or.inr ⟨fun z => absurd z.2.1 w11, rfl⟩ | exact Or.inr ⟨fun z => by have z2 := z.2.2; omega, rfl⟩ | exact Or.inr ⟨fun z => by have z2 := z.1; omega, rfl⟩⟩
    · skip
      refine ap_if_eq (pc := 14) 52 dX1_coolField_14 rfl ⟨by omega, by omega⟩ (fun _ => ?_) (fun c14 => absurd c14 (by decide))
      exact ap_return (pc := 52) dX1_coolField_52 rfl ⟨rfl, by first | exact Or.inl ⟨⟨by omega, w11, by omega⟩, rfl⟩ | exact Or.inr ⟨fun z => absurd z.2.1 w11, rfl⟩ | exact Or.inr ⟨fun z => by have z2 := z.2.2; omega, rfl⟩ | exact Or.inr ⟨fun z => by have z2 := z.1; omega, rfl⟩⟩

