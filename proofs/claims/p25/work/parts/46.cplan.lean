set_option maxHeartbeats 4000000 in
theorem qX4_layersAt (s f : Int) (m : AM) (hs : 0 ≤ s ∧ s < 4096) (hf : 0 ≤ f ∧ f < 6) : CS 0 mX4_layersAt [.inl s, .inl f] m (an (dg s f) m) := by
  refine cs_of (by decide +kernel) (Nat.le_of_ble_eq_true rfl) rfl ?_
  refine ap_ild_0 (pc := 0) dX4_layersAt_0 ?_
  refine ap_const (pc := 1) dX4_layersAt_1 ?_
  refine ap_ild_1 (pc := 2) dX4_layersAt_2 ?_
  refine ap_imul (pc := 3) dX4_layersAt_3 ?_
  refine ap_ishr (pc := 4) dX4_layersAt_4 ?_
  refine ap_const (pc := 5) dX4_layersAt_5 ?_
  refine ap_iand (pc := 6) dX4_layersAt_6 ?_
  exact ap_ireturn (pc := 7) dX4_layersAt_7 rfl ⟨by rw [dg_i hs.1 hs.2 hf.1 hf.2], rfl⟩

set_option maxHeartbeats 4000000 in
theorem qX4_lastStage {W : Int → Int} {M B : Int → Int → Int} (m : AM) (w : wOK W M B) (c : clP W M B m) : CS 0 mX4_lastStage [.inr 12] m (an (lastS W) m) := by
  refine cs_of (by decide +kernel) (Nat.le_of_ble_eq_true rfl) rfl ?_
  refine ap_const (pc := 0) dX4_lastStage_0 ?_
  refine ap_ist_1 (pc := 1) dX4_lastStage_1 (by decide) ?_
  refine ap_const (pc := 2) dX4_lastStage_2 ?_
  refine ap_ist_2 (pc := 3) dX4_lastStage_3 (by decide) ?_
  refine AP.bk (up_rec 6 (fun i => AP 0 mX4_lastStage 4 [some (.inr 12), some (.inl (lastP W i)), some (.inl (i : Int))] [] m (an (lastS W) m)) (by omega) (fun i hi ih => ?_)) ⟨rfl, rfl, rfl, trivial⟩ rfl
  refine ap_ild_2 (pc := 4) dX4_lastStage_4 ?_
  refine ap_bipush (pc := 5) dX4_lastStage_5 bp_6 ?_
  refine ap_icmp_ge (pc := 7) 29 dX4_lastStage_7 rfl ⟨by omega, by omega⟩ ⟨by omega, by omega⟩ (fun c7 => ?_) (fun c7 => ?_)
  · skip
    obtain rfl : i = 6 := by omega
    refine ap_ild_1 (pc := 29) dX4_lastStage_29 ?_
    exact ap_ireturn (pc := 30) dX4_lastStage_30 rfl ⟨by rw [(lastP_bd w).2], rfl⟩
  · skip
    refine ap_ild_1 (pc := 10) dX4_lastStage_10 ?_
    refine ap_ald_0 (pc := 11) dX4_lastStage_11 ?_
    refine ap_getR (pc := 12) dX4_lastStage_12 fl_RX4_50 sh_12 rfl ?_
    refine ap_ild_2 (pc := 15) dX4_lastStage_15 ?_
    refine ap_iaload (pc := 16) dX4_lastStage_16 sh_13 (by omega) (by omega) (by decide) ?_
    refine ap_const (pc := 17) dX4_lastStage_17 ?_
    refine ap_ild_2 (pc := 18) dX4_lastStage_18 ?_
    refine ap_imul (pc := 19) dX4_lastStage_19 ?_
    refine ap_ishl (pc := 20) dX4_lastStage_20 ?_
    refine ap_ior (pc := 21) dX4_lastStage_21 ?_
    refine ap_ist_1 (pc := 22) dX4_lastStage_22 (by decide) ?_
    refine ap_iinc_2 (pc := 23) dX4_lastStage_23 (by decide) ?_
    refine ap_goto (pc := 26) 4 dX4_lastStage_26 rfl ?_
    rw [(c i (by omega) (by omega)).1, or4_i (by omega) (by omega) ((lastP_bd w).1 i (by omega)).1 ((lastP_bd w).1 i (by omega)).2 (w i (by omega) (by omega)).1.1 (by have := (w i (by omega) (by omega)).1; omega)]
    exact (ih c7).bk ⟨rfl, rfl, rfl, trivial⟩ rfl

set_option maxHeartbeats 4000000 in
theorem qX4_isStage {W : Int → Int} {M B : Int → Int → Int} (s : Int) (m : AM) (w : wOK W M B) (c : clP W M B m) (hs : 0 ≤ s ∧ s < 4096) : CS 1 mX4_isStage [.inl s, .inr 12] m (yn (valS W s) m) := by
  refine cs_of (by decide +kernel) (Nat.le_of_ble_eq_true rfl) rfl ?_
  refine ap_const (pc := 0) dX4_isStage_0 ?_
  refine ap_ist_2 (pc := 1) dX4_isStage_1 (by decide) ?_
  refine AP.bk (up_rec 6 (fun i => (∀ f : Int, 0 ≤ f → f < i → dg s f ≤ W f) → AP 1 mX4_isStage 2 [some (.inl s), some (.inr 12), some (.inl (i : Int))] [] m (yn (valS W s) m)) (by omega) (fun i hi ih u => ?_) (fun f a b => by omega)) ⟨rfl, rfl, rfl, trivial⟩ rfl
  have hd := dg_bd s i
  refine ap_ild_2 (pc := 2) dX4_isStage_2 ?_
  refine ap_bipush (pc := 3) dX4_isStage_3 bp_6 ?_
  refine ap_icmp_ge (pc := 5) 30 dX4_isStage_5 rfl ⟨by omega, by omega⟩ ⟨by omega, by omega⟩ (fun c5 => ?_) (fun c5 => ?_)
  · skip
    refine ap_const (pc := 30) dX4_isStage_30 ?_
    exact ap_zreturn (pc := 31) dX4_isStage_31 rfl (by decide) ⟨Or.inl ⟨fun f a b => u f a (by omega), rfl⟩, rfl⟩
  · skip
    refine ap_ild_0 (pc := 8) dX4_isStage_8 ?_
    refine ap_ild_2 (pc := 9) dX4_isStage_9 ?_
    refine ap_invS (pc := 10) dX4_isStage_10 ms_RX4_55 (av := [_, _]) (rest := []) (qX4_layersAt _ _ _ hs (by omega)) rfl rfl (Nat.le_of_ble_eq_true rfl) (by decide) (by decide) ?_
    rintro _ _ ⟨rfl, rfl⟩
    refine ap_ald_1 (pc := 13) dX4_isStage_13 ?_
    refine ap_getR (pc := 14) dX4_isStage_14 fl_RX4_50 sh_12 rfl ?_
    refine ap_ild_2 (pc := 17) dX4_isStage_17 ?_
    refine ap_iaload (pc := 18) dX4_isStage_18 sh_13 (by omega) (by omega) (by decide) ?_
    refine ap_icmp_le (pc := 19) 24 dX4_isStage_19 rfl ⟨by omega, by omega⟩ (by rw [(c i (by omega) (by omega)).1]; have q := (w i (by omega) (by omega)).1; constructor <;> omega) (fun c19 => ?_) (fun c19 => ?_)
    · skip
      rw [(c i (by omega) (by omega)).1] at c19
      refine ap_iinc_2 (pc := 24) dX4_isStage_24 (by decide) ?_
      refine ap_goto (pc := 27) 2 dX4_isStage_27 rfl ?_
      exact (ih c5 (fun f a b => by
          by_cases e : f = (i : Int)
          · rw [e]; exact c19
          · exact u f a (by omega))).bk ⟨rfl, rfl, rfl, trivial⟩ rfl
    · skip
      rw [(c i (by omega) (by omega)).1] at c19
      refine ap_const (pc := 22) dX4_isStage_22 ?_
      exact ap_zreturn (pc := 23) dX4_isStage_23 rfl (by decide) ⟨Or.inr ⟨fun z => by have := z i (by omega) (by omega); omega, rfl⟩, rfl⟩

set_option maxHeartbeats 4000000 in
theorem qX4_burningOfPut {W : Int → Int} {M B : Int → Int → Int} (s : Int) (m : AM) (w : wOK W M B) (c : clP W M B m) (hs : 0 ≤ s ∧ s < 4096) (v : valS W s) : CS 1 mX4_burningOfPut [.inl s, .inr 12, .inr 2] m (an (capS B s) m) := by
  refine cs_of (by decide +kernel) (Nat.le_of_ble_eq_true rfl) rfl ?_
  refine ap_sipush (pc := 0) dX4_burningOfPut_0 sp_1200 ?_
  refine ap_ist_3 (pc := 3) dX4_burningOfPut_3 (by decide) ?_
  refine ap_const (pc := 4) dX4_burningOfPut_4 ?_
  refine ap_ist_4 (pc := 5) dX4_burningOfPut_5 (by decide) ?_
  refine AP.bk (up_rec 6 (fun i => AP 1 mX4_burningOfPut 7 [some (.inl s), some (.inr 12), some (.inr 2), some (.inl (accL (fun f h => capG B s f h) 1200 i)), some (.inl (i : Int)), none, none] [] m (an (capS B s) m)) (by omega) (fun i hi ih => ?_)) ⟨rfl, rfl, rfl, rfl, rfl, trivial, trivial, trivial⟩ rfl
  have hcb := cap_bd2 w v i (by omega)
  refine ap_ild_4 (pc := 7) dX4_burningOfPut_7 ?_
  refine ap_bipush (pc := 9) dX4_burningOfPut_9 bp_6 ?_
  refine ap_icmp_ge (pc := 11) 66 dX4_burningOfPut_11 rfl ⟨by omega, by omega⟩ ⟨by omega, by omega⟩ (fun c11 => ?_) (fun c11 => ?_)
  · skip
    obtain rfl : i = 6 := by omega
    refine ap_ild_3 (pc := 66) dX4_burningOfPut_66 ?_
    exact ap_ireturn (pc := 67) dX4_burningOfPut_67 rfl ⟨rfl, rfl⟩
  · skip
    refine ap_const (pc := 14) dX4_burningOfPut_14 ?_
    refine ap_ist_5 (pc := 15) dX4_burningOfPut_15 (by decide) ?_
    refine AP.bk (up_rec (dg s i) (fun j => AP 1 mX4_burningOfPut 17 [some (.inl s), some (.inr 12), some (.inr 2), some (.inl (accL (fun k h => min h (B i k)) (accL (fun f h => capG B s f h) 1200 i) j)), some (.inl (i : Int)), some (.inl (j : Int)), none] [] m (an (capS B s) m)) (dg_bd s i).1 (fun j hj jh => ?_)) ⟨rfl, rfl, rfl, rfl, rfl, rfl, trivial, trivial⟩ rfl
    have hd := dg_bd s i
    have hcj := cap_bd w v (f := i) (by omega) (by omega) hcb j hj
    refine ap_ild_5 (pc := 17) dX4_burningOfPut_17 ?_
    refine ap_ild_0 (pc := 19) dX4_burningOfPut_19 ?_
    refine ap_ild_4 (pc := 20) dX4_burningOfPut_20 ?_
    refine ap_invS (pc := 22) dX4_burningOfPut_22 ms_RX4_55 (av := [_, _]) (rest := [_]) (qX4_layersAt _ _ _ hs (by omega)) rfl rfl (Nat.le_of_ble_eq_true rfl) (by decide) (by decide) ?_
    rintro _ _ ⟨rfl, rfl⟩
    refine ap_icmp_ge (pc := 25) 60 dX4_burningOfPut_25 rfl ⟨by omega, by omega⟩ ⟨by omega, by omega⟩ (fun c25 => ?_) (fun c25 => ?_)
    · skip
      refine ap_iinc_4 (pc := 60) dX4_burningOfPut_60 (by decide) ?_
      refine ap_goto (pc := 63) 7 dX4_burningOfPut_63 rfl ?_
      exact (ih c11).bk ⟨rfl, rfl, rfl, by rw [accL_succ]; simp only [capG]; rw [← nat_of (dg_bd s i).1 hj c25], rfl, trivial, trivial, trivial⟩ rfl
    · skip
      have hv := v i (by omega) (by omega)
      have hq := (c i (by omega) (by omega)).2 j (by omega) (by omega)
      have hb := ((w i (by omega) (by omega)).2 j (by omega) (by omega)).2
      refine ap_ald_1 (pc := 28) dX4_burningOfPut_28 ?_
      refine ap_getR (pc := 29) dX4_burningOfPut_29 fl_RX4_73 sh_12 rfl ?_
      refine ap_ild_4 (pc := 32) dX4_burningOfPut_32 ?_
      refine ap_ild_5 (pc := 34) dX4_burningOfPut_34 ?_
      refine ap_invS (pc := 36) dX4_burningOfPut_36 ms_RX4_76 (av := [_, _]) (rest := [_]) (qX8_placeOf _ _ _) rfl rfl (Nat.le_of_ble_eq_true rfl) (by decide) (by decide) ?_
      rintro _ _ ⟨rfl, rfl⟩
      refine ap_iaload (pc := 39) dX4_burningOfPut_39 sh_14 (by omega) (by omega) (by decide) ?_
      refine ap_ist_6 (pc := 40) dX4_burningOfPut_40 (by decide) ?_
      refine ap_ild_3 (pc := 42) dX4_burningOfPut_42 ?_
      refine ap_ald_2 (pc := 43) dX4_burningOfPut_43 ?_
      refine ap_getR (pc := 44) dX4_burningOfPut_44 fl_RX4_84 sh_2 rfl ?_
      refine ap_ild_6 (pc := 47) dX4_burningOfPut_47 ?_
      refine ap_iaload (pc := 49) dX4_burningOfPut_49 sh_4 (by omega) (by omega) (by decide) ?_
      refine ap_mmin (pc := 50) dX4_burningOfPut_50 jl_RX4_70 jw_min (by decide) (Nat.le_of_ble_eq_true rfl) ⟨by omega, by omega⟩ (by rw [hq.1.2]; constructor <;> omega) ?_
      refine ap_ist_3 (pc := 53) dX4_burningOfPut_53 (by decide) ?_
      refine ap_iinc_5 (pc := 54) dX4_burningOfPut_54 (by decide) ?_
      refine ap_goto (pc := 57) 17 dX4_burningOfPut_57 rfl ?_
      exact (jh c25).bk ⟨rfl, rfl, rfl, by rw [accL_succ, hq.1.2], rfl, rfl, trivial, trivial⟩ rfl

set_option maxHeartbeats 4000000 in
theorem qX4_lookAtNext {W : Int → Int} {M B : Int → Int → Int} (s : Int) (m : AM) (w : wOK W M B) (c : clP W M B m) (hs : 0 ≤ s ∧ s < 4096) : CS 1 mX4_lookAtNext [.inr 91, .inl s, .inr 12, .inr 2] m (fun v m' => ∃ o : Int, v = some o ∧ (0 ≤ o ∧ o < 64) ∧ (∀ f : Int, 0 ≤ f → f < 6 → (bt o f = 1 ↔ dg s f < W f)) ∧ (∀ f : Int, 0 ≤ f → f < 6 → dg s f < W f → m' 94 (p2 f) = M f (dg s f) ∧ m' 95 (p2 f) = B f (dg s f)) ∧ ∀ (k : Nat) (j : Int), k ≠ 94 → k ≠ 95 → m' k j = m k j) := by
  refine cs_of (by decide +kernel) (Nat.le_of_ble_eq_true rfl) rfl ?_
  refine ap_const (pc := 0) dX4_lookAtNext_0 ?_
  refine ap_ist_4 (pc := 1) dX4_lookAtNext_1 (by decide) ?_
  refine ap_const (pc := 3) dX4_lookAtNext_3 ?_
  refine ap_ist_5 (pc := 4) dX4_lookAtNext_4 (by decide) ?_
  refine AP.bk (up_rec 6 (fun i => ∀ (o : Int) (mi : AM), (0 ≤ o ∧ o < 64 ∧ ((i : Int) < 6 → o < p2 i)) → (∀ f : Int, 0 ≤ f → f < i → (bt o f = 1 ↔ dg s f < W f)) → (∀ f : Int, 0 ≤ f → f < i → dg s f < W f → mi 94 (p2 f) = M f (dg s f) ∧ mi 95 (p2 f) = B f (dg s f)) → (∀ (k : Nat) (j : Int), k ≠ 94 → k ≠ 95 → mi k j = m k j) → AP 1 mX4_lookAtNext 6 [some (.inr 91), some (.inl s), some (.inr 12), some (.inr 2), some (.inl o), some (.inl (i : Int)), none, none] [] mi (fun v m' => ∃ o : Int, v = some o ∧ (0 ≤ o ∧ o < 64) ∧ (∀ f : Int, 0 ≤ f → f < 6 → (bt o f = 1 ↔ dg s f < W f)) ∧ (∀ f : Int, 0 ≤ f → f < 6 → dg s f < W f → m' 94 (p2 f) = M f (dg s f) ∧ m' 95 (p2 f) = B f (dg s f)) ∧ ∀ (k : Nat) (j : Int), k ≠ 94 → k ≠ 95 → m' k j = m k j)) (by omega) (fun i hi ih o mi u1 u2 u3 u4 => ?_) 0 m ⟨by omega, by omega, fun _ => by decide⟩ (fun f a b => by omega) (fun f a b => by omega) (fun _ _ _ _ => rfl)) ⟨rfl, rfl, rfl, rfl, rfl, rfl, trivial, trivial, trivial⟩ rfl
  have hd := dg_bd s i
  have cm := clP_frame (fun k j hk => u4 k j (by omega) (by omega)) c
  refine ap_ild_5 (pc := 6) dX4_lookAtNext_6 ?_
  refine ap_bipush (pc := 8) dX4_lookAtNext_8 bp_6 ?_
  refine ap_icmp_ge (pc := 10) 94 dX4_lookAtNext_10 rfl ⟨by omega, by omega⟩ ⟨by omega, by omega⟩ (fun c10 => ?_) (fun c10 => ?_)
  · skip
    refine ap_ild_4 (pc := 94) dX4_lookAtNext_94 ?_
    exact ap_ireturn (pc := 96) dX4_lookAtNext_96 rfl ⟨o, rfl, ⟨u1.1, u1.2.1⟩, fun f a b => u2 f a (by omega), fun f a b z => u3 f a (by omega) z, u4⟩
  · skip
    refine ap_ild_1 (pc := 13) dX4_lookAtNext_13 ?_
    refine ap_ild_5 (pc := 14) dX4_lookAtNext_14 ?_
    refine ap_invS (pc := 16) dX4_lookAtNext_16 ms_RX4_55 (av := [_, _]) (rest := []) (qX4_layersAt _ _ _ hs (by omega)) rfl rfl (Nat.le_of_ble_eq_true rfl) (by decide) (by decide) ?_
    rintro _ _ ⟨rfl, rfl⟩
    refine ap_ist_6 (pc := 19) dX4_lookAtNext_19 (by decide) ?_
    refine ap_ild_6 (pc := 21) dX4_lookAtNext_21 ?_
    refine ap_ald_2 (pc := 23) dX4_lookAtNext_23 ?_
    refine ap_getR (pc := 24) dX4_lookAtNext_24 fl_RX4_50 sh_12 rfl ?_
    refine ap_ild_5 (pc := 27) dX4_lookAtNext_27 ?_
    refine ap_iaload (pc := 29) dX4_lookAtNext_29 sh_13 (by omega) (by omega) (by decide) ?_
    refine ap_icmp_ge (pc := 30) 88 dX4_lookAtNext_30 rfl ⟨by omega, by omega⟩ (by rw [(cm i (by omega) (by omega)).1]; have q := (w i (by omega) (by omega)).1; constructor <;> omega) (fun c30 => ?_) (fun c30 => ?_)
    · skip
      rw [(cm i (by omega) (by omega)).1] at c30
      refine ap_iinc_5 (pc := 88) dX4_lookAtNext_88 (by decide) ?_
      refine ap_goto (pc := 91) 6 dX4_lookAtNext_91 rfl ?_
      exact (ih c10 o mi ⟨u1.1, u1.2.1, fun z => by
          have hlt := u1.2.2 (by omega)
          have hp2 := (b_inj i (by omega)).1
          have q := (b_add i (by omega) o.toNat (by omega) (by rw [nf u1.1]; exact hlt)).2.2.1 (by omega)
          rw [nf u1.1] at q; exact q⟩ (fun f a b => by
          by_cases e : f = (i : Int)
          · subst e
            have hlt := u1.2.2 (by omega)
            have hp2 := (b_inj i (by omega)).1
            have q := (b_add i (by omega) o.toNat (by omega) (by rw [nf u1.1]; exact hlt)).2.2.2.2 i (by omega) (Nat.le_refl _)
            rw [nf u1.1] at q
            rw [q]; omega
          · exact u2 f a (by omega)) (fun f a b z => by
          by_cases e : f = (i : Int)
          · subst e; omega
          · exact u3 f a (by omega) z) u4).bk ⟨rfl, rfl, rfl, rfl, rfl, rfl, trivial, trivial, trivial⟩ rfl
    · skip
      rw [(cm i (by omega) (by omega)).1] at c30
      have hq := (cm i (by omega) (by omega)).2 (dg s i) (by omega) c30
      have hwi := (w i (by omega) (by omega)).1
      have hp2 := (b_inj i (by omega)).1
      have hlt := u1.2.2 (by omega)
      have bad := b_add i (by omega) o.toNat (by omega) (by rw [nf u1.1]; exact hlt)
      rw [nf u1.1] at bad
      refine ap_ald_2 (pc := 33) dX4_lookAtNext_33 ?_
      refine ap_getR (pc := 34) dX4_lookAtNext_34 fl_RX4_73 sh_12 rfl ?_
      refine ap_ild_5 (pc := 37) dX4_lookAtNext_37 ?_
      refine ap_ild_6 (pc := 39) dX4_lookAtNext_39 ?_
      refine ap_invS (pc := 41) dX4_lookAtNext_41 ms_RX4_76 (av := [_, _]) (rest := [_]) (qX8_placeOf _ _ _) rfl rfl (Nat.le_of_ble_eq_true rfl) (by decide) (by decide) ?_
      rintro _ _ ⟨rfl, rfl⟩
      refine ap_iaload (pc := 44) dX4_lookAtNext_44 sh_14 (by omega) (by omega) (by decide) ?_
      refine ap_ist_7 (pc := 45) dX4_lookAtNext_45 (by decide) ?_
      refine ap_ald_0 (pc := 47) dX4_lookAtNext_47 ?_
      refine ap_getR (pc := 48) dX4_lookAtNext_48 fl_RX4_18 sh_91 rfl ?_
      refine ap_const (pc := 51) dX4_lookAtNext_51 ?_
      refine ap_ild_5 (pc := 52) dX4_lookAtNext_52 ?_
      refine ap_ishl (pc := 54) dX4_lookAtNext_54 ?_
      refine ap_ald_3 (pc := 55) dX4_lookAtNext_55 ?_
      refine ap_getR (pc := 56) dX4_lookAtNext_56 fl_RX4_79 sh_2 rfl ?_
      refine ap_ild_7 (pc := 59) dX4_lookAtNext_59 ?_
      refine ap_iaload (pc := 61) dX4_lookAtNext_61 sh_3 (by omega) (by omega) (by decide) ?_
      rw [shl_i (by omega) (by omega)]
      refine ap_iastore (pc := 62) dX4_lookAtNext_62 sh_94 (by omega) (by omega) (by decide) ?_
      refine ap_ald_0 (pc := 63) dX4_lookAtNext_63 ?_
      refine ap_getR (pc := 64) dX4_lookAtNext_64 fl_RX4_21 sh_91 rfl ?_
      refine ap_const (pc := 67) dX4_lookAtNext_67 ?_
      refine ap_ild_5 (pc := 68) dX4_lookAtNext_68 ?_
      refine ap_ishl (pc := 70) dX4_lookAtNext_70 ?_
      refine ap_ald_3 (pc := 71) dX4_lookAtNext_71 ?_
      refine ap_getR (pc := 72) dX4_lookAtNext_72 fl_RX4_84 sh_2 rfl ?_
      refine ap_ild_7 (pc := 75) dX4_lookAtNext_75 ?_
      refine ap_iaload (pc := 77) dX4_lookAtNext_77 sh_4 (by omega) (by omega) (by decide) ?_
      try simp (disch := omega) only [am_same, am_k, am_j]
      rw [shl_i (by omega) (by omega)]
      refine ap_iastore (pc := 78) dX4_lookAtNext_78 sh_95 (by omega) (by omega) (by decide) ?_
      refine ap_ild_4 (pc := 79) dX4_lookAtNext_79 ?_
      refine ap_const (pc := 81) dX4_lookAtNext_81 ?_
      refine ap_ild_5 (pc := 82) dX4_lookAtNext_82 ?_
      refine ap_ishl (pc := 84) dX4_lookAtNext_84 ?_
      refine ap_ior (pc := 85) dX4_lookAtNext_85 ?_
      rw [shl_i (by omega) (by omega), or2_i (by omega) (by omega) u1.1 hlt]
      refine ap_ist_4 (pc := 86) dX4_lookAtNext_86 (by decide) ?_
      refine ap_iinc_5 (pc := 88) dX4_lookAtNext_88 (by decide) ?_
      refine ap_goto (pc := 91) 6 dX4_lookAtNext_91 rfl ?_
      exact (ih c10 _ _ ⟨by omega, bad.1, fun z => bad.2.1 (by omega)⟩ (fun f a b => by
          have q := bad.2.2.2.1 f.toNat (by omega)
          rw [nf a] at q
          rw [q]
          by_cases e : f = (i : Int)
          · subst e; rw [if_pos (by omega)]; exact ⟨fun _ => c30, fun _ => rfl⟩
          · rw [if_neg (by omega)]; exact u2 f a (by omega)) (fun f a b z => by
          by_cases e : f = (i : Int)
          · subst e
            refine ⟨by rw [am_k (by omega), am_same]; exact hq.1.1, by rw [am_same]; exact hq.1.2⟩
          · have hne : p2 f ≠ p2 i := fun z2 => e (by
              have q := (b_inj i (by omega)).2 f.toNat (by omega) (by rw [nf a]; exact z2.symm)
              omega)
            refine ⟨by rw [am_k (by omega), am_j hne]; exact (u3 f a (by omega) z).1, by rw [am_j hne, am_k (by omega)]; exact (u3 f a (by omega) z).2⟩) (fun k j a b => by rw [am_k b, am_k a]; exact u4 k j a b)).bk ⟨rfl, rfl, rfl, rfl, rfl, rfl, trivial, trivial, trivial⟩ rfl

