
theorem v_0 {W : Int → Int} {M B : Int → Int → Int} (w : wOK W M B) : valS W 0 := fun f a b => by
  have e : dg 0 f = 0 := by unfold dg; rw [Int.zero_ediv]; rfl
  rw [e]; exact (w f a b).1.1
theorem LF_rng {W : Int → Int} {M B : Int → Int → Int} (w : wOK W M B) {L : Int → Int} (hL : isLF W M B L) (n : Nat) : ∀ s : Int, 0 ≤ s → s < 4096 → 4096 - s ≤ n → -1 ≤ L s ∧ L s ≤ 4095 - s := by
  induction n with
  | zero => intro s a b c; omega
  | succ n ih =>
    intro s a b c
    have l := hL s a b
    by_cases v : valS W s
    · by_cases fu : fulS W s
      · rw [l.2.1 fu]; omega
      · rcases l.2.2 v fu with ⟨z, _⟩ | ⟨x, hx, ok, d, e, _⟩
        · omega
        · have hop := op_next w a b v ok.1
          have hsp := stp_pos hx.1 hx.2
          have := ih _ hop.1.1 hop.1.2 (by omega)
          omega
    · rw [l.1 v]; omega
theorem nx_ex {W : Int → Int} {M B : Int → Int → Int} {L : Int → Int} (hL : isLF W M B L) {s : Int} (a : 0 ≤ s) (b : s < 4096) (v : valS W s) (h1 : 1 ≤ L s) : ∃ x : Int, isSet x ∧ okS W M B s x ∧ L (s + stp x) = L s - 1 := by
  have l := hL s a b
  have nf : ¬ fulS W s := fun z => by have := l.2.1 z; omega
  rcases l.2.2 v nf with ⟨z, _⟩ | ⟨x, hx, ok, d, e, _⟩
  · omega
  · exact ⟨x, hx, ok, by omega⟩
set_option maxHeartbeats 4000000 in
theorem qX9_leastFirings {W : Int → Int} {M B : Int → Int → Int} (m : AM) (w : wOK W M B) (c : moP W M B m) : CS 3 mX9_leastFirings [.inr 100] m (fun v m' => isLF W M B (m' 106) ∧ v = some (if m' 106 0 < 0 then -4 else m' 106 0) ∧ ∀ (k : Nat) (j : Int), k ≠ 106 → (k ≠ 100 ∨ j ≠ 8) → m' k j = m k j) := by
  refine cs_of (by decide +kernel) (Nat.le_of_ble_eq_true rfl) rfl ?_
  refine ap_ald_0 (pc := 0) dX9_leastFirings_0 ?_
  refine ap_invV (pc := 1) dX9_leastFirings_1 mv_RX9_140 sh_100 (av := []) (rest := []) (qX9_plans _ w c) rfl rfl (Nat.le_of_ble_eq_true rfl) (by decide) (by decide) ?_
  rintro _ m1 ⟨rfl, hL, f1⟩
  have hr0 := LF_rng w hL 4096 0 (by omega) (by omega) (by omega)
  refine ap_ald_0 (pc := 4) dX9_leastFirings_4 ?_
  refine ap_getR (pc := 5) dX9_leastFirings_5 fl_RX9_25 sh_100 rfl ?_
  refine ap_const (pc := 8) dX9_leastFirings_8 ?_
  refine ap_iaload (pc := 9) dX9_leastFirings_9 sh_106 (by omega) (by omega) (by decide) ?_
  skip
  refine ap_if_ge (pc := 10) 18 dX9_leastFirings_10 rfl (by constructor <;> omega) (fun c10 => ?_) (fun c10 => ?_)
  · skip
    refine ap_ald_0 (pc := 18) dX9_leastFirings_18 ?_
    refine ap_getR (pc := 19) dX9_leastFirings_19 fl_RX9_25 sh_100 rfl ?_
    refine ap_const (pc := 22) dX9_leastFirings_22 ?_
    refine ap_iaload (pc := 23) dX9_leastFirings_23 sh_106 (by omega) (by omega) (by decide) ?_
    skip
    exact ap_ireturn (pc := 24) dX9_leastFirings_24 rfl ⟨hL, by rw [if_neg (by omega)], f1⟩
  · skip
    refine ap_bipush (pc := 13) dX9_leastFirings_13 bp_m4 ?_
    refine ap_goto (pc := 15) 24 dX9_leastFirings_15 rfl ?_
    exact ap_ireturn (pc := 24) dX9_leastFirings_24 rfl ⟨hL, by rw [if_pos (by omega)], f1⟩

set_option maxHeartbeats 4000000 in
theorem qX9_planned {W : Int → Int} {M B : Int → Int → Int} (ix wt : Int) (m : AM) (w : wOK W M B) (c : moP W M B m) (hi : rng ix) (hw : rng wt) : CS 3 mX9_planned [.inr 100, .inl ix, .inl wt] m (fun v m' => (¬ (0 ≤ ix ∧ 0 ≤ wt ∧ wt ≤ 1) ∧ v = some (-1) ∧ m' = m) ∨ ((0 ≤ ix ∧ 0 ≤ wt ∧ wt ≤ 1) ∧ isLF W M B (m' 106) ∧ ((m' 106 0 ≤ ix ∧ v = some (-4)) ∨ (ix < m' 106 0 ∧ ∃ S X T : Int → Int, isWay W M B (m' 106) (ix + 1) S X T ∧ v = some (if wt = 0 then X ix else T ix))) ∧ ∀ (k : Nat) (j : Int), k ≠ 106 → (k ≠ 100 ∨ j ≠ 8) → m' k j = m k j)) := by
  refine cs_of (by decide +kernel) (Nat.le_of_ble_eq_true rfl) rfl ?_
  refine ap_ild_1 (pc := 0) dX9_planned_0 ?_
  refine ap_if_lt (pc := 1) 13 dX9_planned_1 rfl ⟨by omega, by omega⟩ (fun c1 => ?_) (fun c1 => ?_)
  · skip
    refine ap_const (pc := 13) dX9_planned_13 ?_
    exact ap_ireturn (pc := 14) dX9_planned_14 rfl (Or.inl ⟨by omega, rfl, rfl⟩)
  · skip
    refine ap_ild_2 (pc := 4) dX9_planned_4 ?_
    refine ap_const (pc := 5) dX9_planned_5 ?_
    refine ap_const (pc := 6) dX9_planned_6 ?_
    refine ap_invS (pc := 7) dX9_planned_7 ms_RX9_32 (av := [_, _, _]) (rest := []) (qX9_in _ _ _ _ ⟨by omega, by omega⟩ ⟨by omega, by omega⟩ ⟨by omega, by omega⟩) rfl rfl (Nat.le_of_ble_eq_true rfl) (by decide) (by decide) ?_
    rintro _ _ ⟨⟨w7, rfl⟩ | ⟨w7, rfl⟩, rfl⟩
    · skip
      refine ap_if_ne (pc := 10) 15 dX9_planned_10 rfl ⟨by omega, by omega⟩ (fun _ => ?_) (fun c10 => absurd c10 (by decide))
      refine ap_ald_0 (pc := 15) dX9_planned_15 ?_
      refine ap_invV (pc := 16) dX9_planned_16 mv_RX9_140 sh_100 (av := []) (rest := []) (qX9_plans _ w c) rfl rfl (Nat.le_of_ble_eq_true rfl) (by decide) (by decide) ?_
      rintro _ m1 ⟨rfl, hL, f1⟩
      have hr0 := LF_rng w hL 4096 0 (by omega) (by omega) (by omega)
      refine ap_ald_0 (pc := 19) dX9_planned_19 ?_
      refine ap_getR (pc := 20) dX9_planned_20 fl_RX9_25 sh_100 rfl ?_
      refine ap_const (pc := 23) dX9_planned_23 ?_
      refine ap_iaload (pc := 24) dX9_planned_24 sh_106 (by omega) (by omega) (by decide) ?_
      skip
      refine ap_ild_1 (pc := 25) dX9_planned_25 ?_
      refine ap_icmp_gt (pc := 26) 32 dX9_planned_26 rfl (by constructor <;> omega) (by constructor <;> omega) (fun c26 => ?_) (fun c26 => ?_)
      · skip
        refine ap_const (pc := 32) dX9_planned_32 ?_
        refine ap_ist_3 (pc := 33) dX9_planned_33 (by decide) ?_
        refine ap_const (pc := 34) dX9_planned_34 ?_
        refine ap_ist_4 (pc := 35) dX9_planned_35 (by decide) ?_
        refine ap_const (pc := 37) dX9_planned_37 ?_
        refine ap_ist_5 (pc := 38) dX9_planned_38 (by decide) ?_
        refine AP.bk (up_rec (ix + 1) (fun i => ∀ (S X T : Int → Int) (z : Int) (mi : AM), isWay W M B (m1 106) i S X T → (valS W (S i) ∧ (0 ≤ S i ∧ S i < 4096) ∧ m1 106 (S i) = m1 106 0 - i) → (1 ≤ (i : Int) → z = X (i - 1) ∧ mi 100 8 = T (i - 1)) → (∀ (k : Nat) (j : Int), (k ≠ 100 ∨ j ≠ 8) → mi k j = m1 k j) → AP 3 mX9_planned 40 [some (.inr 100), some (.inl ix), some (.inl wt), some (.inl (S i)), some (.inl z), some (.inl (i : Int)), none, none] [] mi (fun v m' => (¬ (0 ≤ ix ∧ 0 ≤ wt ∧ wt ≤ 1) ∧ v = some (-1) ∧ m' = m) ∨ ((0 ≤ ix ∧ 0 ≤ wt ∧ wt ≤ 1) ∧ isLF W M B (m' 106) ∧ ((m' 106 0 ≤ ix ∧ v = some (-4)) ∨ (ix < m' 106 0 ∧ ∃ S X T : Int → Int, isWay W M B (m' 106) (ix + 1) S X T ∧ v = some (if wt = 0 then X ix else T ix))) ∧ ∀ (k : Nat) (j : Int), k ≠ 106 → (k ≠ 100 ∨ j ≠ 8) → m' k j = m k j))) (by omega) (fun i hi ih S X T z mi u1 u2 u3 u4 => ?_) (fun _ => 0) (fun _ => 0) (fun _ => 0) 0 _ ⟨rfl, fun k a b => by omega⟩ ⟨v_0 w, ⟨by omega, by omega⟩, by show m1 106 0 = m1 106 0 - 0; omega⟩ (fun q => by omega) (fun _ _ _ => rfl)) ⟨rfl, rfl, rfl, rfl, rfl, rfl, trivial, trivial, trivial⟩ rfl
        obtain ⟨hv, hs, hLs⟩ := u2
        have cmi : moP W M B mi := moP_frame (fun j => by rw [u4 101 j (by omega)]; exact f1 101 j (by omega) (by omega)) c
        have hcap := cap_bd2 w hv 6 (Nat.le_refl _)
        refine ap_ild_5 (pc := 40) dX9_planned_40 ?_
        refine ap_ild_1 (pc := 42) dX9_planned_42 ?_
        refine ap_icmp_gt (pc := 43) 116 dX9_planned_43 rfl ⟨by omega, by omega⟩ ⟨by omega, by omega⟩ (fun c43 => ?_) (fun c43 => ?_)
        · skip
          have hie : ix + 1 = (i : Int) := by omega
          have hz8 := u3 (by omega)
          rw [show (i : Int) - 1 = ix by omega] at hz8
          have hm6 : mi 106 = m1 106 := funext fun j => u4 106 j (by omega)
          refine ap_ild_2 (pc := 116) dX9_planned_116 ?_
          refine ap_if_ne (pc := 117) 125 dX9_planned_117 rfl ⟨by omega, by omega⟩ (fun c117 => ?_) (fun c117 => ?_)
          · skip
            refine ap_ald_0 (pc := 125) dX9_planned_125 ?_
            refine ap_getI (pc := 126) (jz := 8) dX9_planned_126 fl_RX9_128 sh_100 rfl rfl ?_
            skip
            exact ap_ireturn (pc := 129) dX9_planned_129 rfl (Or.inr ⟨by omega, by rw [hm6]; exact hL, Or.inr ⟨by rw [hm6]; omega, S, X, T, by rw [hm6, hie]; exact u1, by rw [if_neg (by omega), hz8.2]⟩, fun k j p q => by rw [u4 k j q]; exact f1 k j p q⟩)
          · skip
            refine ap_ild_4 (pc := 120) dX9_planned_120 ?_
            refine ap_goto (pc := 122) 129 dX9_planned_122 rfl ?_
            exact ap_ireturn (pc := 129) dX9_planned_129 rfl (Or.inr ⟨by omega, by rw [hm6]; exact hL, Or.inr ⟨by rw [hm6]; omega, S, X, T, by rw [hm6, hie]; exact u1, by rw [if_pos (by omega), hz8.1]⟩, fun k j p q => by rw [u4 k j q]; exact f1 k j p q⟩)
        · skip
          refine ap_ald_0 (pc := 46) dX9_planned_46 ?_
          refine ap_ild_3 (pc := 47) dX9_planned_47 ?_
          refine ap_invV (pc := 48) dX9_planned_48 mv_RX9_134 sh_100 (av := [_]) (rest := []) (qX9_cap _ _ w cmi hs hv) rfl rfl (Nat.le_of_ble_eq_true rfl) (by decide) (by decide) ?_
          rintro _ _ ⟨rfl, rfl⟩
          refine ap_ist_6 (pc := 51) dX9_planned_51 (by decide) ?_
          refine ap_const (pc := 53) dX9_planned_53 ?_
          refine ap_ist_4 (pc := 54) dX9_planned_54 (by decide) ?_
          refine ap_ald_0 (pc := 56) dX9_planned_56 ?_
          refine ap_ild_3 (pc := 57) dX9_planned_57 ?_
          refine ap_ild_4 (pc := 58) dX9_planned_58 ?_
          refine ap_ild_6 (pc := 60) dX9_planned_60 ?_
          refine ap_invV (pc := 62) dX9_planned_62 mv_RX9_137 sh_100 (av := [_, _, _]) (rest := []) (qX9_behind _ _ _ _ w cmi hs hv ⟨by omega, by omega⟩ hcap) rfl rfl (Nat.le_of_ble_eq_true rfl) (by decide) (by decide) ?_
          rintro _ m2 ⟨nx0, rfl, hnx0, hh0, hf0⟩
          refine ap_ist_7 (pc := 65) dX9_planned_65 (by decide) ?_
          refine AP.bk (up_rec 62 (fun j => ∀ (nx : Int) (mk : AM), (((opS W (S i) (1 + (j : Int)) ∧ melS M (S i) (1 + (j : Int)) ≤ burS B (capS B (S i)) (S i) (1 + (j : Int))) ∧ nx = S i + stp (1 + (j : Int))) ∨ (¬ (opS W (S i) (1 + (j : Int)) ∧ melS M (S i) (1 + (j : Int)) ≤ burS B (capS B (S i)) (S i) (1 + (j : Int))) ∧ nx = -1)) → (opS W (S i) (1 + (j : Int)) → mk 100 8 = melS M (S i) (1 + (j : Int))) → (∀ (k : Nat) (j : Int), (k ≠ 100 ∨ j ≠ 8) → mk k j = m1 k j) → (∀ y : Int, 1 ≤ y → y < 1 + (j : Int) → okS W M B (S i) y → m1 106 (S i + stp y) ≠ m1 106 (S i) - 1) → AP 3 mX9_planned 67 [some (.inr 100), some (.inl ix), some (.inl wt), some (.inl (S i)), some (.inl (1 + (j : Int))), some (.inl (i : Int)), some (.inl (capS B (S i))), some (.inl nx)] [] mk (fun v m' => (¬ (0 ≤ ix ∧ 0 ≤ wt ∧ wt ≤ 1) ∧ v = some (-1) ∧ m' = m) ∨ ((0 ≤ ix ∧ 0 ≤ wt ∧ wt ≤ 1) ∧ isLF W M B (m' 106) ∧ ((m' 106 0 ≤ ix ∧ v = some (-4)) ∨ (ix < m' 106 0 ∧ ∃ S X T : Int → Int, isWay W M B (m' 106) (ix + 1) S X T ∧ v = some (if wt = 0 then X ix else T ix))) ∧ ∀ (k : Nat) (j : Int), k ≠ 106 → (k ≠ 100 ∨ j ≠ 8) → m' k j = m k j))) (by omega) (fun j hj jh nx mk z1 z2 z3 z4 => ?_) nx0 m2 hnx0 hh0 (fun k j q => by rw [hf0 k j q]; exact u4 k j q) (fun y a b => by omega)) ⟨rfl, rfl, rfl, rfl, rfl, rfl, rfl, rfl, trivial⟩ rfl
          have cmk : moP W M B mk := moP_frame (fun j => by rw [z3 101 j (by omega)]; exact f1 101 j (by omega) (by omega)) c
          have hk106 : ∀ t : Int, mk 106 t = m1 106 t := fun t => z3 106 t (by omega)
          have hsr := LF_rng w hL 4096 (S i) hs.1 hs.2 (by omega)
          refine ap_ild_7 (pc := 67) dX9_planned_67 ?_
          refine ap_if_lt (pc := 69) 90 dX9_planned_69 rfl (by rcases z1 with q | q; (have hop := op_next w hs.1 hs.2 hv q.1.1; constructor <;> omega); (constructor <;> omega)) (fun c69 => ?_) (fun c69 => ?_)
          · skip
            have hj62 : (j : Int) < 62 := (by
                have hxj : isSet (1 + (j : Int)) := ⟨by omega, by omega⟩
                obtain ⟨x0, x1, x2, x3⟩ := nx_ex hL hs.1 hs.2 hv (by omega)
                have q1 : x0 ≠ 1 + (j : Int) := fun e => by
                  rw [e] at x2
                  rcases z1 with q | q
                  · have hop := op_next w hs.1 hs.2 hv q.1.1
                    omega
                  · exact q.1 x2
                have q2 : ¬ x0 < 1 + (j : Int) := fun e => z4 x0 x1.1 e x2 x3
                have := x1.2
                omega)
            refine ap_iinc_4 (pc := 90) dX9_planned_90 (by decide) ?_
            refine ap_ald_0 (pc := 93) dX9_planned_93 ?_
            refine ap_ild_3 (pc := 94) dX9_planned_94 ?_
            refine ap_ild_4 (pc := 95) dX9_planned_95 ?_
            refine ap_ild_6 (pc := 97) dX9_planned_97 ?_
            refine ap_invV (pc := 99) dX9_planned_99 mv_RX9_137 sh_100 (av := [_, _, _]) (rest := []) (qX9_behind _ _ _ _ w cmk hs hv ⟨by omega, by omega⟩ hcap) rfl rfl (Nat.le_of_ble_eq_true rfl) (by decide) (by decide) ?_
            rintro _ m3 ⟨nx1, rfl, hnx1, hh1, hf1⟩
            refine ap_ist_7 (pc := 102) dX9_planned_102 (by decide) ?_
            refine ap_goto (pc := 104) 67 dX9_planned_104 rfl ?_
            exact (jh hj62 nx1 m3 (by rw [show (1 : Int) + ((j + 1 : Nat) : Int) = 1 + j + 1 by omega]; exact hnx1) (by rw [show (1 : Int) + ((j + 1 : Nat) : Int) = 1 + j + 1 by omega]; exact hh1) (fun k j q => by rw [hf1 k j q]; exact z3 k j q) (by rw [show (1 : Int) + ((j + 1 : Nat) : Int) = 1 + j + 1 by omega]; exact (fun y a b oy ey => by
                by_cases e : y = 1 + (j : Int)
                · subst e
                  have x2 := oy
                  have x3 := ey
                  have e : (0 : Int) = 0 := rfl
                  rcases z1 with q | q
                  · have hop := op_next w hs.1 hs.2 hv q.1.1
                    omega
                  · exact q.1 oy
                · exact z4 y a (by omega) oy ey))).bk ⟨rfl, rfl, rfl, rfl, by rw [show (1 : Int) + ((j + 1 : Nat) : Int) = 1 + j + 1 by omega], rfl, rfl, rfl, trivial⟩ rfl
          · skip
            have hnn : nx < 4096 := by
              rcases z1 with q | q
              · have hop := op_next w hs.1 hs.2 hv q.1.1
                omega
              · omega
            have hnr := LF_rng w hL 4096 nx (by omega) hnn (by omega)
            have hn1 : -1 ≤ m1 106 nx ∧ m1 106 nx ≤ 4095 := by omega
            refine ap_ald_0 (pc := 72) dX9_planned_72 ?_
            refine ap_getR (pc := 73) dX9_planned_73 fl_RX9_25 sh_100 rfl ?_
            refine ap_ild_7 (pc := 76) dX9_planned_76 ?_
            refine ap_iaload (pc := 78) dX9_planned_78 sh_106 (by omega) (by omega) (by decide) ?_
            skip
            rw [hk106]
            refine ap_ald_0 (pc := 79) dX9_planned_79 ?_
            refine ap_getR (pc := 80) dX9_planned_80 fl_RX9_25 sh_100 rfl ?_
            refine ap_ild_3 (pc := 83) dX9_planned_83 ?_
            refine ap_iaload (pc := 84) dX9_planned_84 sh_106 (by omega) (by omega) (by decide) ?_
            skip
            rw [hk106]
            refine ap_const (pc := 85) dX9_planned_85 ?_
            refine ap_isub (pc := 86) dX9_planned_86 ?_
            skip
            refine ap_icmp_eq (pc := 87) 107 dX9_planned_87 rfl (Or.inr ⟨by constructor <;> omega, by constructor <;> omega⟩) (fun c87 => ?_) (fun c87 => ?_)
            · skip
              refine ap_ild_7 (pc := 107) dX9_planned_107 ?_
              refine ap_ist_3 (pc := 109) dX9_planned_109 (by decide) ?_
              refine ap_iinc_5 (pc := 110) dX9_planned_110 (by decide) ?_
              refine ap_goto (pc := 113) 40 dX9_planned_113 rfl ?_
              have hok : okS W M B (S i) (1 + (j : Int)) ∧ nx = S i + stp (1 + (j : Int)) := by
                rcases z1 with q | q
                · exact q
                · omega
              obtain ⟨hok, rfl⟩ := hok
              have hop := op_next w hs.1 hs.2 hv hok.1
              have hxj : isSet (1 + (j : Int)) := ⟨by omega, by omega⟩
              have hnx : isNx W M B (m1 106) (S i) (1 + (j : Int)) := ⟨hxj, hok, c87, fun y hy oy ey => by
                by_cases e : y < 1 + (j : Int)
                · exact absurd ey (z4 y hy.1 e oy)
                · omega⟩
              exact (ih (by omega) (rup S (i + 1) (S i + stp (1 + (j : Int)))) (rup X i (1 + (j : Int))) (rup T i (melS M (S i) (1 + (j : Int)))) _ mk ⟨by rw [rup_ne (by omega)]; exact u1.1, fun k a b => by
                  by_cases e : k = (i : Int)
                  · subst e
                    rw [rup_ne (by omega), rup_same, rup_same, rup_same]
                    exact ⟨hnx, rfl, rfl⟩
                  · rw [rup_ne (by omega), rup_ne (by omega), rup_ne (by omega), rup_ne (by omega)]
                    exact u1.2 k a (by omega)⟩ (by
                  rw [show ((i + 1 : Nat) : Int) = (i : Int) + 1 by omega, rup_same]
                  exact ⟨hop.2.2, hop.1, by rw [c87]; omega⟩) (fun _ => by
                  rw [show ((i + 1 : Nat) : Int) - 1 = (i : Int) by omega, rup_same, rup_same]
                  exact ⟨rfl, z2 hok.1⟩) z3).bk ⟨rfl, rfl, rfl, by rw [show ((i + 1 : Nat) : Int) = (i : Int) + 1 by omega, rup_same], rfl, rfl, trivial, trivial, trivial⟩ rfl
            · skip
              have hj62 : (j : Int) < 62 := (by
                  have hxj : isSet (1 + (j : Int)) := ⟨by omega, by omega⟩
                  obtain ⟨x0, x1, x2, x3⟩ := nx_ex hL hs.1 hs.2 hv (by omega)
                  have q1 : x0 ≠ 1 + (j : Int) := fun e => by
                    rw [e] at x3
                    rcases z1 with q | q
                    · rw [← q.2] at x3; exact c87 x3
                    · omega
                  have q2 : ¬ x0 < 1 + (j : Int) := fun e => z4 x0 x1.1 e x2 x3
                  have := x1.2
                  omega)
              refine ap_iinc_4 (pc := 90) dX9_planned_90 (by decide) ?_
              refine ap_ald_0 (pc := 93) dX9_planned_93 ?_
              refine ap_ild_3 (pc := 94) dX9_planned_94 ?_
              refine ap_ild_4 (pc := 95) dX9_planned_95 ?_
              refine ap_ild_6 (pc := 97) dX9_planned_97 ?_
              refine ap_invV (pc := 99) dX9_planned_99 mv_RX9_137 sh_100 (av := [_, _, _]) (rest := []) (qX9_behind _ _ _ _ w cmk hs hv ⟨by omega, by omega⟩ hcap) rfl rfl (Nat.le_of_ble_eq_true rfl) (by decide) (by decide) ?_
              rintro _ m3 ⟨nx1, rfl, hnx1, hh1, hf1⟩
              refine ap_ist_7 (pc := 102) dX9_planned_102 (by decide) ?_
              refine ap_goto (pc := 104) 67 dX9_planned_104 rfl ?_
              exact (jh hj62 nx1 m3 (by rw [show (1 : Int) + ((j + 1 : Nat) : Int) = 1 + j + 1 by omega]; exact hnx1) (by rw [show (1 : Int) + ((j + 1 : Nat) : Int) = 1 + j + 1 by omega]; exact hh1) (fun k j q => by rw [hf1 k j q]; exact z3 k j q) (by rw [show (1 : Int) + ((j + 1 : Nat) : Int) = 1 + j + 1 by omega]; exact (fun y a b oy ey => by
                  by_cases e : y = 1 + (j : Int)
                  · subst e
                    have x2 := oy
                    have x3 := ey
                    have e : (0 : Int) = 0 := rfl
                    rcases z1 with q | q
                    · rw [← q.2] at ey; exact c87 ey
                    · omega
                  · exact z4 y a (by omega) oy ey))).bk ⟨rfl, rfl, rfl, rfl, by rw [show (1 : Int) + ((j + 1 : Nat) : Int) = 1 + j + 1 by omega], rfl, rfl, rfl, trivial⟩ rfl
      · skip
        refine ap_bipush (pc := 29) dX9_planned_29 bp_m4 ?_
        exact ap_ireturn (pc := 31) dX9_planned_31 rfl (Or.inr ⟨by omega, hL, Or.inl ⟨by omega, rfl⟩, f1⟩)
    · skip
      refine ap_if_ne (pc := 10) 15 dX9_planned_10 rfl ⟨by omega, by omega⟩ (fun c10 => absurd c10 (by decide)) (fun _ => ?_)
      refine ap_const (pc := 13) dX9_planned_13 ?_
      exact ap_ireturn (pc := 14) dX9_planned_14 rfl (Or.inl ⟨by omega, rfl, rfl⟩)
