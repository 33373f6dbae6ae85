
def isLF1 (W : Int → Int) (M B : Int → Int → Int) (L : Int → Int) (s : Int) : Prop := (¬ valS W s → L s = -1) ∧ (fulS W s → L s = 0) ∧ (valS W s → ¬ fulS W s → (L s = -1 ∧ ∀ x : Int, isSet x → okS W M B s x → L (s + stp x) < 0) ∨ (∃ x : Int, isSet x ∧ okS W M B s x ∧ 0 ≤ L (s + stp x) ∧ L s = L (s + stp x) + 1 ∧ ∀ y : Int, isSet y → okS W M B s y → 0 ≤ L (s + stp y) → L s ≤ L (s + stp y) + 1))
theorem LF1_congr {W : Int → Int} {M B : Int → Int → Int} {L L' : Int → Int} {t : Int} (h : ∀ u : Int, t ≤ u → L' u = L u) (f : isLF1 W M B L t) : isLF1 W M B L' t := by
  obtain ⟨f1, f2, f3⟩ := f
  have hx : ∀ x : Int, isSet x → L' (t + stp x) = L (t + stp x) := fun x q => h _ (by have := stp_pos q.1 q.2; omega)
  have h0 := h t (Int.le_refl _)
  refine ⟨fun z => by rw [h0]; exact f1 z, fun z => by rw [h0]; exact f2 z, fun z z2 => ?_⟩
  rcases f3 z z2 with ⟨a, b⟩ | ⟨x, a, b, c, d, e⟩
  · exact Or.inl ⟨by rw [h0]; exact a, fun x q o => by rw [hx x q]; exact b x q o⟩
  · exact Or.inr ⟨x, a, b, by rw [hx x a]; exact c, by rw [hx x a, h0]; exact d, fun y q o => by rw [hx y q, h0]; exact e y q o⟩
/-- what is left by the sets below one -/
def leftP (W : Int → Int) (M B : Int → Int → Int) (L : Int → Int) (s n a : Int) : Prop := (a = -1 ∧ ∀ x : Int, 1 ≤ x → x < n → okS W M B s x → L (s + stp x) < 0) ∨ (∃ x : Int, (1 ≤ x ∧ x < n) ∧ okS W M B s x ∧ 0 ≤ L (s + stp x) ∧ a = L (s + stp x) + 1 ∧ ∀ y : Int, 1 ≤ y → y < n → okS W M B s y → 0 ≤ L (s + stp y) → a ≤ L (s + stp y) + 1)
theorem lp_no {W : Int → Int} {M B : Int → Int → Int} {L : Int → Int} {s n a : Int} (h : leftP W M B L s n a) (q : ¬ okS W M B s n ∨ L (s + stp n) < 0 ∨ (0 ≤ a ∧ a ≤ L (s + stp n) + 1)) : leftP W M B L s (n + 1) a := by
  rcases h with ⟨h1, h2⟩ | ⟨x, h1, h2, h3, h4, h5⟩
  · refine Or.inl ⟨h1, fun y y0 y1 ok => ?_⟩
    by_cases e : y = n
    · subst e
      rcases q with q | q | q
      · exact absurd ok q
      · exact q
      · omega
    · exact h2 y y0 (by omega) ok
  · refine Or.inr ⟨x, ⟨h1.1, by omega⟩, h2, h3, h4, fun y y0 y1 ok z => ?_⟩
    by_cases e : y = n
    · subst e
      rcases q with q | q | q
      · exact absurd ok q
      · omega
      · omega
    · exact h5 y y0 (by omega) ok z
theorem lp_yes {W : Int → Int} {M B : Int → Int → Int} {L : Int → Int} {s n a : Int} (h : leftP W M B L s n a) (hn : 1 ≤ n) (ok : okS W M B s n) (l0 : 0 ≤ L (s + stp n)) (q : a < 0 ∨ L (s + stp n) + 1 < a) : leftP W M B L s (n + 1) (L (s + stp n) + 1) := by
  refine Or.inr ⟨n, ⟨hn, by omega⟩, ok, l0, rfl, fun y y0 y1 oky z => ?_⟩
  by_cases e : y = n
  · subst e; exact Int.le_refl _
  · rcases h with ⟨h1, h2⟩ | ⟨x, h1, h2, h3, h4, h5⟩
    · have := h2 y y0 (by omega) oky; omega
    · have := h5 y y0 (by omega) oky z; omega
theorem LF1_new {W : Int → Int} {M B : Int → Int → Int} {L L' : Int → Int} {s a : Int} (h : ∀ u : Int, s < u → L' u = L u) (v : valS W s) (nf : ¬ fulS W s) (lp : leftP W M B L s 64 a) (hs : L' s = a) : isLF1 W M B L' s := by
  have hx : ∀ x : Int, isSet x → L' (s + stp x) = L (s + stp x) := fun x q => h _ (by have := stp_pos q.1 q.2; omega)
  refine ⟨fun z => absurd v z, fun z => absurd z nf, fun _ _ => ?_⟩
  rcases lp with ⟨h1, h2⟩ | ⟨x, h1, h2, h3, h4, h5⟩
  · exact Or.inl ⟨by rw [hs]; exact h1, fun x q ok => by rw [hx x q]; exact h2 x q.1 q.2 ok⟩
  · have hxs : isSet x := h1
    exact Or.inr ⟨x, hxs, h2, by rw [hx x hxs]; exact h3, by rw [hs, hx x hxs]; exact h4, fun y q ok z => by
      rw [hx y q] at z
      rw [hs, hx y q]; exact h5 y q.1 q.2 ok z⟩
theorem lp_bd {W : Int → Int} {M B : Int → Int → Int} (w : wOK W M B) {L : Int → Int} {s n a : Int} (h0 : 0 ≤ s) (h1 : s < 4096) (v : valS W s) (hn : n ≤ 64) (hL : ∀ t : Int, s < t → t < 4096 → -1 ≤ L t ∧ L t ≤ 4095 - t) (lp : leftP W M B L s n a) : -1 ≤ a ∧ a ≤ 4095 - s := by
  rcases lp with ⟨h1, h2⟩ | ⟨x, h1, h2, h3, h4, h5⟩
  · omega
  · have hop := op_next w h0 (by assumption) v h2.1
    have hsp := stp_pos h1.1 (by omega)
    have := hL (s + stp x) (by omega) hop.1.2
    omega
set_option maxHeartbeats 4000000 in
theorem qX9_plans {W : Int → Int} {M B : Int → Int → Int} (m : AM) (w : wOK W M B) (c : moP W M B m) : CS 2 mX9_plans [.inr 100] m (fun v m' => v = none ∧ isLF W M B (m' 106) ∧ ∀ (k : Nat) (j : Int), k ≠ 106 → (k ≠ 100 ∨ j ≠ 8) → m' k j = m k j) := by
  refine cs_of (by decide +kernel) (Nat.le_of_ble_eq_true rfl) rfl ?_
  refine ap_sipush (pc := 0) dX9_plans_0 sp_4095 ?_
  refine ap_ist_1 (pc := 3) dX9_plans_3 (by decide) ?_
  refine AP.bk (up_rec 4096 (fun i => ∀ mi : AM, (∀ t : Int, 4096 - i ≤ t → t < 4096 → isLF1 W M B (mi 106) t ∧ (-1 ≤ mi 106 t ∧ mi 106 t ≤ 4095 - t)) → (∀ (k : Nat) (j : Int), k ≠ 106 → (k ≠ 100 ∨ j ≠ 8) → mi k j = m k j) → AP 2 mX9_plans 4 [some (.inr 100), some (.inl (4095 - (i : Int))), none, none, none, none, none] [] mi (fun v m' => v = none ∧ isLF W M B (m' 106) ∧ ∀ (k : Nat) (j : Int), k ≠ 106 → (k ≠ 100 ∨ j ≠ 8) → m' k j = m k j)) (by omega) (fun i hi ih mi u1 u2 => ?_) m (fun t a b => by omega) (fun _ _ _ _ => rfl)) ⟨rfl, rfl, trivial, trivial, trivial, trivial, trivial, trivial⟩ rfl
  have cmi : moP W M B mi := moP_frame (fun j => u2 101 j (by omega) (by omega)) c
  refine ap_ild_1 (pc := 4) dX9_plans_4 ?_
  refine ap_if_lt (pc := 5) 201 dX9_plans_5 rfl ⟨by omega, by omega⟩ (fun c5 => ?_) (fun c5 => ?_)
  · skip
    exact ap_return (pc := 201) dX9_plans_201 rfl ⟨rfl, fun s a b => (u1 s (by omega) b).1, u2⟩
  · skip
    have hs : 0 ≤ (4095 - (i : Int)) ∧ (4095 - (i : Int)) < 4096 := ⟨by omega, by omega⟩
    have cm := moP_frame (m := mi) (m' := am_up mi 106 (4095 - (i : Int)) (-1)) (fun j => by rw [am_k (by omega)]) cmi
    refine ap_ald_0 (pc := 8) dX9_plans_8 ?_
    refine ap_getR (pc := 9) dX9_plans_9 fl_RX9_25 sh_100 rfl ?_
    refine ap_ild_1 (pc := 12) dX9_plans_12 ?_
    refine ap_const (pc := 13) dX9_plans_13 ?_
    refine ap_iastore (pc := 14) dX9_plans_14 sh_106 (by omega) (by omega) (by decide) ?_
    refine ap_ald_0 (pc := 15) dX9_plans_15 ?_
    refine ap_ild_1 (pc := 16) dX9_plans_16 ?_
    refine ap_invV (pc := 17) dX9_plans_17 mv_RX9_131 sh_100 (av := [_]) (rest := []) (qX9_isWithin _ _ w cm hs) rfl rfl (Nat.le_of_ble_eq_true rfl) (by decide) (by decide) ?_
    rintro _ _ ⟨⟨w17, rfl⟩ | ⟨w17, rfl⟩, rfl⟩
    · skip
      refine ap_ist_2 (pc := 20) dX9_plans_20 (by decide) ?_
      refine ap_ild_2 (pc := 21) dX9_plans_21 ?_
      refine ap_if_eq (pc := 22) 33 dX9_plans_22 rfl ⟨by omega, by omega⟩ (fun c22 => absurd c22 (by decide)) (fun _ => ?_)
      refine ap_ald_0 (pc := 25) dX9_plans_25 ?_
      refine ap_ild_1 (pc := 26) dX9_plans_26 ?_
      refine ap_invV (pc := 27) dX9_plans_27 mv_RX9_134 sh_100 (av := [_]) (rest := []) (qX9_cap _ _ w (moP_frame (fun j => by rw [am_k (by omega)]) cm) hs w17) rfl rfl (Nat.le_of_ble_eq_true rfl) (by decide) (by decide) ?_
      rintro _ _ ⟨rfl, rfl⟩
      refine ap_goto (pc := 30) 34 dX9_plans_30 rfl ?_
      refine ap_ist_3 (pc := 34) dX9_plans_34 (by decide) ?_
      refine ap_const (pc := 35) dX9_plans_35 ?_
      refine ap_ist_4 (pc := 36) dX9_plans_36 (by decide) ?_
      refine ap_const (pc := 38) dX9_plans_38 ?_
      refine ap_ist_5 (pc := 39) dX9_plans_39 (by decide) ?_
      refine AP.bk (up_rec 6 (fun g => ∀ b : Int, ((b = 1 ∧ ∀ f : Int, 0 ≤ f → f < g → dg (4095 - (i : Int)) f = W f) ∨ (b = 0 ∧ ¬ ∀ f : Int, 0 ≤ f → f < g → dg (4095 - (i : Int)) f = W f)) → AP 2 mX9_plans 41 [some (.inr 100), some (.inl (4095 - (i : Int))), some (.inl 1), some (.inl (capS B (4095 - (i : Int)))), some (.inl b), some (.inl (g : Int)), none] [] (am_up mi 106 (4095 - (i : Int)) (-1)) (fun v m' => v = none ∧ isLF W M B (m' 106) ∧ ∀ (k : Nat) (j : Int), k ≠ 106 → (k ≠ 100 ∨ j ≠ 8) → m' k j = m k j)) (by omega) (fun g hg gh b hb => ?_) 1 (Or.inl ⟨rfl, fun f a q => by omega⟩)) ⟨rfl, rfl, rfl, rfl, rfl, rfl, trivial, trivial⟩ rfl
      have hb01 : b = 0 ∨ b = 1 := by rcases hb with q | q; exact Or.inr q.1; exact Or.inl q.1
      refine ap_ild_5 (pc := 41) dX9_plans_41 ?_
      refine ap_bipush (pc := 43) dX9_plans_43 bp_6 ?_
      refine ap_icmp_ge (pc := 45) 87 dX9_plans_45 rfl ⟨by omega, by omega⟩ ⟨by omega, by omega⟩ (fun c45 => ?_) (fun c45 => ?_)
      · skip
        obtain rfl : g = 6 := by omega
        rcases hb with ⟨rfl, hfu⟩ | ⟨rfl, hfu⟩
        · skip
          refine ap_ald_0 (pc := 87) dX9_plans_87 ?_
          refine ap_getR (pc := 88) dX9_plans_88 fl_RX9_25 sh_100 rfl ?_
          refine ap_ild_1 (pc := 91) dX9_plans_91 ?_
          refine ap_ild_4 (pc := 92) dX9_plans_92 ?_
          refine ap_if_eq (pc := 94) 101 dX9_plans_94 rfl ⟨by omega, by omega⟩ (fun c94 => absurd c94 (by decide)) (fun _ => ?_)
          refine ap_const (pc := 97) dX9_plans_97 ?_
          refine ap_goto (pc := 98) 102 dX9_plans_98 rfl ?_
          refine ap_iastore (pc := 102) dX9_plans_102 sh_106 (by omega) (by omega) (by decide) ?_
          refine ap_const (pc := 103) dX9_plans_103 ?_
          refine ap_ist_5 (pc := 104) dX9_plans_104 (by decide) ?_
          refine ap_ild_5 (pc := 106) dX9_plans_106 ?_
          refine ap_bipush (pc := 108) dX9_plans_108 bp_64 ?_
          refine ap_icmp_ge (pc := 110) 195 dX9_plans_110 rfl ⟨by omega, by omega⟩ ⟨by omega, by omega⟩ (fun c110 => absurd c110 (by decide)) (fun _ => ?_)
          refine ap_ild_2 (pc := 113) dX9_plans_113 ?_
          refine ap_if_eq (pc := 114) 195 dX9_plans_114 rfl ⟨by omega, by omega⟩ (fun c114 => absurd c114 (by decide)) (fun _ => ?_)
          refine ap_ild_4 (pc := 117) dX9_plans_117 ?_
          refine ap_if_ne (pc := 119) 195 dX9_plans_119 rfl ⟨by omega, by omega⟩ (fun _ => ?_) (fun c119 => absurd c119 (by decide))
          refine ap_iinc_1 (pc := 195) dX9_plans_195 (by decide) ?_
          refine ap_goto (pc := 198) 4 dX9_plans_198 rfl ?_
          exact (ih (by omega) _ (fun t a b => by
              by_cases et : t = 4095 - (i : Int)
              · subst et
                exact ⟨⟨fun z => absurd w17 z, fun _ => by rw [am_same], fun _ z => absurd (fun f a q => hfu f a q) z⟩, by rw [am_same]; omega⟩
              · refine ⟨LF1_congr (L := mi 106) (fun u z => by rw [am_j (by omega), am_j (by omega)]) (u1 t (by omega) b).1, ?_⟩
                rw [am_j et, am_j et]; exact (u1 t (by omega) b).2) (fun k j q q2 => by rw [am_k q, am_k q]; exact u2 k j q q2)).bk ⟨rfl, by rw [show (4095 : Int) - ((i + 1 : Nat) : Int) = 4095 - i + -1 by omega], trivial, trivial, trivial, trivial, trivial, trivial⟩ rfl
        · skip
          refine ap_ald_0 (pc := 87) dX9_plans_87 ?_
          refine ap_getR (pc := 88) dX9_plans_88 fl_RX9_25 sh_100 rfl ?_
          refine ap_ild_1 (pc := 91) dX9_plans_91 ?_
          refine ap_ild_4 (pc := 92) dX9_plans_92 ?_
          refine ap_if_eq (pc := 94) 101 dX9_plans_94 rfl ⟨by omega, by omega⟩ (fun _ => ?_) (fun c94 => absurd c94 (by decide))
          refine ap_const (pc := 101) dX9_plans_101 ?_
          refine ap_iastore (pc := 102) dX9_plans_102 sh_106 (by omega) (by omega) (by decide) ?_
          refine ap_const (pc := 103) dX9_plans_103 ?_
          refine ap_ist_5 (pc := 104) dX9_plans_104 (by decide) ?_
          refine AP.bk (up_rec 63 (fun j => ∀ (a : Int) (mj : AM), leftP W M B (mi 106) (4095 - (i : Int)) (1 + j) a → mj 106 (4095 - (i : Int)) = a → (∀ t : Int, t ≠ 4095 - (i : Int) → mj 106 t = mi 106 t) → (∀ (k : Nat) (j : Int), k ≠ 106 → (k ≠ 100 ∨ j ≠ 8) → mj k j = mi k j) → AP 2 mX9_plans 106 [some (.inr 100), some (.inl (4095 - (i : Int))), some (.inl 1), some (.inl (capS B (4095 - (i : Int)))), some (.inl 0), some (.inl (1 + (j : Int))), none] [] mj (fun v m' => v = none ∧ isLF W M B (m' 106) ∧ ∀ (k : Nat) (j : Int), k ≠ 106 → (k ≠ 100 ∨ j ≠ 8) → m' k j = m k j)) (by omega) (fun j hj jh a mj z1 z2 z3 z4 => ?_) (-1) _ (Or.inl ⟨rfl, fun x p q => by omega⟩) (by rw [am_same]) (fun t q => by rw [am_j q, am_j q]) (fun k j p q => by rw [am_k p, am_k p])) ⟨rfl, rfl, rfl, rfl, rfl, rfl, trivial, trivial⟩ rfl
          have cmj : moP W M B mj := moP_frame (fun j => z4 101 j (by omega) (by omega)) cm
          have hcap := cap_bd2 w w17 6 (Nat.le_refl _)
          have hbd := lp_bd w hs.1 hs.2 w17 (by omega) (fun t p q => (u1 t (by omega) q).2) z1
          refine ap_ild_5 (pc := 106) dX9_plans_106 ?_
          refine ap_bipush (pc := 108) dX9_plans_108 bp_64 ?_
          refine ap_icmp_ge (pc := 110) 195 dX9_plans_110 rfl ⟨by omega, by omega⟩ ⟨by omega, by omega⟩ (fun c110 => ?_) (fun c110 => ?_)
          · skip
            refine ap_iinc_1 (pc := 195) dX9_plans_195 (by decide) ?_
            refine ap_goto (pc := 198) 4 dX9_plans_198 rfl ?_
            exact (ih (by omega) _ (fun t a b => by
                by_cases et : t = 4095 - (i : Int)
                · subst et
                  have e64 : (1 : Int) + (j : Int) = 64 := by omega
                  rw [e64] at z1
                  exact ⟨LF1_new (L := mi 106) (fun u z => z3 u (by omega)) w17 (fun z => hfu (fun f a q => z f a q)) z1 z2, by rw [z2]; exact hbd⟩
                · refine ⟨LF1_congr (L := mi 106) (fun u z => z3 u (by omega)) (u1 t (by omega) b).1, ?_⟩
                  rw [z3 t et]; exact (u1 t (by omega) b).2) (fun k j q q2 => by rw [z4 k j q q2]; exact u2 k j q q2)).bk ⟨rfl, by rw [show (4095 : Int) - ((i + 1 : Nat) : Int) = 4095 - i + -1 by omega], trivial, trivial, trivial, trivial, trivial, trivial⟩ rfl
          · skip
            refine ap_ild_2 (pc := 113) dX9_plans_113 ?_
            refine ap_if_eq (pc := 114) 195 dX9_plans_114 rfl ⟨by omega, by omega⟩ (fun c114 => absurd c114 (by decide)) (fun _ => ?_)
            refine ap_ild_4 (pc := 117) dX9_plans_117 ?_
            refine ap_if_ne (pc := 119) 195 dX9_plans_119 rfl ⟨by omega, by omega⟩ (fun c119 => absurd c119 (by decide)) (fun _ => ?_)
            refine ap_ald_0 (pc := 122) dX9_plans_122 ?_
            refine ap_ild_1 (pc := 123) dX9_plans_123 ?_
            refine ap_ild_5 (pc := 124) dX9_plans_124 ?_
            refine ap_ild_3 (pc := 126) dX9_plans_126 ?_
            refine ap_invV (pc := 127) dX9_plans_127 mv_RX9_137 sh_100 (av := [_, _, _]) (rest := []) (qX9_behind _ _ _ _ w cmj hs w17 ⟨by omega, by omega⟩ hcap) rfl rfl (Nat.le_of_ble_eq_true rfl) (by decide) (by decide) ?_
            rintro _ m2 ⟨nx, rfl, hnx, hh, hf⟩
            have g2 : ∀ t : Int, m2 106 t = mj 106 t := fun t => hf 106 t (by omega)
            have hxs : isSet (1 + (j : Int)) := ⟨by omega, by omega⟩
            refine ap_ist_6 (pc := 130) dX9_plans_130 (by decide) ?_
            refine ap_ild_6 (pc := 132) dX9_plans_132 ?_
            refine ap_if_lt (pc := 134) 189 dX9_plans_134 rfl (by rcases hnx with q | q; (have hop := op_next w hs.1 hs.2 w17 q.1.1; constructor <;> omega); (constructor <;> omega)) (fun c134 => ?_) (fun c134 => ?_)
            · skip
              refine ap_iinc_5 (pc := 189) dX9_plans_189 (by decide) ?_
              refine ap_goto (pc := 192) 106 dX9_plans_192 rfl ?_
              exact (jh (by omega) a m2 (by rw [show (1 : Int) + ((j + 1 : Nat) : Int) = 1 + j + 1 by omega]; exact lp_no z1 (Or.inl (fun z => by rcases hnx with q | q; (have hop := op_next w hs.1 hs.2 w17 q.1.1; omega); exact q.1 z))) (by rw [g2]; exact z2) (fun t q => by rw [g2]; exact z3 t q) (fun k j q q2 => by rw [hf k j q2]; exact z4 k j q q2)).bk ⟨rfl, rfl, rfl, rfl, rfl, by rw [show (1 : Int) + ((j + 1 : Nat) : Int) = 1 + j + 1 by omega], trivial, trivial⟩ rfl
            · skip
              have hnn : okS W M B (4095 - (i : Int)) (1 + (j : Int)) ∧ nx = 4095 - (i : Int) + stp (1 + (j : Int)) := by
                rcases hnx with q | q
                · exact q
                · omega
              obtain ⟨hok, rfl⟩ := hnn
              have hop := op_next w hs.1 hs.2 w17 hok.1
              have hsp := stp_pos hxs.1 hxs.2
              have hLn := (u1 _ (by omega) hop.1.2).2
              have hme : mj 106 (4095 - (i : Int) + stp (1 + (j : Int))) = mi 106 (4095 - (i : Int) + stp (1 + (j : Int))) := z3 _ (by omega)
              refine ap_ald_0 (pc := 137) dX9_plans_137 ?_
              refine ap_getR (pc := 138) dX9_plans_138 fl_RX9_25 sh_100 rfl ?_
              refine ap_ild_6 (pc := 141) dX9_plans_141 ?_
              refine ap_iaload (pc := 143) dX9_plans_143 sh_106 (by omega) (by omega) (by decide) ?_
              (try simp (disch := omega) only [am_same, am_k, am_j]); (try simp only [g2])
              rw [hme]
              refine ap_if_lt (pc := 144) 189 dX9_plans_144 rfl ⟨by omega, by omega⟩ (fun c144 => ?_) (fun c144 => ?_)
              · skip
                refine ap_iinc_5 (pc := 189) dX9_plans_189 (by decide) ?_
                refine ap_goto (pc := 192) 106 dX9_plans_192 rfl ?_
                exact (jh (by omega) a m2 (by rw [show (1 : Int) + ((j + 1 : Nat) : Int) = 1 + j + 1 by omega]; exact lp_no z1 (Or.inr (Or.inl c144))) (by rw [g2]; exact z2) (fun t q => by rw [g2]; exact z3 t q) (fun k j q q2 => by rw [hf k j q2]; exact z4 k j q q2)).bk ⟨rfl, rfl, rfl, rfl, rfl, by rw [show (1 : Int) + ((j + 1 : Nat) : Int) = 1 + j + 1 by omega], trivial, trivial⟩ rfl
              · skip
                refine ap_ald_0 (pc := 147) dX9_plans_147 ?_
                refine ap_getR (pc := 148) dX9_plans_148 fl_RX9_25 sh_100 rfl ?_
                refine ap_ild_1 (pc := 151) dX9_plans_151 ?_
                refine ap_iaload (pc := 152) dX9_plans_152 sh_106 (by omega) (by omega) (by decide) ?_
                (try simp (disch := omega) only [am_same, am_k, am_j]); (try simp only [g2])
                rw [z2]
                refine ap_if_lt (pc := 153) 174 dX9_plans_153 rfl ⟨by omega, by omega⟩ (fun c153 => ?_) (fun c153 => ?_)
                · skip
                  refine ap_ald_0 (pc := 174) dX9_plans_174 ?_
                  refine ap_getR (pc := 175) dX9_plans_175 fl_RX9_25 sh_100 rfl ?_
                  refine ap_ild_1 (pc := 178) dX9_plans_178 ?_
                  refine ap_ald_0 (pc := 179) dX9_plans_179 ?_
                  refine ap_getR (pc := 180) dX9_plans_180 fl_RX9_25 sh_100 rfl ?_
                  refine ap_ild_6 (pc := 183) dX9_plans_183 ?_
                  refine ap_iaload (pc := 185) dX9_plans_185 sh_106 (by omega) (by omega) (by decide) ?_
                  (try simp (disch := omega) only [am_same, am_k, am_j]); (try simp only [g2])
                  rw [hme]
                  refine ap_const (pc := 186) dX9_plans_186 ?_
                  refine ap_iadd (pc := 187) dX9_plans_187 ?_
                  refine ap_iastore (pc := 188) dX9_plans_188 sh_106 (by omega) (by omega) (by decide) ?_
                  refine ap_iinc_5 (pc := 189) dX9_plans_189 (by decide) ?_
                  refine ap_goto (pc := 192) 106 dX9_plans_192 rfl ?_
                  exact (jh (by omega) _ _ (by rw [show (1 : Int) + ((j + 1 : Nat) : Int) = 1 + j + 1 by omega]; exact lp_yes z1 (by omega) hok c144 (Or.inl c153)) (by rw [am_same]) (fun t q => by rw [am_j q, g2]; exact z3 t q) (fun k j q q2 => by rw [am_k q, hf k j q2]; exact z4 k j q q2)).bk ⟨rfl, rfl, rfl, rfl, rfl, by rw [show (1 : Int) + ((j + 1 : Nat) : Int) = 1 + j + 1 by omega], trivial, trivial⟩ rfl
                · skip
                  refine ap_ald_0 (pc := 156) dX9_plans_156 ?_
                  refine ap_getR (pc := 157) dX9_plans_157 fl_RX9_25 sh_100 rfl ?_
                  refine ap_ild_6 (pc := 160) dX9_plans_160 ?_
                  refine ap_iaload (pc := 162) dX9_plans_162 sh_106 (by omega) (by omega) (by decide) ?_
                  (try simp (disch := omega) only [am_same, am_k, am_j]); (try simp only [g2])
                  rw [hme]
                  refine ap_const (pc := 163) dX9_plans_163 ?_
                  refine ap_iadd (pc := 164) dX9_plans_164 ?_
                  refine ap_ald_0 (pc := 165) dX9_plans_165 ?_
                  refine ap_getR (pc := 166) dX9_plans_166 fl_RX9_25 sh_100 rfl ?_
                  refine ap_ild_1 (pc := 169) dX9_plans_169 ?_
                  refine ap_iaload (pc := 170) dX9_plans_170 sh_106 (by omega) (by omega) (by decide) ?_
                  (try simp (disch := omega) only [am_same, am_k, am_j]); (try simp only [g2])
                  rw [z2]
                  refine ap_icmp_ge (pc := 171) 189 dX9_plans_171 rfl ⟨by omega, by omega⟩ ⟨by omega, by omega⟩ (fun c171 => ?_) (fun c171 => ?_)
                  · skip
                    refine ap_iinc_5 (pc := 189) dX9_plans_189 (by decide) ?_
                    refine ap_goto (pc := 192) 106 dX9_plans_192 rfl ?_
                    exact (jh (by omega) a m2 (by rw [show (1 : Int) + ((j + 1 : Nat) : Int) = 1 + j + 1 by omega]; exact lp_no z1 (Or.inr (Or.inr ⟨c153, c171⟩))) (by rw [g2]; exact z2) (fun t q => by rw [g2]; exact z3 t q) (fun k j q q2 => by rw [hf k j q2]; exact z4 k j q q2)).bk ⟨rfl, rfl, rfl, rfl, rfl, by rw [show (1 : Int) + ((j + 1 : Nat) : Int) = 1 + j + 1 by omega], trivial, trivial⟩ rfl
                  · skip
                    refine ap_ald_0 (pc := 174) dX9_plans_174 ?_
                    refine ap_getR (pc := 175) dX9_plans_175 fl_RX9_25 sh_100 rfl ?_
                    refine ap_ild_1 (pc := 178) dX9_plans_178 ?_
                    refine ap_ald_0 (pc := 179) dX9_plans_179 ?_
                    refine ap_getR (pc := 180) dX9_plans_180 fl_RX9_25 sh_100 rfl ?_
                    refine ap_ild_6 (pc := 183) dX9_plans_183 ?_
                    refine ap_iaload (pc := 185) dX9_plans_185 sh_106 (by omega) (by omega) (by decide) ?_
                    (try simp (disch := omega) only [am_same, am_k, am_j]); (try simp only [g2])
                    rw [hme]
                    refine ap_const (pc := 186) dX9_plans_186 ?_
                    refine ap_iadd (pc := 187) dX9_plans_187 ?_
                    refine ap_iastore (pc := 188) dX9_plans_188 sh_106 (by omega) (by omega) (by decide) ?_
                    refine ap_iinc_5 (pc := 189) dX9_plans_189 (by decide) ?_
                    refine ap_goto (pc := 192) 106 dX9_plans_192 rfl ?_
                    exact (jh (by omega) _ _ (by rw [show (1 : Int) + ((j + 1 : Nat) : Int) = 1 + j + 1 by omega]; exact lp_yes z1 (by omega) hok c144 (Or.inr c171)) (by rw [am_same]) (fun t q => by rw [am_j q, g2]; exact z3 t q) (fun k j q q2 => by rw [am_k q, hf k j q2]; exact z4 k j q q2)).bk ⟨rfl, rfl, rfl, rfl, rfl, by rw [show (1 : Int) + ((j + 1 : Nat) : Int) = 1 + j + 1 by omega], trivial, trivial⟩ rfl
        
      · skip
        refine ap_ild_4 (pc := 48) dX9_plans_48 ?_
        refine ap_if_eq (pc := 50) 78 dX9_plans_50 rfl (by constructor <;> omega) (fun c50 => ?_) (fun c50 => ?_)
        · skip
          refine ap_const (pc := 78) dX9_plans_78 ?_
          refine ap_ist_4 (pc := 79) dX9_plans_79 (by decide) ?_
          refine ap_iinc_5 (pc := 81) dX9_plans_81 (by decide) ?_
          refine ap_goto (pc := 84) 41 dX9_plans_84 rfl ?_
          exact (gh c45 0 (Or.inr ⟨rfl, fun z => (hb.resolve_left (by omega)).2 (fun f a q => z f a (by omega))⟩)).bk ⟨rfl, rfl, rfl, rfl, rfl, rfl, trivial, trivial⟩ rfl
        · skip
          have hd := dg_bd (4095 - (i : Int)) g
          have hwi := (w g (by omega) (by omega)).1
          have hci := (cm g (by omega) (by omega)).1
          rw [am_k (by omega)] at hci
          refine ap_ild_1 (pc := 53) dX9_plans_53 ?_
          refine ap_ild_5 (pc := 54) dX9_plans_54 ?_
          refine ap_invS (pc := 56) dX9_plans_56 ms_RX9_125 (av := [_, _]) (rest := []) (qX9_digit _ _ _ hs (by omega)) rfl rfl (Nat.le_of_ble_eq_true rfl) (by decide) (by decide) ?_
          rintro _ _ ⟨rfl, rfl⟩
          refine ap_ald_0 (pc := 59) dX9_plans_59 ?_
          refine ap_getR (pc := 60) dX9_plans_60 fl_RX9_7 sh_100 rfl ?_
          refine ap_bipush (pc := 63) dX9_plans_63 bp_126 ?_
          refine ap_const (pc := 65) dX9_plans_65 ?_
          refine ap_ild_5 (pc := 66) dX9_plans_66 ?_
          refine ap_imul (pc := 68) dX9_plans_68 ?_
          refine ap_iadd (pc := 69) dX9_plans_69 ?_
          refine ap_iaload (pc := 70) dX9_plans_70 sh_101 (by omega) (by omega) (by decide) ?_
          (try simp (disch := omega) only [am_same, am_k, am_j]); (try simp only [g2])
          refine ap_icmp_ne (pc := 71) 78 dX9_plans_71 rfl (Or.inr ⟨⟨by omega, by omega⟩, by constructor <;> omega⟩) (fun c71 => ?_) (fun c71 => ?_)
          · skip
            refine ap_const (pc := 78) dX9_plans_78 ?_
            refine ap_ist_4 (pc := 79) dX9_plans_79 (by decide) ?_
            refine ap_iinc_5 (pc := 81) dX9_plans_81 (by decide) ?_
            refine ap_goto (pc := 84) 41 dX9_plans_84 rfl ?_
            exact (gh c45 0 (Or.inr ⟨rfl, fun z => by have := z g (by omega) (by omega); omega⟩)).bk ⟨rfl, rfl, rfl, rfl, rfl, rfl, trivial, trivial⟩ rfl
          · skip
            refine ap_const (pc := 74) dX9_plans_74 ?_
            refine ap_goto (pc := 75) 79 dX9_plans_75 rfl ?_
            refine ap_ist_4 (pc := 79) dX9_plans_79 (by decide) ?_
            refine ap_iinc_5 (pc := 81) dX9_plans_81 (by decide) ?_
            refine ap_goto (pc := 84) 41 dX9_plans_84 rfl ?_
            exact (gh c45 1 (Or.inl ⟨rfl, fun f a q => by
                by_cases e : f = (g : Int)
                · subst e; omega
                · exact (hb.resolve_right (fun z => c50 z.1)).2 f a (by omega)⟩)).bk ⟨rfl, rfl, rfl, rfl, rfl, rfl, trivial, trivial⟩ rfl
    · skip
      refine ap_ist_2 (pc := 20) dX9_plans_20 (by decide) ?_
      refine ap_ild_2 (pc := 21) dX9_plans_21 ?_
      refine ap_if_eq (pc := 22) 33 dX9_plans_22 rfl ⟨by omega, by omega⟩ (fun _ => ?_) (fun c22 => absurd c22 (by decide))
      refine ap_const (pc := 33) dX9_plans_33 ?_
      refine ap_ist_3 (pc := 34) dX9_plans_34 (by decide) ?_
      refine ap_const (pc := 35) dX9_plans_35 ?_
      refine ap_ist_4 (pc := 36) dX9_plans_36 (by decide) ?_
      refine ap_const (pc := 38) dX9_plans_38 ?_
      refine ap_ist_5 (pc := 39) dX9_plans_39 (by decide) ?_
      refine AP.bk (up_rec 6 (fun g => ∀ b : Int, ((b = 1 ∧ ∀ f : Int, 0 ≤ f → f < g → dg (4095 - (i : Int)) f = W f) ∨ (b = 0 ∧ ¬ ∀ f : Int, 0 ≤ f → f < g → dg (4095 - (i : Int)) f = W f)) → AP 2 mX9_plans 41 [some (.inr 100), some (.inl (4095 - (i : Int))), some (.inl 0), some (.inl 0), some (.inl b), some (.inl (g : Int)), none] [] (am_up mi 106 (4095 - (i : Int)) (-1)) (fun v m' => v = none ∧ isLF W M B (m' 106) ∧ ∀ (k : Nat) (j : Int), k ≠ 106 → (k ≠ 100 ∨ j ≠ 8) → m' k j = m k j)) (by omega) (fun g hg gh b hb => ?_) 1 (Or.inl ⟨rfl, fun f a q => by omega⟩)) ⟨rfl, rfl, rfl, rfl, rfl, rfl, trivial, trivial⟩ rfl
      have hb01 : b = 0 ∨ b = 1 := by rcases hb with q | q; exact Or.inr q.1; exact Or.inl q.1
      refine ap_ild_5 (pc := 41) dX9_plans_41 ?_
      refine ap_bipush (pc := 43) dX9_plans_43 bp_6 ?_
      refine ap_icmp_ge (pc := 45) 87 dX9_plans_45 rfl ⟨by omega, by omega⟩ ⟨by omega, by omega⟩ (fun c45 => ?_) (fun c45 => ?_)
      · skip
        obtain rfl : g = 6 := by omega
        rcases hb with ⟨rfl, hfu⟩ | ⟨rfl, hfu⟩
        · skip
          exact absurd (ful_val (fun f a b => hfu f a b)) w17
        · skip
          refine ap_ald_0 (pc := 87) dX9_plans_87 ?_
          refine ap_getR (pc := 88) dX9_plans_88 fl_RX9_25 sh_100 rfl ?_
          refine ap_ild_1 (pc := 91) dX9_plans_91 ?_
          refine ap_ild_4 (pc := 92) dX9_plans_92 ?_
          refine ap_if_eq (pc := 94) 101 dX9_plans_94 rfl ⟨by omega, by omega⟩ (fun _ => ?_) (fun c94 => absurd c94 (by decide))
          refine ap_const (pc := 101) dX9_plans_101 ?_
          refine ap_iastore (pc := 102) dX9_plans_102 sh_106 (by omega) (by omega) (by decide) ?_
          refine ap_const (pc := 103) dX9_plans_103 ?_
          refine ap_ist_5 (pc := 104) dX9_plans_104 (by decide) ?_
          refine ap_ild_5 (pc := 106) dX9_plans_106 ?_
          refine ap_bipush (pc := 108) dX9_plans_108 bp_64 ?_
          refine ap_icmp_ge (pc := 110) 195 dX9_plans_110 rfl ⟨by omega, by omega⟩ ⟨by omega, by omega⟩ (fun c110 => absurd c110 (by decide)) (fun _ => ?_)
          refine ap_ild_2 (pc := 113) dX9_plans_113 ?_
          refine ap_if_eq (pc := 114) 195 dX9_plans_114 rfl ⟨by omega, by omega⟩ (fun _ => ?_) (fun c114 => absurd c114 (by decide))
          refine ap_iinc_1 (pc := 195) dX9_plans_195 (by decide) ?_
          refine ap_goto (pc := 198) 4 dX9_plans_198 rfl ?_
          exact (ih (by omega) _ (fun t a b => by
              by_cases et : t = 4095 - (i : Int)
              · subst et
                exact ⟨⟨fun _ => by rw [am_same], fun z => absurd (ful_val z) w17, fun z => absurd z w17⟩, by rw [am_same]; omega⟩
              · refine ⟨LF1_congr (L := mi 106) (fun u z => by rw [am_j (by omega), am_j (by omega)]) (u1 t (by omega) b).1, ?_⟩
                rw [am_j et, am_j et]; exact (u1 t (by omega) b).2) (fun k j q q2 => by rw [am_k q, am_k q]; exact u2 k j q q2)).bk ⟨rfl, by rw [show (4095 : Int) - ((i + 1 : Nat) : Int) = 4095 - i + -1 by omega], trivial, trivial, trivial, trivial, trivial, trivial⟩ rfl
        
      · skip
        refine ap_ild_4 (pc := 48) dX9_plans_48 ?_
        refine ap_if_eq (pc := 50) 78 dX9_plans_50 rfl (by constructor <;> omega) (fun c50 => ?_) (fun c50 => ?_)
        · skip
          refine ap_const (pc := 78) dX9_plans_78 ?_
          refine ap_ist_4 (pc := 79) dX9_plans_79 (by decide) ?_
          refine ap_iinc_5 (pc := 81) dX9_plans_81 (by decide) ?_
          refine ap_goto (pc := 84) 41 dX9_plans_84 rfl ?_
          exact (gh c45 0 (Or.inr ⟨rfl, fun z => (hb.resolve_left (by omega)).2 (fun f a q => z f a (by omega))⟩)).bk ⟨rfl, rfl, rfl, rfl, rfl, rfl, trivial, trivial⟩ rfl
        · skip
          have hd := dg_bd (4095 - (i : Int)) g
          have hwi := (w g (by omega) (by omega)).1
          have hci := (cm g (by omega) (by omega)).1
          rw [am_k (by omega)] at hci
          refine ap_ild_1 (pc := 53) dX9_plans_53 ?_
          refine ap_ild_5 (pc := 54) dX9_plans_54 ?_
          refine ap_invS (pc := 56) dX9_plans_56 ms_RX9_125 (av := [_, _]) (rest := []) (qX9_digit _ _ _ hs (by omega)) rfl rfl (Nat.le_of_ble_eq_true rfl) (by decide) (by decide) ?_
          rintro _ _ ⟨rfl, rfl⟩
          refine ap_ald_0 (pc := 59) dX9_plans_59 ?_
          refine ap_getR (pc := 60) dX9_plans_60 fl_RX9_7 sh_100 rfl ?_
          refine ap_bipush (pc := 63) dX9_plans_63 bp_126 ?_
          refine ap_const (pc := 65) dX9_plans_65 ?_
          refine ap_ild_5 (pc := 66) dX9_plans_66 ?_
          refine ap_imul (pc := 68) dX9_plans_68 ?_
          refine ap_iadd (pc := 69) dX9_plans_69 ?_
          refine ap_iaload (pc := 70) dX9_plans_70 sh_101 (by omega) (by omega) (by decide) ?_
          (try simp (disch := omega) only [am_same, am_k, am_j]); (try simp only [g2])
          refine ap_icmp_ne (pc := 71) 78 dX9_plans_71 rfl (Or.inr ⟨⟨by omega, by omega⟩, by constructor <;> omega⟩) (fun c71 => ?_) (fun c71 => ?_)
          · skip
            refine ap_const (pc := 78) dX9_plans_78 ?_
            refine ap_ist_4 (pc := 79) dX9_plans_79 (by decide) ?_
            refine ap_iinc_5 (pc := 81) dX9_plans_81 (by decide) ?_
            refine ap_goto (pc := 84) 41 dX9_plans_84 rfl ?_
            exact (gh c45 0 (Or.inr ⟨rfl, fun z => by have := z g (by omega) (by omega); omega⟩)).bk ⟨rfl, rfl, rfl, rfl, rfl, rfl, trivial, trivial⟩ rfl
          · skip
            refine ap_const (pc := 74) dX9_plans_74 ?_
            refine ap_goto (pc := 75) 79 dX9_plans_75 rfl ?_
            refine ap_ist_4 (pc := 79) dX9_plans_79 (by decide) ?_
            refine ap_iinc_5 (pc := 81) dX9_plans_81 (by decide) ?_
            refine ap_goto (pc := 84) 41 dX9_plans_84 rfl ?_
            exact (gh c45 1 (Or.inl ⟨rfl, fun f a q => by
                by_cases e : f = (g : Int)
                · subst e; omega
                · exact (hb.resolve_right (fun z => c50 z.1)).2 f a (by omega)⟩)).bk ⟨rfl, rfl, rfl, rfl, rfl, rfl, trivial, trivial⟩ rfl
