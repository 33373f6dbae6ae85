
theorem ct_spec {r : Int → Int} (wR : wfR r) (k : Nat) (hk : (k : Int) ≤ r 0) : (k = 0 → ctG r k = (-4, 0)) ∧ (0 < k → (0 ≤ (ctG r k).1 ∧ (ctG r k).1 < k) ∧ (ctG r k).2 = grR r (ctG r k).1 ∧ ∀ c : Int, 0 ≤ c → c < k → (ctG r k).2 ≤ grR r c ∧ (grR r c = (ctG r k).2 → (ctG r k).1 ≤ c)) := by
  induction k with
  | zero => exact ⟨fun _ => rfl, fun h => by omega⟩
  | succ k ih =>
    have h2 := ih (by omega)
    refine ⟨fun h => by omega, fun _ => ?_⟩
    by_cases k0 : k = 0
    · subst k0
      have e : ctG r (0 + 1) = (0, grR r 0) := by
        show (if (ctG r 0).1 = -4 ∨ grR r (0 : Nat) < (ctG r 0).2 then (((0 : Nat) : Int), grR r (0 : Nat)) else ctG r 0) = _
        exact if_pos (show (ctG r 0).1 = -4 ∨ _ from Or.inl rfl)
      rw [e]
      refine ⟨⟨by show (0 : Int) ≤ 0; omega, by show (0 : Int) < _; omega⟩, rfl, fun c a b => ?_⟩
      have ec : c = 0 := by omega
      subst ec
      exact ⟨Int.le_refl _, fun _ => Int.le_refl _⟩
    · obtain ⟨⟨a1, a2⟩, a3, a4⟩ := h2.2 (by omega)
      have e : ctG r (k + 1) = if (ctG r k).1 = -4 ∨ grR r k < (ctG r k).2 then ((k : Int), grR r k) else ctG r k := rfl
      by_cases q : grR r k < (ctG r k).2
      · rw [e, if_pos (Or.inr q)]
        refine ⟨⟨by show (0 : Int) ≤ k; omega, by show (k : Int) < _; omega⟩, rfl, fun c a b => ?_⟩
        show grR r k ≤ grR r c ∧ (grR r c = grR r k → (k : Int) ≤ c)
        by_cases ec : c = (k : Int)
        · subst ec; exact ⟨Int.le_refl _, fun _ => Int.le_refl _⟩
        · have := (a4 c a (by omega)).1
          exact ⟨by omega, fun z => by omega⟩
      · rw [e, if_neg (by omega)]
        refine ⟨⟨a1, by omega⟩, a3, fun c a b => ?_⟩
        by_cases ec : c = (k : Int)
        · subst ec; exact ⟨by omega, fun z => by omega⟩
        · exact a4 c a (by omega)
def leC (r : Int → Int) (k c : Int) : Int := if k = 0 ∧ c ≤ ctR r then 0 else grR r (ctR r)
theorem ctR_spec {r : Int → Int} (wR : wfR r) : (ctR r = -4 → r 0 = 0) ∧ (ctR r ≠ -4 → (0 ≤ ctR r ∧ ctR r < r 0) ∧ ∀ c : Int, 0 ≤ c → c < r 0 → grR r (ctR r) ≤ grR r c ∧ (grR r c = grR r (ctR r) → ctR r ≤ c)) := by
  have h12 := wR.1.1
  obtain ⟨s1, s2⟩ := ct_spec wR (r 0).toNat (by omega)
  have ec : ctR r = (ctG r (r 0).toNat).1 := rfl
  refine ⟨fun z => ?_, fun z => ?_⟩
  · by_cases q : r 0 = 0
    · exact q
    · have := (s2 (by omega)).1
      omega
  · have h0 : 0 < (r 0).toNat := by
      rcases Nat.eq_zero_or_pos (r 0).toNat with q | q
      · rw [ec, s1 q] at z; exact absurd rfl z
      · exact q
    obtain ⟨a, b, c⟩ := s2 h0
    rw [ec]
    rw [b] at c
    exact ⟨⟨a.1, by omega⟩, fun x p q => c x p (by omega)⟩
theorem tU_nn {r : Int → Int} (w : wfR r) (h : Int) : 0 ≤ tU r h ∧ tU r h ≤ 21 := tU_bd w.2.1 h
theorem tD_nn {r : Int → Int} (w : wfR r) (h : Int) : 0 ≤ tD r h ∧ tD r h ≤ 21 := tD_bd w.2.1 h
theorem tB_nn {r : Int → Int} (w : wfR r) (h : Int) : 0 ≤ tB r h ∧ tB r h ≤ 21 := tB_bd w.2.1 h
theorem tD_mn {r : Int → Int} {b h : Int} (hh : tB r h = 0) (hb : b ≤ h) : tD r b ≤ tD r h := by
  have z := tB_0 hh
  unfold tD sumF
  refine sumL_mono (fun x hx => sumL_mono (fun l hl => ?_))
  have zz := z x l (by omega) (by omega) (by omega) (by omega)
  unfold spD fdD
  split
  · rename_i c
    rw [if_pos (by refine ⟨c.1, by omega, c.2.2.1, by omega, c.2.2.2.2⟩)]; exact Int.le_refl _
  · split <;> omega
theorem tB_less {r : Int → Int} {b h : Int} (hh : tB r h = 0) (hb : b ≤ h) : tB r b = 0 := by
  have z := tB_0 hh
  unfold tB sumF
  refine sumL_zero (fun x hx => sumL_zero (fun l hl => ?_))
  have zz := z x l (by omega) (by omega) (by omega) (by omega)
  unfold spB fdB
  rw [if_neg (by omega)]
theorem vIF_0 {r : Int → Int} {h : Int} (a : 500 ≤ h) (b : h ≤ 1200) : vIF r h 0 = tU r h := by unfold vIF tV; rw [if_pos (by omega), if_pos rfl]
theorem vIF_1 {r : Int → Int} {h : Int} (a : 500 ≤ h) (b : h ≤ 1200) : vIF r h 1 = tB r h := by unfold vIF tV; rw [if_pos (by omega), if_neg (by omega), if_pos rfl]
theorem vIF_2 {r : Int → Int} {h : Int} (a : 500 ≤ h) (b : h ≤ 1200) : vIF r h 2 = tD r h := by unfold vIF tV; rw [if_pos (by omega), if_neg (by omega), if_neg (by omega), if_pos rfl]
theorem vIF_3 {r : Int → Int} {h : Int} (a : 500 ≤ h) (b : h ≤ 1200) : vIF r h 3 = cntK r h 1 6 := by unfold vIF tV; rw [if_pos (by omega), if_neg (by omega), if_neg (by omega), if_neg (by omega), if_pos rfl]
theorem vIF_4 {r : Int → Int} {h : Int} (a : 500 ≤ h) (b : h ≤ 1200) : vIF r h 4 = cntM r h 1 6 := by unfold vIF tV; rw [if_pos (by omega), if_neg (by omega), if_neg (by omega), if_neg (by omega), if_neg (by omega)]
theorem best_at {r : Int → Int} {b h : Int} (hb : isBest r b) (a : 500 ≤ h) (c : h ≤ 1200) (z : tB r h = 0) : tU r h < tU r b ∨ (tU r h = tU r b ∧ b ≤ h ∧ tD r b ≤ tD r h) := by
  rcases hb.2 h ⟨⟨a, c⟩, z⟩ with q | q
  · exact Or.inl q
  · exact Or.inr ⟨q.1, q.2, tD_mn z q.2⟩
theorem best_pre {r : Int → Int} {b : Int} (hb : isBest r b) (hn : b ≠ 500) : tU r (b - 1) < tU r b := by
  have h1 := hb.1.1
  rcases hb.2 (b - 1) ⟨⟨by omega, by omega⟩, tB_less hb.1.2 (by omega)⟩ with q | q
  · exact q
  · omega

set_option maxHeartbeats 4000000 in
theorem qL_isCounter {r : Int → Int} {n : Int} {H : Int → Int → Int} (m : AM) (I : GI r n H m) : CS 4 mL_isCounter [.inr 0] m (an 1 m) := by
  refine cs_of (by decide +kernel) (Nat.le_of_ble_eq_true rfl) rfl ?_
  have wR := I.1.1
  have h12 := wR.1.1
  have hct := ctR_spec wR
  have hcb : -4 ≤ ctR r ∧ ctR r ≤ 12 := by
    by_cases q : ctR r = -4
    · omega
    · have := (hct.2 q).1; omega
  refine ap_ald_0 (pc := 0) dL_isCounter_0 ?_
  refine ap_invV (pc := 1) dL_isCounter_1 mv_RL_86 sh_0 (av := []) (rest := []) (k_counter I) rfl rfl (Nat.le_of_ble_eq_true rfl) (by decide) (by decide) ?_
  rintro _ _ ⟨rfl, rfl⟩
  refine ap_ist_1 (pc := 4) dL_isCounter_4 (by decide) ?_
  refine ap_ild_1 (pc := 5) dL_isCounter_5 ?_
  refine ap_bipush (pc := 6) dL_isCounter_6 bp_m4 ?_
  refine ap_icmp_ne (pc := 8) 25 dL_isCounter_8 rfl (Or.inr ⟨⟨by omega, by omega⟩, ⟨by omega, by omega⟩⟩) (fun c8 => ?_) (fun c8 => ?_)
  · skip
    have hcs := hct.2 c8
    have hgt := gr_bd wR (c := ctR r) (by omega) (by omega) 6 (by omega)
    have hgt2 : accL (grG r (ctR r)) 0 6 = grR r (ctR r) := rfl
    rw [hgt2] at hgt
    refine ap_const (pc := 25) dL_isCounter_25 ?_
    refine ap_ist_2 (pc := 26) dL_isCounter_26 (by decide) ?_
    refine ap_const (pc := 27) dL_isCounter_27 ?_
    refine ap_ist_3 (pc := 28) dL_isCounter_28 (by decide) ?_
    refine AP.bk (up_rec 2 (fun k => AP 4 mL_isCounter 29 [some (.inr 0), some (.inl (ctR r)), some (.inl (leC r (k : Int) 0)), some (.inl (k : Int)), none, none, none, none] [] m (an 1 m)) (by omega) (fun k hk ihk => ?_)) ⟨rfl, rfl, congrArg (fun z => some (Sum.inl z)) (by unfold leC; rw [if_pos (by omega)]), rfl, trivial, trivial, trivial, trivial, trivial⟩ rfl
    refine ap_ild_3 (pc := 29) dL_isCounter_29 ?_
    refine ap_const (pc := 30) dL_isCounter_30 ?_
    refine ap_icmp_ge (pc := 31) 162 dL_isCounter_31 rfl ⟨by omega, by omega⟩ ⟨by omega, by omega⟩ (fun c31 => ?_) (fun c31 => ?_)
    · skip
      have ek : k = 2 := by omega
      subst ek
      refine ap_const (pc := 162) dL_isCounter_162 ?_
      exact ap_zreturn (pc := 163) dL_isCounter_163 rfl (by decide) ⟨rfl, rfl⟩
    · skip
      refine ap_const (pc := 34) dL_isCounter_34 ?_
      refine ap_ist_4 (pc := 35) dL_isCounter_35 (by decide) ?_
      refine AP.bk (up_rec (r 0) (fun c => AP 4 mL_isCounter 37 [some (.inr 0), some (.inl (ctR r)), some (.inl (leC r (k : Int) c)), some (.inl (k : Int)), some (.inl (c : Int)), none, none, none] [] m (an 1 m)) h12.1 (fun c hcc ihc => ?_)) ⟨rfl, rfl, rfl, rfl, rfl, trivial, trivial, trivial, trivial⟩ rfl
      refine ap_ild_4 (pc := 37) dL_isCounter_37 ?_
      refine ap_ald_0 (pc := 39) dL_isCounter_39 ?_
      refine ap_const (pc := 40) dL_isCounter_40 ?_
      refine ap_invV (pc := 41) dL_isCounter_41 mv_RL_13 sh_0 (av := [_]) (rest := [_]) (k_count I ⟨by omega, by omega⟩) rfl rfl (Nat.le_of_ble_eq_true rfl) (by decide) (by decide) ?_
      rintro _ _ ⟨rfl, rfl⟩
      rw [vCN_0]
      refine ap_icmp_ge (pc := 44) 156 dL_isCounter_44 rfl ⟨by omega, by omega⟩ ⟨by omega, by omega⟩ (fun c44 => ?_) (fun c44 => ?_)
      · skip
        have ec : c = (r 0).toNat := by omega
        subst ec
        refine ap_iinc_3 (pc := 156) dL_isCounter_156 (by decide) ?_
        refine ap_goto (pc := 159) 29 dL_isCounter_159 rfl ?_
        exact (ihk c31).bk ⟨rfl, rfl, congrArg (fun z => some (Sum.inl z)) (by unfold leC; (repeat' split) <;> first | rfl | (exfalso; omega)), rfl, trivial, trivial, trivial, trivial, trivial⟩ rfl
      · skip
        have hc : (c : Int) < r 0 := c44
        have hxx := (wR.1.2 c (by omega) hc).2.2
        have hgc := fun n (hn : n ≤ 6) => gr_bd wR (c := (c : Int)) (by omega) hc n hn
        have hsp := hcs.2 c (by omega) hc
        have hle : 0 ≤ leC r (k : Int) c ∧ leC r (k : Int) c ≤ 1000 := by unfold leC; split <;> omega
        refine ap_const (pc := 47) dL_isCounter_47 ?_
        refine ap_ist_5 (pc := 48) dL_isCounter_48 (by decide) ?_
        refine ap_const (pc := 50) dL_isCounter_50 ?_
        refine ap_ist_6 (pc := 51) dL_isCounter_51 (by decide) ?_
        refine AP.bk (up_rec 6 (fun f => AP 4 mL_isCounter 53 [some (.inr 0), some (.inl (ctR r)), some (.inl (leC r (k : Int) c)), some (.inl (k : Int)), some (.inl (c : Int)), some (.inl (accL (grG r c) 0 f)), some (.inl (f : Int)), none] [] m (an 1 m)) (by omega) (fun f hf ihf => ?_)) ⟨rfl, rfl, rfl, rfl, rfl, rfl, rfl, trivial, trivial⟩ rfl
        refine ap_ild_6 (pc := 53) dL_isCounter_53 ?_
        refine ap_bipush (pc := 55) dL_isCounter_55 bp_6 ?_
        refine ap_icmp_ge (pc := 57) 110 dL_isCounter_57 rfl ⟨by omega, by omega⟩ ⟨by omega, by omega⟩ (fun c57 => ?_) (fun c57 => ?_)
        · skip
          have ef : f = 6 := by omega
          subst ef
          have hg6 := hgc 6 (by omega)
          have hge : accL (grG r c) 0 6 = grR r c := rfl
          rw [hge] at hg6
          rw [hge]
          refine ap_ild_3 (pc := 110) dL_isCounter_110 ?_
          refine ap_if_ne (pc := 111) 130 dL_isCounter_111 rfl ⟨by omega, by omega⟩ (fun c111 => ?_) (fun c111 => ?_)
          · skip
            have hl1 : leC r (k : Int) c = grR r (ctR r) := by unfold leC; rw [if_neg (by omega)]
            refine ap_ild_5 (pc := 130) dL_isCounter_130 ?_
            refine ap_ild_2 (pc := 132) dL_isCounter_132 ?_
            refine ap_icmp_lt (pc := 133) 148 dL_isCounter_133 rfl ⟨by omega, by omega⟩ ⟨by omega, by omega⟩ (fun c133 => ?_) (fun c133 => ?_)
            · skip
              exfalso; omega
            · skip
              refine ap_ild_5 (pc := 136) dL_isCounter_136 ?_
              refine ap_ild_2 (pc := 138) dL_isCounter_138 ?_
              refine ap_icmp_ne (pc := 139) 150 dL_isCounter_139 rfl (Or.inr ⟨⟨by omega, by omega⟩, ⟨by omega, by omega⟩⟩) (fun c139 => ?_) (fun c139 => ?_)
              · skip
                refine ap_iinc_4 (pc := 150) dL_isCounter_150 (by decide) ?_
                refine ap_goto (pc := 153) 37 dL_isCounter_153 rfl ?_
                exact (ihc hc).bk ⟨rfl, rfl, congrArg (fun z => some (Sum.inl z)) (by unfold leC; (repeat' split) <;> first | rfl | (exfalso; omega) | (rw [ect])), rfl, rfl, trivial, trivial, trivial, trivial⟩ rfl
              · skip
                refine ap_ild_4 (pc := 142) dL_isCounter_142 ?_
                refine ap_ild_1 (pc := 144) dL_isCounter_144 ?_
                refine ap_icmp_ge (pc := 145) 150 dL_isCounter_145 rfl ⟨by omega, by omega⟩ ⟨by omega, by omega⟩ (fun c145 => ?_) (fun c145 => ?_)
                · skip
                  refine ap_iinc_4 (pc := 150) dL_isCounter_150 (by decide) ?_
                  refine ap_goto (pc := 153) 37 dL_isCounter_153 rfl ?_
                  exact (ihc hc).bk ⟨rfl, rfl, congrArg (fun z => some (Sum.inl z)) (by unfold leC; (repeat' split) <;> first | rfl | (exfalso; omega) | (rw [ect])), rfl, rfl, trivial, trivial, trivial, trivial⟩ rfl
                · skip
                  have := hsp.2 (by omega); exfalso; omega
          · skip
            refine ap_ild_4 (pc := 114) dL_isCounter_114 ?_
            refine ap_ild_1 (pc := 116) dL_isCounter_116 ?_
            refine ap_icmp_ne (pc := 117) 125 dL_isCounter_117 rfl (Or.inr ⟨⟨by omega, by omega⟩, ⟨by omega, by omega⟩⟩) (fun c117 => ?_) (fun c117 => ?_)
            · skip
              refine ap_ild_2 (pc := 125) dL_isCounter_125 ?_
              refine ap_ist_2 (pc := 126) dL_isCounter_126 (by decide) ?_
              refine ap_goto (pc := 127) 150 dL_isCounter_127 rfl ?_
              refine ap_iinc_4 (pc := 150) dL_isCounter_150 (by decide) ?_
              refine ap_goto (pc := 153) 37 dL_isCounter_153 rfl ?_
              exact (ihc hc).bk ⟨rfl, rfl, congrArg (fun z => some (Sum.inl z)) (by unfold leC; (repeat' split) <;> first | rfl | (exfalso; omega) | (rw [ect])), rfl, rfl, trivial, trivial, trivial, trivial⟩ rfl
            · skip
              have ect : ctR r = (c : Int) := by omega
              refine ap_ild_5 (pc := 120) dL_isCounter_120 ?_
              refine ap_goto (pc := 122) 126 dL_isCounter_122 rfl ?_
              refine ap_ist_2 (pc := 126) dL_isCounter_126 (by decide) ?_
              refine ap_goto (pc := 127) 150 dL_isCounter_127 rfl ?_
              refine ap_iinc_4 (pc := 150) dL_isCounter_150 (by decide) ?_
              refine ap_goto (pc := 153) 37 dL_isCounter_153 rfl ?_
              exact (ihc hc).bk ⟨rfl, rfl, congrArg (fun z => some (Sum.inl z)) (by unfold leC; (repeat' split) <;> first | rfl | (exfalso; omega) | (rw [ect])), rfl, rfl, trivial, trivial, trivial, trivial⟩ rfl
        · skip
          have hpf := pulR_bd wR (f := (f : Int)) (by omega) (by omega)
          have hp6 := pulR_bd wR (f := 6) (by omega) (by omega)
          have hgf := hgc f (by omega)
          have heq : iab (pulR r f - pulR r 6 - (170 - exR r c)) = iab (pulR r f - (pulR r 6 + (170 - exR r c))) := congrArg iab (by omega)
          have hib : 0 ≤ iab (pulR r f - pulR r 6 - (170 - exR r c)) ∧ iab (pulR r f - pulR r 6 - (170 - exR r c)) ≤ 1000 := by unfold iab; split <;> omega
          refine ap_ald_0 (pc := 60) dL_isCounter_60 ?_
          refine ap_ild_6 (pc := 61) dL_isCounter_61 ?_
          refine ap_const (pc := 63) dL_isCounter_63 ?_
          refine ap_invV (pc := 64) dL_isCounter_64 mv_RL_23 sh_0 (av := [_, _]) (rest := []) (k_field I ⟨by omega, by omega⟩ ⟨by omega, by omega⟩) rfl rfl (Nat.le_of_ble_eq_true rfl) (by decide) (by decide) ?_
          rintro _ _ ⟨rfl, rfl⟩
          rw [vFD_1 (by omega) (by omega)]
          refine ap_ald_0 (pc := 67) dL_isCounter_67 ?_
          refine ap_bipush (pc := 68) dL_isCounter_68 bp_6 ?_
          refine ap_const (pc := 70) dL_isCounter_70 ?_
          refine ap_invV (pc := 71) dL_isCounter_71 mv_RL_23 sh_0 (av := [_, _]) (rest := [_]) (k_field I ⟨by omega, by omega⟩ ⟨by omega, by omega⟩) rfl rfl (Nat.le_of_ble_eq_true rfl) (by decide) (by decide) ?_
          rintro _ _ ⟨rfl, rfl⟩
          rw [vFD_1 (by omega) (by omega)]
          refine ap_isub (pc := 74) dL_isCounter_74 ?_
          refine ap_ald_0 (pc := 75) dL_isCounter_75 ?_
          refine ap_ild_4 (pc := 76) dL_isCounter_76 ?_
          refine ap_const (pc := 78) dL_isCounter_78 ?_
          refine ap_invV (pc := 79) dL_isCounter_79 mv_RL_30 sh_0 (av := [_, _]) (rest := [_]) (k_colorInfo I ⟨by omega, by omega⟩ ⟨by omega, by omega⟩) rfl rfl (Nat.le_of_ble_eq_true rfl) (by decide) (by decide) ?_
          rintro _ _ ⟨rfl, rfl⟩
          rw [vCI_3 (by omega) hc]
          refine ap_isub (pc := 82) dL_isCounter_82 ?_
          refine ap_invS (pc := 83) dL_isCounter_83 ms_RL_69 (av := [_]) (rest := []) (qL_size _ _ (by omega)) rfl rfl (Nat.le_of_ble_eq_true rfl) (by decide) (by decide) ?_
          rintro _ _ ⟨rfl, rfl⟩
          refine ap_ist_7 (pc := 86) dL_isCounter_86 (by decide) ?_
          refine ap_ild_7 (pc := 88) dL_isCounter_88 ?_
          refine ap_ild_5 (pc := 90) dL_isCounter_90 ?_
          refine ap_icmp_le (pc := 92) 100 dL_isCounter_92 rfl ⟨by omega, by omega⟩ ⟨by omega, by omega⟩ (fun c92 => ?_) (fun c92 => ?_)
          · skip
            refine ap_ild_5 (pc := 100) dL_isCounter_100 ?_
            refine ap_ist_5 (pc := 102) dL_isCounter_102 (by decide) ?_
            refine ap_iinc_6 (pc := 104) dL_isCounter_104 (by decide) ?_
            refine ap_goto (pc := 107) 53 dL_isCounter_107 rfl ?_
            exact (ihf c57).bk ⟨rfl, rfl, rfl, rfl, rfl, congrArg (fun z => some (Sum.inl z)) (by rw [accL_succ]; show _ = max _ (iab (pulR r f - (pulR r 6 + (170 - exR r c)))); rw [← heq]; omega), rfl, trivial, trivial⟩ rfl
          · skip
            refine ap_ild_7 (pc := 95) dL_isCounter_95 ?_
            refine ap_goto (pc := 97) 102 dL_isCounter_97 rfl ?_
            refine ap_ist_5 (pc := 102) dL_isCounter_102 (by decide) ?_
            refine ap_iinc_6 (pc := 104) dL_isCounter_104 (by decide) ?_
            refine ap_goto (pc := 107) 53 dL_isCounter_107 rfl ?_
            exact (ihf c57).bk ⟨rfl, rfl, rfl, rfl, rfl, congrArg (fun z => some (Sum.inl z)) (by rw [accL_succ]; show _ = max _ (iab (pulR r f - (pulR r 6 + (170 - exR r c)))); rw [← heq]; omega), rfl, trivial, trivial⟩ rfl
  · skip
    have hz := hct.1 c8
    refine ap_ald_0 (pc := 11) dL_isCounter_11 ?_
    refine ap_const (pc := 12) dL_isCounter_12 ?_
    refine ap_invV (pc := 13) dL_isCounter_13 mv_RL_13 sh_0 (av := [_]) (rest := []) (k_count I ⟨by omega, by omega⟩) rfl rfl (Nat.le_of_ble_eq_true rfl) (by decide) (by decide) ?_
    rintro _ _ ⟨rfl, rfl⟩
    rw [vCN_0]
    refine ap_if_ne (pc := 16) 23 dL_isCounter_16 rfl ⟨by omega, by omega⟩ (fun c16 => ?_) (fun c16 => ?_)
    · skip
      exfalso; omega
    · skip
      refine ap_const (pc := 19) dL_isCounter_19 ?_
      refine ap_goto (pc := 20) 24 dL_isCounter_20 rfl ?_
      exact ap_zreturn (pc := 24) dL_isCounter_24 rfl (by decide) ⟨rfl, rfl⟩

set_option maxHeartbeats 4000000 in
theorem qL_isBest {r : Int → Int} {n : Int} {H : Int → Int → Int} (m : AM) (I : GI r n H m) : CS 7 mL_isBest [.inr 0] m (fun v m' => v = some 1 ∧ GI r n H m') := by
  refine cs_of (by decide +kernel) (Nat.le_of_ble_eq_true rfl) rfl ?_
  have wR := I.1.1
  refine ap_ald_0 (pc := 0) dL_isBest_0 ?_
  refine ap_invV (pc := 1) dL_isBest_1 mv_RL_80 sh_0 (av := []) (rest := []) (k_bestHeat I) rfl rfl (Nat.le_of_ble_eq_true rfl) (by decide) (by decide) ?_
  rintro _ m ⟨⟨b, rfl, hb⟩, I⟩
  have hb0 := hb.1
  have hbu := tU_nn wR b
  have hbd := tD_nn wR b
  have hbb := tB_nn wR b
  have hb1 := hb0.1
  have hb2 := hb0.2
  refine ap_ist_1 (pc := 4) dL_isBest_4 (by decide) ?_
  refine ap_ald_0 (pc := 5) dL_isBest_5 ?_
  refine ap_ild_1 (pc := 6) dL_isBest_6 ?_
  refine ap_const (pc := 7) dL_isBest_7 ?_
  refine ap_invV (pc := 8) dL_isBest_8 mv_RL_54 sh_0 (av := [_, _]) (rest := []) (k_ifFired I ⟨by omega, by omega⟩ ⟨by omega, by omega⟩) rfl rfl (Nat.le_of_ble_eq_true rfl) (by decide) (by decide) ?_
  rintro _ m ⟨rfl, I⟩
  rw [vIF_0 (by omega) (by omega)]
  refine ap_ist_2 (pc := 11) dL_isBest_11 (by decide) ?_
  refine ap_ald_0 (pc := 12) dL_isBest_12 ?_
  refine ap_ild_1 (pc := 13) dL_isBest_13 ?_
  refine ap_const (pc := 14) dL_isBest_14 ?_
  refine ap_invV (pc := 15) dL_isBest_15 mv_RL_54 sh_0 (av := [_, _]) (rest := []) (k_ifFired I ⟨by omega, by omega⟩ ⟨by omega, by omega⟩) rfl rfl (Nat.le_of_ble_eq_true rfl) (by decide) (by decide) ?_
  rintro _ m ⟨rfl, I⟩
  rw [vIF_2 (by omega) (by omega)]
  refine ap_ist_3 (pc := 18) dL_isBest_18 (by decide) ?_
  refine ap_ild_1 (pc := 19) dL_isBest_19 ?_
  refine ap_sipush (pc := 20) dL_isBest_20 sp_500 ?_
  refine ap_icmp_lt (pc := 23) 46 dL_isBest_23 rfl ⟨by omega, by omega⟩ ⟨by omega, by omega⟩ (fun c23 => ?_) (fun c23 => ?_)
  · skip
    exfalso; omega
  · skip
    refine ap_ild_1 (pc := 26) dL_isBest_26 ?_
    refine ap_sipush (pc := 27) dL_isBest_27 sp_1200 ?_
    refine ap_icmp_gt (pc := 30) 46 dL_isBest_30 rfl ⟨by omega, by omega⟩ ⟨by omega, by omega⟩ (fun c30 => ?_) (fun c30 => ?_)
    · skip
      exfalso; omega
    · skip
      refine ap_ald_0 (pc := 33) dL_isBest_33 ?_
      refine ap_ild_1 (pc := 34) dL_isBest_34 ?_
      refine ap_const (pc := 35) dL_isBest_35 ?_
      refine ap_invV (pc := 36) dL_isBest_36 mv_RL_54 sh_0 (av := [_, _]) (rest := []) (k_ifFired I ⟨by omega, by omega⟩ ⟨by omega, by omega⟩) rfl rfl (Nat.le_of_ble_eq_true rfl) (by decide) (by decide) ?_
      rintro _ m ⟨rfl, I⟩
      rw [vIF_1 (by omega) (by omega)]
      refine ap_if_ne (pc := 39) 46 dL_isBest_39 rfl ⟨by omega, by omega⟩ (fun c39 => ?_) (fun c39 => ?_)
      · skip
        exfalso; omega
      · skip
        refine ap_const (pc := 42) dL_isBest_42 ?_
        refine ap_goto (pc := 43) 47 dL_isBest_43 rfl ?_
        refine ap_ist_4 (pc := 47) dL_isBest_47 (by decide) ?_
        refine ap_sipush (pc := 49) dL_isBest_49 sp_500 ?_
        refine ap_ist_5 (pc := 52) dL_isBest_52 (by decide) ?_
        refine AP.bk (up_rec 71 (fun i => ∀ m : AM, GI r n H m → AP 7 mL_isBest 54 [some (.inr 0), some (.inl b), some (.inl (tU r b)), some (.inl (tD r b)), some (.inl 1), some (.inl (500 + 10 * (i : Int))), none] [] m (fun v m' => v = some 1 ∧ GI r n H m')) (by omega) (fun i hi ihi m I => ?_) m I) ⟨rfl, rfl, rfl, rfl, rfl, rfl, trivial, trivial⟩ rfl
        refine ap_ild_5 (pc := 54) dL_isBest_54 ?_
        refine ap_sipush (pc := 56) dL_isBest_56 sp_1200 ?_
        refine ap_icmp_gt (pc := 59) 139 dL_isBest_59 rfl ⟨by omega, by omega⟩ ⟨by omega, by omega⟩ (fun c59 => ?_) (fun c59 => ?_)
        · skip
          refine ap_ild_4 (pc := 139) dL_isBest_139 ?_
          refine ap_if_eq (pc := 141) 179 dL_isBest_141 rfl ⟨by omega, by omega⟩ (fun c141 => absurd c141 (by decide)) (fun _ => ?_)
          refine ap_ild_1 (pc := 144) dL_isBest_144 ?_
          refine ap_sipush (pc := 145) dL_isBest_145 sp_500 ?_
          refine ap_icmp_eq (pc := 148) 175 dL_isBest_148 rfl (Or.inr ⟨⟨by omega, by omega⟩, ⟨by omega, by omega⟩⟩) (fun c148 => ?_) (fun c148 => ?_)
          · skip
            refine ap_const (pc := 175) dL_isBest_175 ?_
            refine ap_goto (pc := 176) 180 dL_isBest_176 rfl ?_
            exact ap_zreturn (pc := 180) dL_isBest_180 rfl (by decide) ⟨rfl, I⟩
          · skip
            have hpre := best_pre hb c148
            have hu := tU_nn wR (b - 1)
            have hd := tD_nn wR (b - 1)
            refine ap_ald_0 (pc := 151) dL_isBest_151 ?_
            refine ap_ild_1 (pc := 152) dL_isBest_152 ?_
            refine ap_const (pc := 153) dL_isBest_153 ?_
            refine ap_isub (pc := 154) dL_isBest_154 ?_
            refine ap_const (pc := 155) dL_isBest_155 ?_
            refine ap_invV (pc := 156) dL_isBest_156 mv_RL_54 sh_0 (av := [_, _]) (rest := []) (k_ifFired I ⟨by omega, by omega⟩ ⟨by omega, by omega⟩) rfl rfl (Nat.le_of_ble_eq_true rfl) (by decide) (by decide) ?_
            rintro _ m ⟨rfl, I⟩
            rw [vIF_0 (by omega) (by omega)]
            refine ap_ild_2 (pc := 159) dL_isBest_159 ?_
            refine ap_icmp_lt (pc := 160) 175 dL_isBest_160 rfl ⟨by omega, by omega⟩ ⟨by omega, by omega⟩ (fun c160 => ?_) (fun c160 => ?_)
            · skip
              refine ap_const (pc := 175) dL_isBest_175 ?_
              refine ap_goto (pc := 176) 180 dL_isBest_176 rfl ?_
              exact ap_zreturn (pc := 180) dL_isBest_180 rfl (by decide) ⟨rfl, I⟩
            · skip
              exfalso; omega
        · skip
          have hu := tU_nn wR (500 + 10 * (i : Int))
          have hd := tD_nn wR (500 + 10 * (i : Int))
          have hbn := tB_nn wR (500 + 10 * (i : Int))
          refine ap_ild_4 (pc := 62) dL_isBest_62 ?_
          refine ap_if_eq (pc := 64) 139 dL_isBest_64 rfl ⟨by omega, by omega⟩ (fun c64 => absurd c64 (by decide)) (fun _ => ?_)
          refine ap_ald_0 (pc := 67) dL_isBest_67 ?_
          refine ap_ild_5 (pc := 68) dL_isBest_68 ?_
          refine ap_const (pc := 70) dL_isBest_70 ?_
          refine ap_invV (pc := 71) dL_isBest_71 mv_RL_54 sh_0 (av := [_, _]) (rest := []) (k_ifFired I ⟨by omega, by omega⟩ ⟨by omega, by omega⟩) rfl rfl (Nat.le_of_ble_eq_true rfl) (by decide) (by decide) ?_
          rintro _ m ⟨rfl, I⟩
          rw [vIF_0 (by omega) (by omega)]
          refine ap_ist_6 (pc := 74) dL_isBest_74 (by decide) ?_
          refine ap_ald_0 (pc := 76) dL_isBest_76 ?_
          refine ap_ild_5 (pc := 77) dL_isBest_77 ?_
          refine ap_const (pc := 79) dL_isBest_79 ?_
          refine ap_invV (pc := 80) dL_isBest_80 mv_RL_54 sh_0 (av := [_, _]) (rest := []) (k_ifFired I ⟨by omega, by omega⟩ ⟨by omega, by omega⟩) rfl rfl (Nat.le_of_ble_eq_true rfl) (by decide) (by decide) ?_
          rintro _ m ⟨rfl, I⟩
          rw [vIF_1 (by omega) (by omega)]
          refine ap_if_gt (pc := 83) 126 dL_isBest_83 rfl ⟨by omega, by omega⟩ (fun c83 => ?_) (fun c83 => ?_)
          · skip
            refine ap_const (pc := 126) dL_isBest_126 ?_
            refine ap_goto (pc := 127) 131 dL_isBest_127 rfl ?_
            refine ap_ist_4 (pc := 131) dL_isBest_131 (by decide) ?_
            refine ap_iinc_5 (pc := 133) dL_isBest_133 (by decide) ?_
            refine ap_goto (pc := 136) 54 dL_isBest_136 rfl ?_
            exact (ihi (by omega) m I).bk ⟨rfl, rfl, rfl, rfl, rfl, congrArg (fun z => some (Sum.inl z)) (by omega), trivial, trivial⟩ rfl
          · skip
            have hat := best_at hb (h := 500 + 10 * (i : Int)) (by omega) (by omega) (by omega)
            refine ap_ild_6 (pc := 86) dL_isBest_86 ?_
            refine ap_ild_2 (pc := 88) dL_isBest_88 ?_
            refine ap_icmp_lt (pc := 89) 126 dL_isBest_89 rfl ⟨by omega, by omega⟩ ⟨by omega, by omega⟩ (fun c89 => ?_) (fun c89 => ?_)
            · skip
              refine ap_const (pc := 126) dL_isBest_126 ?_
              refine ap_goto (pc := 127) 131 dL_isBest_127 rfl ?_
              refine ap_ist_4 (pc := 131) dL_isBest_131 (by decide) ?_
              refine ap_iinc_5 (pc := 133) dL_isBest_133 (by decide) ?_
              refine ap_goto (pc := 136) 54 dL_isBest_136 rfl ?_
              exact (ihi (by omega) m I).bk ⟨rfl, rfl, rfl, rfl, rfl, congrArg (fun z => some (Sum.inl z)) (by omega), trivial, trivial⟩ rfl
            · skip
              refine ap_ild_6 (pc := 92) dL_isBest_92 ?_
              refine ap_ild_2 (pc := 94) dL_isBest_94 ?_
              refine ap_icmp_ne (pc := 95) 130 dL_isBest_95 rfl (Or.inr ⟨⟨by omega, by omega⟩, ⟨by omega, by omega⟩⟩) (fun c95 => ?_) (fun c95 => ?_)
              · skip
                exfalso; omega
              · skip
                refine ap_ald_0 (pc := 98) dL_isBest_98 ?_
                refine ap_ild_5 (pc := 99) dL_isBest_99 ?_
                refine ap_const (pc := 101) dL_isBest_101 ?_
                refine ap_invV (pc := 102) dL_isBest_102 mv_RL_54 sh_0 (av := [_, _]) (rest := []) (k_ifFired I ⟨by omega, by omega⟩ ⟨by omega, by omega⟩) rfl rfl (Nat.le_of_ble_eq_true rfl) (by decide) (by decide) ?_
                rintro _ m ⟨rfl, I⟩
                rw [vIF_2 (by omega) (by omega)]
                refine ap_ild_3 (pc := 105) dL_isBest_105 ?_
                refine ap_icmp_gt (pc := 106) 126 dL_isBest_106 rfl ⟨by omega, by omega⟩ ⟨by omega, by omega⟩ (fun c106 => ?_) (fun c106 => ?_)
                · skip
                  refine ap_const (pc := 126) dL_isBest_126 ?_
                  refine ap_goto (pc := 127) 131 dL_isBest_127 rfl ?_
                  refine ap_ist_4 (pc := 131) dL_isBest_131 (by decide) ?_
                  refine ap_iinc_5 (pc := 133) dL_isBest_133 (by decide) ?_
                  refine ap_goto (pc := 136) 54 dL_isBest_136 rfl ?_
                  exact (ihi (by omega) m I).bk ⟨rfl, rfl, rfl, rfl, rfl, congrArg (fun z => some (Sum.inl z)) (by omega), trivial, trivial⟩ rfl
                · skip
                  refine ap_ald_0 (pc := 109) dL_isBest_109 ?_
                  refine ap_ild_5 (pc := 110) dL_isBest_110 ?_
                  refine ap_const (pc := 112) dL_isBest_112 ?_
                  refine ap_invV (pc := 113) dL_isBest_113 mv_RL_54 sh_0 (av := [_, _]) (rest := []) (k_ifFired I ⟨by omega, by omega⟩ ⟨by omega, by omega⟩) rfl rfl (Nat.le_of_ble_eq_true rfl) (by decide) (by decide) ?_
                  rintro _ m ⟨rfl, I⟩
                  rw [vIF_2 (by omega) (by omega)]
                  refine ap_ild_3 (pc := 116) dL_isBest_116 ?_
                  refine ap_icmp_ne (pc := 117) 130 dL_isBest_117 rfl (Or.inr ⟨⟨by omega, by omega⟩, ⟨by omega, by omega⟩⟩) (fun c117 => ?_) (fun c117 => ?_)
                  · skip
                    exfalso; omega
                  · skip
                    refine ap_ild_5 (pc := 120) dL_isBest_120 ?_
                    refine ap_ild_1 (pc := 122) dL_isBest_122 ?_
                    refine ap_icmp_lt (pc := 123) 130 dL_isBest_123 rfl ⟨by omega, by omega⟩ ⟨by omega, by omega⟩ (fun c123 => ?_) (fun c123 => ?_)
                    · skip
                      exfalso; omega
                    · skip
                      refine ap_const (pc := 126) dL_isBest_126 ?_
                      refine ap_goto (pc := 127) 131 dL_isBest_127 rfl ?_
                      refine ap_ist_4 (pc := 131) dL_isBest_131 (by decide) ?_
                      refine ap_iinc_5 (pc := 133) dL_isBest_133 (by decide) ?_
                      refine ap_goto (pc := 136) 54 dL_isBest_136 rfl ?_
                      exact (ihi (by omega) m I).bk ⟨rfl, rfl, rfl, rfl, rfl, congrArg (fun z => some (Sum.inl z)) (by omega), trivial, trivial⟩ rfl

