
abbrev cHas : ShC := .inr (.inl (0, 6))
theorem ex100 : (SH ++ [cHas])[100]? = some (.inr (.inl (0, 6))) := by decide +kernel
/-- the standing cells as they were, and what stands in the law's own row -/
def PI (m0 : AM) (hv : Int → Int) (m : AM) : Prop := (∀ (k : Nat) (j : Int), k < 100 → m k j = m0 k j) ∧ ∀ f : Int, 0 ≤ f → f < 6 → m 100 f = hv f
theorem PI.to {m0 m : AM} {hv hv' : Int → Int} (P : PI m0 hv m) (h : ∀ f : Int, 0 ≤ f → f < 6 → hv' f = hv f) : PI m0 hv' m := ⟨P.1, fun f a b => by rw [h f a b]; exact P.2 f a b⟩
theorem PI.up {m0 m : AM} {hv hv' : Int → Int} {g v : Int} (P : PI m0 hv m) (h : ∀ f : Int, 0 ≤ f → f < 6 → hv' f = if f = g then v else hv f) : PI m0 hv' (am_up m 100 g v) := by
  refine ⟨fun k j hk => by rw [am_k (by omega)]; exact P.1 k j hk, fun f a b => ?_⟩
  rw [h f a b]
  by_cases e : f = g
  · subst e; rw [am_same, if_pos rfl]
  · rw [am_j e, if_neg e]; exact P.2 f a b
def isNm (m0 : AM) (N : Int) : Prop := (if m0 91 7 = 1 then m0 91 6 else -4) = N
theorem kp_planned {r : Int → Int} {n : Int} {H : Int → Int → Int} {m0 m : AM} {F : Int → Int} {N : Int} (I : GI r n H m) (h : ∀ (k : Nat) (j : Int), k < 100 → m k j = m0 k j) (pF : planF (wW r) (wM r) (wB r) F m0) (z : m0 0 6 = 0) (hN : isNm m0 N) {i x : Int} (hi : rng i) (hx : rng x) (i0 : 0 ≤ i) (x1 : 0 ≤ x ∧ x ≤ 1) : CS 5 mX8_planned [.inr 0, .inl i, .inl x] m (an (if i < N then (if x = 0 then m0 96 i else m0 97 i) else -4) m) := by
  have q := qX8_planned0 i x r m I.1.1 (planF_frame (fun k j a b => h k j (by omega)) pF) (by rw [h 0 6 (by omega)]; exact z) hi hx
  rw [if_pos ⟨i0, x1.1, x1.2⟩, h 91 7 (by omega), h 91 6 (by omega), h 96 i (by omega), h 97 i (by omega)] at q
  unfold isNm at hN
  rw [← hN]
  by_cases c : m0 91 7 = 1
  · rw [if_pos c]
    by_cases c2 : i < m0 91 6
    · rw [if_pos ⟨c, c2⟩] at q; rw [if_pos c2]; exact q
    · rw [if_neg (fun y => c2 y.2)] at q; rw [if_neg c2]; exact q
  · rw [if_neg (fun y => c y.1)] at q
    rw [if_neg c, if_neg (by omega)]; exact q

set_option maxHeartbeats 8000000 in
theorem qL_isPlan2 {r : Int → Int} {n : Int} {H : Int → Int → Int} {m0 m : AM} {F : Int → Int} {N : Int} {S : Int → Int} {Z : ZB} (I0 : GI r n H m0) (pF : planF (wW r) (wM r) (wB r) F m0) (z6 : m0 0 6 = 0) (hN : isNm m0 N) (hP : isPl (wW r) (wM r) (wB r) S N m0) (P : PI m0 (fun _ => 0) m) (hO : exO Z [cHas]) (z1 : 101 = Z.1.1) (z2 : 5364 = Z.1.2) (z3 : [cHas] = Z.2.2.2) : LQ 6 Z mL_isPlan [] [] [cHas] 10 [some (.inr 0), some (.inl N), some (.inr 100), none, none, none, none, none, none, none, none, none, none, none] [] m (fun v m' => v = some 1 ∧ GI r n H m') := by
  have wR := I0.1.1
  have h12 := wR.1.1
  have hwO := wOK_of wR
  have I : GI r n H m := GI_same P.1 I0
  have s0 := hP.1
  have hNb : N = -4 ∨ (0 ≤ N ∧ N ≤ 18) := hP.2.1.imp id (fun z => z.1)
  have hNw : N ≤ wisT r := by
    rw [← rem_wis r]
    rcases hP.2.1 with z | z
    · have := (rem_bd hwO (s := 0) (fun f a b => by rw [dg_0]; exact (hwO f a b).1.1)).1
      omega
    · exact z.2.2.2
  have hwb := (rem_bd hwO (s := 0) (fun f a b => by rw [dg_0]; exact (hwO f a b).1.1))
  rw [rem_wis r] at hwb
  refine lp_sipush (pc := 10) dL_isPlan_10 sp_1200 ?_
  refine lp_ist_3 (pc := 13) dL_isPlan_13 (by decide) (by unfold lkO; simp) ?_
  have J26 : LQ 6 Z mL_isPlan [] [] [cHas] 26 [some (.inr 0), some (.inl N), some (.inr 100), some (.inl 1200), none, none, none, none, none, none, none, none, none, none] [] m (fun v m' => v = some 1 ∧ GI r n H m') := by
    skip
    refine lp_const (pc := 26) dL_isPlan_26 ?_
    refine lp_goto (pc := 27) 31 dL_isPlan_27 rfl ?_
    refine lp_ist_4 (pc := 31) dL_isPlan_31 (by decide) (by unfold lkO; simp) ?_
    refine lp_const (pc := 33) dL_isPlan_33 ?_
    refine lp_ist_5 (pc := 34) dL_isPlan_34 (by decide) (by unfold lkO; simp) ?_
    refine lp_const (pc := 36) dL_isPlan_36 ?_
    refine lp_ist_6 (pc := 37) dL_isPlan_37 (by decide) (by unfold lkO; simp) ?_
    refine LQ.bk (up_rec 6 (fun f => LQ 6 Z mL_isPlan [] [] [cHas] 39 [some (.inr 0), some (.inl N), some (.inr 100), some (.inl 1200), some (.inl 1), some (.inl (moA r f)), some (.inl (f : Int)), none, none, none, none, none, none, none] [] m (fun v m' => v = some 1 ∧ GI r n H m')) (by omega) (fun f hf ihf => ?_)) ⟨rfl, rfl, rfl, rfl, rfl, rfl, rfl, trivial, trivial, trivial, trivial, trivial, trivial, trivial, trivial⟩ rfl
    refine lp_ild_6 (pc := 39) dL_isPlan_39 ?_
    refine lp_bipush (pc := 41) dL_isPlan_41 bp_6 ?_
    refine lp_icmp_ge (pc := 43) 107 dL_isPlan_43 rfl ⟨by omega, by omega⟩ ⟨by omega, by omega⟩ (fun c43 => ?_) (fun c43 => ?_)
    · skip
      have ef : f = 6 := by omega
      subst ef
      have hmo6 : 0 ≤ N → moA r 6 ≤ N := fun h0 => (moA_bd (r := r) (c := N) h0 6 (fun g a b => ⟨(wR.2.2.2 g a (by omega)).1.1, by
        rcases hP.2.1 with z | z
        · omega
        · rw [← wW_f (r := r) (f := g) a (by omega)]; exact z.2.2.1 g a (by omega)⟩)).2
      have hmo3 := moA_bd (r := r) (c := 3) (by omega) 6 (fun g a b => (wR.2.2.2 g a (by omega)).1)
      refine lp_ild_4 (pc := 107) dL_isPlan_107 ?_
      refine lp_if_eq (pc := 109) 153 dL_isPlan_109 rfl ⟨by omega, by omega⟩ (fun c109 => absurd c109 (by decide)) (fun _ => ?_)
      have J134 : LQ 6 Z mL_isPlan [] [] [cHas] 134 [some (.inr 0), some (.inl N), some (.inr 100), some (.inl 1200), some (.inl 1), some (.inl (moA r 6)), some (.inl ((6 : Nat) : Int)), none, none, none, none, none, none, none] [] m (fun v m' => v = some 1 ∧ GI r n H m') := by
        skip
        have J149 : LQ 6 Z mL_isPlan [] [] [cHas] 149 [some (.inr 0), some (.inl N), some (.inr 100), some (.inl 1200), some (.inl 1), some (.inl (moA r 6)), some (.inl ((6 : Nat) : Int)), none, none, none, none, none, none, none] [] m (fun v m' => v = some 1 ∧ GI r n H m') := by
          skip
          refine lp_const (pc := 149) dL_isPlan_149 ?_
          refine lp_goto (pc := 150) 154 dL_isPlan_150 rfl ?_
          refine lp_ist_4 (pc := 154) dL_isPlan_154 (by decide) (by unfold lkO; simp) ?_
          refine lp_const (pc := 156) dL_isPlan_156 ?_
          refine lp_ist_6 (pc := 157) dL_isPlan_157 (by decide) (by unfold lkO; simp) ?_
          refine LQ.bk (up_rec (max N 0) (fun k => ∀ (m : AM) (cap : Int), PI m0 (fun f => dg (S k) f) m → (capS (wB r) (S k) ≤ cap ∧ cap ≤ 1200) → LQ 6 Z mL_isPlan [] [] [cHas] 159 [some (.inr 0), some (.inl N), some (.inr 100), some (.inl cap), some (.inl 1), some (.inl (moA r 6)), some (.inl (k : Int)), none, none, none, none, none, none, none] [] m (fun v m' => v = some 1 ∧ GI r n H m')) (by omega) (fun k hk ihk m cap P hcap => ?_) m 1200 (P.to (fun f a b => by show dg (S 0) f = 0; rw [s0, dg_0])) ⟨(cap_n (wB r) _ 6).1, Int.le_refl _⟩) ⟨rfl, rfl, rfl, rfl, rfl, rfl, rfl, trivial, trivial, trivial, trivial, trivial, trivial, trivial, trivial⟩ rfl
          have I : GI r n H m := GI_same P.1 I0
          refine lp_ild_6 (pc := 159) dL_isPlan_159 ?_
          refine lp_ild_1 (pc := 161) dL_isPlan_161 ?_
          refine lp_icmp_ge (pc := 162) 444 dL_isPlan_162 rfl ⟨by omega, by omega⟩ ⟨by omega, by omega⟩ (fun c162 => ?_) (fun c162 => ?_)
          · skip
            have hkN : ¬ (k : Int) < N := by omega
            refine lp_const (pc := 444) dL_isPlan_444 ?_
            refine lp_ist_6 (pc := 445) dL_isPlan_445 (by decide) (by unfold lkO; simp) ?_
            refine LQ.bk (up_rec 6 (fun f => LQ 6 Z mL_isPlan [] [] [cHas] 447 [some (.inr 0), some (.inl N), some (.inr 100), none, some (.inl 1), none, some (.inl (f : Int)), none, none, none, none, none, none, none] [] m (fun v m' => v = some 1 ∧ GI r n H m')) (by omega) (fun f hf ihf => ?_)) ⟨rfl, rfl, rfl, trivial, rfl, trivial, rfl, trivial, trivial, trivial, trivial, trivial, trivial, trivial, trivial⟩ rfl
            refine lp_ild_6 (pc := 447) dL_isPlan_447 ?_
            refine lp_bipush (pc := 449) dL_isPlan_449 bp_6 ?_
            refine lp_icmp_ge (pc := 451) 491 dL_isPlan_451 rfl ⟨by omega, by omega⟩ ⟨by omega, by omega⟩ (fun c451 => ?_) (fun c451 => ?_)
            · skip
              refine lp_ild_4 (pc := 491) dL_isPlan_491 ?_
              refine lp_if_eq (pc := 493) 515 dL_isPlan_493 rfl ⟨by omega, by omega⟩ (fun c493 => absurd c493 (by decide)) (fun _ => ?_)
              refine lp_ild_1 (pc := 496) dL_isPlan_496 ?_
              refine lp_if_lt (pc := 497) 511 dL_isPlan_497 rfl ⟨by omega, by omega⟩ (fun c497 => ?_) (fun c497 => ?_)
              · skip
                refine lp_const (pc := 511) dL_isPlan_511 ?_
                refine lp_goto (pc := 512) 516 dL_isPlan_512 rfl ?_
                exact lp_zreturn (pc := 516) dL_isPlan_516 rfl (Or.inr rfl) z1 z2 z3 ⟨rfl, I⟩
              · skip
                refine lp_ald_0 (pc := 500) dL_isPlan_500 ?_
                refine lp_ild_1 (pc := 501) dL_isPlan_501 ?_
                refine lp_const (pc := 502) dL_isPlan_502 ?_
                refine lp_invVR (pc := 503) dL_isPlan_503 mv_RL_60 sh_0 (av := [_, _]) (rest := []) (kp_planned I P.1 pF z6 hN ⟨by omega, by omega⟩ ⟨by omega, by omega⟩ (by omega) ⟨by omega, by omega⟩) rfl rfl (Nat.le_of_ble_eq_true rfl) (by decide) (by decide) hO ?_
                rw [if_neg (by omega)]
                refine lp_bipush (pc := 506) dL_isPlan_506 bp_m4 ?_
                refine lp_icmp_ne (pc := 508) 515 dL_isPlan_508 rfl (Or.inr ⟨⟨by omega, by omega⟩, ⟨by omega, by omega⟩⟩) (fun c508 => absurd c508 (by decide)) (fun _ => ?_)
                refine lp_const (pc := 511) dL_isPlan_511 ?_
                refine lp_goto (pc := 512) 516 dL_isPlan_512 rfl ?_
                exact lp_zreturn (pc := 516) dL_isPlan_516 rfl (Or.inr rfl) z1 z2 z3 ⟨rfl, I⟩
            · skip
              have hwf := wR.2.2.2 f (by omega) (by omega)
              have hWf : wW r f = r (126 + 4 * (f : Int)) := wW_f (by omega) (by omega)
              refine lp_ild_4 (pc := 454) dL_isPlan_454 ?_
              refine lp_if_eq (pc := 456) 491 dL_isPlan_456 rfl ⟨by omega, by omega⟩ (fun c456 => absurd c456 (by decide)) (fun _ => ?_)
              refine lp_ild_1 (pc := 459) dL_isPlan_459 ?_
              refine lp_if_lt (pc := 460) 491 dL_isPlan_460 rfl ⟨by omega, by omega⟩ (fun c460 => ?_) (fun c460 => ?_)
              · skip
                refine lp_ild_4 (pc := 491) dL_isPlan_491 ?_
                refine lp_if_eq (pc := 493) 515 dL_isPlan_493 rfl ⟨by omega, by omega⟩ (fun c493 => absurd c493 (by decide)) (fun _ => ?_)
                refine lp_ild_1 (pc := 496) dL_isPlan_496 ?_
                refine lp_if_lt (pc := 497) 511 dL_isPlan_497 rfl ⟨by omega, by omega⟩ (fun c497 => ?_) (fun c497 => ?_)
                · skip
                  refine lp_const (pc := 511) dL_isPlan_511 ?_
                  refine lp_goto (pc := 512) 516 dL_isPlan_512 rfl ?_
                  exact lp_zreturn (pc := 516) dL_isPlan_516 rfl (Or.inr rfl) z1 z2 z3 ⟨rfl, I⟩
                · skip
                  refine lp_ald_0 (pc := 500) dL_isPlan_500 ?_
                  refine lp_ild_1 (pc := 501) dL_isPlan_501 ?_
                  refine lp_const (pc := 502) dL_isPlan_502 ?_
                  refine lp_invVR (pc := 503) dL_isPlan_503 mv_RL_60 sh_0 (av := [_, _]) (rest := []) (kp_planned I P.1 pF z6 hN ⟨by omega, by omega⟩ ⟨by omega, by omega⟩ (by omega) ⟨by omega, by omega⟩) rfl rfl (Nat.le_of_ble_eq_true rfl) (by decide) (by decide) hO ?_
                  rw [if_neg (by omega)]
                  refine lp_bipush (pc := 506) dL_isPlan_506 bp_m4 ?_
                  refine lp_icmp_ne (pc := 508) 515 dL_isPlan_508 rfl (Or.inr ⟨⟨by omega, by omega⟩, ⟨by omega, by omega⟩⟩) (fun c508 => absurd c508 (by decide)) (fun _ => ?_)
                  refine lp_const (pc := 511) dL_isPlan_511 ?_
                  refine lp_goto (pc := 512) 516 dL_isPlan_512 rfl ?_
                  exact lp_zreturn (pc := 516) dL_isPlan_516 rfl (Or.inr rfl) z1 z2 z3 ⟨rfl, I⟩
              · skip
                have hful : dg (S k) f = r (126 + 4 * (f : Int)) := by
                  rcases hP.2.1 with z | z
                  · omega
                  · have ekN : (k : Int) = N := by omega
                    rw [ekN, z.2.1 f (by omega) (by omega)]; exact hWf
                have hf3 : m 100 (f : Int) = dg (S k) f := P.2 f (by omega) (by omega)
                refine lp_ald_0 (pc := 463) dL_isPlan_463 ?_
                refine lp_ild_6 (pc := 464) dL_isPlan_464 ?_
                refine lp_ald_2 (pc := 466) dL_isPlan_466 ?_
                refine lp_ild_6 (pc := 467) dL_isPlan_467 ?_
                refine lp_iaload (pc := 469) dL_isPlan_469 ex100 (by omega) (by omega) (by decide) ?_
                rw [hf3, hful]
                refine lp_invVR (pc := 470) dL_isPlan_470 mv_RL_27 sh_0 (av := [_, _]) (rest := []) (k_wished I ⟨by omega, by omega⟩ ⟨by omega, by omega⟩) rfl rfl (Nat.le_of_ble_eq_true rfl) (by decide) (by decide) hO ?_
                rw [vWD_n (by omega) (by omega) (by omega) (by omega)]
                refine lp_bipush (pc := 473) dL_isPlan_473 bp_m4 ?_
                refine lp_icmp_ne (pc := 475) 482 dL_isPlan_475 rfl (Or.inr ⟨⟨by omega, by omega⟩, ⟨by omega, by omega⟩⟩) (fun c475 => absurd c475 (by decide)) (fun _ => ?_)
                refine lp_const (pc := 478) dL_isPlan_478 ?_
                refine lp_goto (pc := 479) 483 dL_isPlan_479 rfl ?_
                refine lp_ist_4 (pc := 483) dL_isPlan_483 (by decide) (by unfold lkO; simp) ?_
                refine lp_iinc_6 (pc := 485) dL_isPlan_485 (by decide) (by unfold lkO; simp) ?_
                refine lp_goto (pc := 488) 447 dL_isPlan_488 rfl ?_
                exact (ihf c451).bk ⟨rfl, rfl, rfl, trivial, rfl, trivial, rfl, trivial, trivial, trivial, trivial, trivial, trivial, trivial, trivial⟩ rfl
          · skip
            have hkN : (k : Int) < N := c162
            have hpk := hP.2.2 k (by omega) hkN
            obtain ⟨hset, hok, hval, hsb, hnx, hT⟩ := hpk
            have hx1 := hset.1
            have hx2 := hset.2
            have ek1 : S ((k + 1 : Nat) : Int) = S ((k : Int) + 1) := congrArg S (by omega)
            have v1 : valS (wW r) (S ((k : Int) + 1)) := by
              by_cases e : (k : Int) + 1 < N
              · exact (hP.2.2 (k + 1) (by omega) e).2.2.1
              · have eN : (k : Int) + 1 = N := by omega
                rw [eN]
                rcases hP.2.1 with z | z
                · omega
                · exact ful_val z.2.1
            have hmono : capS (wB r) (S ((k : Int) + 1)) ≤ capS (wB r) (S k) := cap_mono (fun f a b => by
              rw [hnx f a b]
              have := bt_bd (m0 96 k) f
              omega)
            have hmb : 0 ≤ melS (wM r) (S k) (m0 96 k) ∧ melS (wM r) (S k) (m0 96 k) ≤ 900 := mel_bd hwO 6 (by omega) (fun f a b c => hok.1 f a b c)
            have hbc : melS (wM r) (S k) (m0 96 k) ≤ cap := Int.le_trans hok.2 (Int.le_trans (bur_le 6).1 hcap.1)
            refine lp_ild_4 (pc := 165) dL_isPlan_165 ?_
            refine lp_if_eq (pc := 167) 444 dL_isPlan_167 rfl ⟨by omega, by omega⟩ (fun c167 => absurd c167 (by decide)) (fun _ => ?_)
            refine lp_ald_0 (pc := 170) dL_isPlan_170 ?_
            refine lp_ild_6 (pc := 171) dL_isPlan_171 ?_
            refine lp_const (pc := 173) dL_isPlan_173 ?_
            refine lp_invVR (pc := 174) dL_isPlan_174 mv_RL_60 sh_0 (av := [_, _]) (rest := []) (kp_planned I P.1 pF z6 hN ⟨by omega, by omega⟩ ⟨by omega, by omega⟩ (by omega) ⟨by omega, by omega⟩) rfl rfl (Nat.le_of_ble_eq_true rfl) (by decide) (by decide) hO ?_
            rw [if_pos hkN, if_pos rfl]
            refine lp_ist_7 (pc := 177) dL_isPlan_177 (by decide) (by unfold lkO; simp) ?_
            refine lp_ald_0 (pc := 179) dL_isPlan_179 ?_
            refine lp_ild_6 (pc := 180) dL_isPlan_180 ?_
            refine lp_const (pc := 182) dL_isPlan_182 ?_
            refine lp_invVR (pc := 183) dL_isPlan_183 mv_RL_60 sh_0 (av := [_, _]) (rest := []) (kp_planned I P.1 pF z6 hN ⟨by omega, by omega⟩ ⟨by omega, by omega⟩ (by omega) ⟨by omega, by omega⟩) rfl rfl (Nat.le_of_ble_eq_true rfl) (by decide) (by decide) hO ?_
            rw [if_pos hkN, if_neg (by omega), hT]
            refine lp_ist_8 (pc := 186) dL_isPlan_186 (by decide) (by unfold lkO; simp) ?_
            refine lp_const (pc := 188) dL_isPlan_188 ?_
            refine lp_ist_9 (pc := 189) dL_isPlan_189 (by decide) (by unfold lkO; simp) ?_
            refine lp_ild_7 (pc := 191) dL_isPlan_191 ?_
            refine lp_if_le (pc := 193) 207 dL_isPlan_193 rfl ⟨by omega, by omega⟩ (fun c193 => ?_) (fun c193 => ?_)
            · skip
              exfalso; omega
            · skip
              refine lp_ild_7 (pc := 196) dL_isPlan_196 ?_
              refine lp_bipush (pc := 198) dL_isPlan_198 bp_64 ?_
              refine lp_icmp_ge (pc := 200) 207 dL_isPlan_200 rfl ⟨by omega, by omega⟩ ⟨by omega, by omega⟩ (fun c200 => ?_) (fun c200 => ?_)
              · skip
                exfalso; omega
              · skip
                refine lp_const (pc := 203) dL_isPlan_203 ?_
                refine lp_goto (pc := 204) 208 dL_isPlan_204 rfl ?_
                refine lp_ist_4 (pc := 208) dL_isPlan_208 (by decide) (by unfold lkO; simp) ?_
                refine lp_const (pc := 210) dL_isPlan_210 ?_
                refine lp_ist_10 (pc := 211) dL_isPlan_211 (by decide) (by unfold lkO; simp) ?_
                refine LQ.bk (up_rec 6 (fun f => ∀ m : AM, PI m0 (fun g => dg (S k) g + (if g < (f : Int) then bt (m0 96 k) g else 0)) m → LQ 6 Z mL_isPlan [] [] [cHas] 213 [some (.inr 0), some (.inl N), some (.inr 100), some (.inl cap), some (.inl 1), some (.inl (moA r 6)), some (.inl (k : Int)), some (.inl (m0 96 k)), some (.inl (melS (wM r) (S k) (m0 96 k))), some (.inl (accL (melG (wM r) (S k) (m0 96 k)) 0 f)), some (.inl (f : Int)), none, none, none] [] m (fun v m' => v = some 1 ∧ GI r n H m')) (by omega) (fun f hf ihf m P => ?_) m (P.to (fun f a b => by rw [if_neg (by omega)]; omega))) ⟨rfl, rfl, rfl, rfl, rfl, rfl, rfl, rfl, rfl, rfl, rfl, trivial, trivial, trivial, trivial⟩ rfl
                have I : GI r n H m := GI_same P.1 I0
                refine lp_ild_10 (pc := 213) dL_isPlan_213 ?_
                refine lp_bipush (pc := 215) dL_isPlan_215 bp_6 ?_
                refine lp_icmp_ge (pc := 217) 351 dL_isPlan_217 rfl ⟨by omega, by omega⟩ ⟨by omega, by omega⟩ (fun c217 => ?_) (fun c217 => ?_)
                · skip
                  have ef : f = 6 := by omega
                  subst ef
                  have P2 : PI m0 (fun g => dg (S ((k : Int) + 1)) g) m := P.to (fun f a b => by show dg (S ((k : Int) + 1)) f = _; rw [hnx f a b, if_pos (by omega)])
                  have P := P2
                  have hme : accL (melG (wM r) (S k) (m0 96 k)) 0 6 = melS (wM r) (S k) (m0 96 k) := rfl
                  rw [hme]
                  refine lp_ild_4 (pc := 351) dL_isPlan_351 ?_
                  refine lp_if_eq (pc := 353) 373 dL_isPlan_353 rfl ⟨by omega, by omega⟩ (fun c353 => absurd c353 (by decide)) (fun _ => ?_)
                  refine lp_ild_8 (pc := 356) dL_isPlan_356 ?_
                  refine lp_ild_9 (pc := 358) dL_isPlan_358 ?_
                  refine lp_icmp_ne (pc := 360) 373 dL_isPlan_360 rfl (Or.inl rfl) (fun c360 => ?_) (fun c360 => ?_)
                  · skip
                    exact absurd rfl c360
                  · skip
                    refine lp_ild_8 (pc := 363) dL_isPlan_363 ?_
                    refine lp_ild_3 (pc := 365) dL_isPlan_365 ?_
                    refine lp_icmp_gt (pc := 366) 373 dL_isPlan_366 rfl ⟨by omega, by omega⟩ ⟨by omega, by omega⟩ (fun c366 => ?_) (fun c366 => ?_)
                    · skip
                      exfalso; omega
                    · skip
                      refine lp_const (pc := 369) dL_isPlan_369 ?_
                      refine lp_goto (pc := 370) 374 dL_isPlan_370 rfl ?_
                      refine lp_ist_4 (pc := 374) dL_isPlan_374 (by decide) (by unfold lkO; simp) ?_
                      refine lp_const (pc := 376) dL_isPlan_376 ?_
                      refine lp_ist_10 (pc := 377) dL_isPlan_377 (by decide) (by unfold lkO; simp) ?_
                      refine LQ.bk (up_rec 6 (fun f => ∀ cap2 : Int, (capS (wB r) (S (k + 1)) ≤ cap2 ∧ cap2 ≤ 1200) → LQ 6 Z mL_isPlan [] [] [cHas] 379 [some (.inr 0), some (.inl N), some (.inr 100), some (.inl cap2), some (.inl 1), some (.inl (moA r 6)), some (.inl (k : Int)), none, none, none, some (.inl (f : Int)), none, none, none] [] m (fun v m' => v = some 1 ∧ GI r n H m')) (by omega) (fun f hf ihf cap2 hcap2 => ?_) cap ⟨Int.le_trans hmono hcap.1, hcap.2⟩) ⟨rfl, rfl, rfl, rfl, rfl, rfl, rfl, trivial, trivial, trivial, rfl, trivial, trivial, trivial, trivial⟩ rfl
                      refine lp_ild_10 (pc := 379) dL_isPlan_379 ?_
                      refine lp_bipush (pc := 381) dL_isPlan_381 bp_6 ?_
                      refine lp_icmp_ge (pc := 383) 438 dL_isPlan_383 rfl ⟨by omega, by omega⟩ ⟨by omega, by omega⟩ (fun c383 => ?_) (fun c383 => ?_)
                      · skip
                        skip
                        refine lp_iinc_6 (pc := 438) dL_isPlan_438 (by decide) (by unfold lkO; simp) ?_
                        refine lp_goto (pc := 441) 159 dL_isPlan_441 rfl ?_
                        exact (ihk (by omega) m cap2 P (by rw [ek1]; exact hcap2)).bk ⟨rfl, rfl, rfl, rfl, rfl, rfl, rfl, trivial, trivial, trivial, trivial, trivial, trivial, trivial, trivial⟩ rfl
                      · skip
                        have hwf := wR.2.2.2 f (by omega) (by omega)
                        have hWf : wW r f = r (126 + 4 * (f : Int)) := wW_f (by omega) (by omega)
                        have hf2 : m 100 (f : Int) = dg (S ((k : Int) + 1)) f := P.2 f (by omega) (by omega)
                        have hdb := dg_bd (S ((k : Int) + 1)) f
                        refine lp_const (pc := 386) dL_isPlan_386 ?_
                        refine lp_ist_11 (pc := 387) dL_isPlan_387 (by decide) (by unfold lkO; simp) ?_
                        refine LQ.bk (up_rec (dg (S (k + 1)) f) (fun l => ∀ cap2 : Int, (capS (wB r) (S (k + 1)) ≤ cap2 ∧ cap2 ≤ 1200) → LQ 6 Z mL_isPlan [] [] [cHas] 389 [some (.inr 0), some (.inl N), some (.inr 100), some (.inl cap2), some (.inl 1), some (.inl (moA r 6)), some (.inl (k : Int)), none, none, none, some (.inl (f : Int)), some (.inl (l : Int)), none, none] [] m (fun v m' => v = some 1 ∧ GI r n H m')) (dg_bd _ _).1 (fun l hll ihl cap2 hcap2 => ?_) cap2 hcap2) ⟨rfl, rfl, rfl, rfl, rfl, rfl, rfl, trivial, trivial, trivial, rfl, rfl, trivial, trivial, trivial⟩ rfl
                        refine lp_ild_11 (pc := 389) dL_isPlan_389 ?_
                        refine lp_ald_2 (pc := 391) dL_isPlan_391 ?_
                        refine lp_ild_10 (pc := 392) dL_isPlan_392 ?_
                        refine lp_iaload (pc := 394) dL_isPlan_394 ex100 (by omega) (by omega) (by decide) ?_
                        rw [hf2]
                        refine lp_icmp_ge (pc := 395) 432 dL_isPlan_395 rfl ⟨by omega, by omega⟩ ⟨by omega, by omega⟩ (fun c395 => ?_) (fun c395 => ?_)
                        · skip
                          refine lp_iinc_10 (pc := 432) dL_isPlan_432 (by decide) (by unfold lkO; simp) ?_
                          refine lp_goto (pc := 435) 379 dL_isPlan_435 rfl ?_
                          exact (ihf c383 _ hcap2).bk ⟨rfl, rfl, rfl, rfl, rfl, rfl, rfl, trivial, trivial, trivial, rfl, trivial, trivial, trivial, trivial⟩ rfl
                        · skip
                          have hl : (l : Int) < dg (S ((k : Int) + 1)) f := c395
                          have hvf := v1 f (by omega) (by omega)
                          have hdl : (l : Int) < r (126 + 4 * (f : Int)) := by rw [← hWf]; omega
                          have hco := hwf.2 l (by omega) hdl
                          have hcc := wR.1.2 _ hco.1 hco.2
                          have hBm : wB r f l = buR r (r (126 + 4 * (f : Int) + 1 + l)) := if_pos ⟨⟨by omega, by omega⟩, by omega, hdl⟩
                          have hcl : capS (wB r) (S ((k : Int) + 1)) ≤ buR r (r (126 + 4 * (f : Int) + 1 + l)) := by rw [← hBm]; exact cap_le (by omega) (by omega) (by omega) hl
                          have hc0 : 0 ≤ capS (wB r) (S ((k : Int) + 1)) := (cap_bd2 hwO v1 6 (by omega)).1
                          refine lp_ald_0 (pc := 398) dL_isPlan_398 ?_
                          refine lp_ald_0 (pc := 399) dL_isPlan_399 ?_
                          refine lp_ild_10 (pc := 400) dL_isPlan_400 ?_
                          refine lp_ild_11 (pc := 402) dL_isPlan_402 ?_
                          refine lp_invVR (pc := 404) dL_isPlan_404 mv_RL_27 sh_0 (av := [_, _]) (rest := [_]) (k_wished I ⟨by omega, by omega⟩ ⟨by omega, by omega⟩) rfl rfl (Nat.le_of_ble_eq_true rfl) (by decide) (by decide) hO ?_
                          rw [vWD_p (by omega) (by omega) (by omega) hdl]
                          refine lp_const (pc := 407) dL_isPlan_407 ?_
                          refine lp_invVR (pc := 408) dL_isPlan_408 mv_RL_30 sh_0 (av := [_, _]) (rest := []) (k_colorInfo I ⟨by omega, by omega⟩ ⟨by omega, by omega⟩) rfl rfl (Nat.le_of_ble_eq_true rfl) (by decide) (by decide) hO ?_
                          rw [vCI_1 hco.1 hco.2]
                          refine lp_ist_12 (pc := 411) dL_isPlan_411 (by decide) (by unfold lkO; simp) ?_
                          refine lp_ild_12 (pc := 413) dL_isPlan_413 ?_
                          refine lp_ild_3 (pc := 415) dL_isPlan_415 ?_
                          refine lp_icmp_ge (pc := 416) 424 dL_isPlan_416 rfl ⟨by omega, by omega⟩ ⟨by omega, by omega⟩ (fun c416 => ?_) (fun c416 => ?_)
                          · skip
                            refine lp_ild_3 (pc := 424) dL_isPlan_424 ?_
                            refine lp_ist_3 (pc := 425) dL_isPlan_425 (by decide) (by unfold lkO; simp) ?_
                            refine lp_iinc_11 (pc := 426) dL_isPlan_426 (by decide) (by unfold lkO; simp) ?_
                            refine lp_goto (pc := 429) 389 dL_isPlan_429 rfl ?_
                            exact (ihl hl _ (by first | exact hcap2 | exact ⟨by omega, by omega⟩)).bk ⟨rfl, rfl, rfl, rfl, rfl, rfl, rfl, trivial, trivial, trivial, rfl, rfl, trivial, trivial, trivial⟩ rfl
                          · skip
                            refine lp_ild_12 (pc := 419) dL_isPlan_419 ?_
                            refine lp_goto (pc := 421) 425 dL_isPlan_421 rfl ?_
                            refine lp_ist_3 (pc := 425) dL_isPlan_425 (by decide) (by unfold lkO; simp) ?_
                            refine lp_iinc_11 (pc := 426) dL_isPlan_426 (by decide) (by unfold lkO; simp) ?_
                            refine lp_goto (pc := 429) 389 dL_isPlan_429 rfl ?_
                            exact (ihl hl _ (by first | exact hcap2 | exact ⟨by omega, by omega⟩)).bk ⟨rfl, rfl, rfl, rfl, rfl, rfl, rfl, trivial, trivial, trivial, rfl, rfl, trivial, trivial, trivial⟩ rfl
                · skip
                  have hwf := wR.2.2.2 f (by omega) (by omega)
                  have hWf : wW r f = r (126 + 4 * (f : Int)) := wW_f (by omega) (by omega)
                  have hbb : 0 ≤ bt (m0 96 k) f ∧ bt (m0 96 k) f ≤ 1 := by rcases bt_bd (m0 96 k) f with z | z <;> omega
                  have hmf := mel_bd hwO (s := S k) (x := m0 96 k) f (by omega) (fun g a b c => hok.1 g a (by omega) c)
                  have hf1 : m 100 (f : Int) = dg (S k) f := (P.2 f (by omega) (by omega)).trans (by show dg (S k) f + (if (f : Int) < (f : Int) then bt (m0 96 k) f else 0) = dg (S k) f; rw [if_neg (by omega)]; omega)
                  have hdb := dg_bd (S k) f
                  refine lp_ild_4 (pc := 220) dL_isPlan_220 ?_
                  refine lp_if_eq (pc := 222) 351 dL_isPlan_222 rfl ⟨by omega, by omega⟩ (fun c222 => absurd c222 (by decide)) (fun _ => ?_)
                  refine lp_ild_7 (pc := 225) dL_isPlan_225 ?_
                  refine lp_ild_10 (pc := 227) dL_isPlan_227 ?_
                  refine lp_ishr (pc := 229) dL_isPlan_229 ?_
                  refine lp_const (pc := 230) dL_isPlan_230 ?_
                  refine lp_iand (pc := 231) dL_isPlan_231 ?_
                  rw [bt_i (by omega) (by omega) (by omega) (by omega)]
                  refine lp_const (pc := 232) dL_isPlan_232 ?_
                  refine lp_icmp_ne (pc := 233) 345 dL_isPlan_233 rfl (Or.inr ⟨⟨by omega, by omega⟩, ⟨by omega, by omega⟩⟩) (fun c233 => ?_) (fun c233 => ?_)
                  · skip
                    have hb0 : bt (m0 96 k) f = 0 := (bt_bd _ _).resolve_right c233
                    have P2 : PI m0 (fun g => dg (S k) g + (if g < ((f + 1 : Nat) : Int) then bt (m0 96 k) g else 0)) m := P.to (fun g a b => by
                      by_cases e : g = (f : Int)
                      · rw [e, if_pos (by omega), if_neg (by omega), hb0]
                      · by_cases e2 : g < (f : Int)
                        · rw [if_pos (by omega), if_pos e2]
                        · rw [if_neg (by omega), if_neg e2])
                    refine lp_iinc_10 (pc := 345) dL_isPlan_345 (by decide) (by unfold lkO; simp) ?_
                    refine lp_goto (pc := 348) 213 dL_isPlan_348 rfl ?_
                    have hbx := bt_bd (m0 96 k) f
                    exact (ihf c217 _ P2).bk ⟨rfl, rfl, rfl, rfl, rfl, rfl, rfl, rfl, rfl, congrArg (fun z => some (Sum.inl z)) (by rw [accL_succ]; show _ = if bt (m0 96 k) f = 1 then max _ (wM r f (dg (S k) f)) else _; first | (rw [if_pos hb1, hMm]; omega) | rw [if_neg (by omega)]), rfl, trivial, trivial, trivial, trivial⟩ rfl
                  · skip
                    have hb1 : bt (m0 96 k) f = 1 := c233
                    have hdl : dg (S k) f < r (126 + 4 * (f : Int)) := by rw [← hWf]; exact hok.1 f (by omega) (by omega) hb1
                    have hco := hwf.2 (dg (S k) f) hdb.1 hdl
                    have hcc := wR.1.2 _ hco.1 hco.2
                    have hMm : wM r f (dg (S k) f) = meR r (r (126 + 4 * (f : Int) + 1 + dg (S k) f)) := if_pos ⟨⟨by omega, by omega⟩, hdb.1, hdl⟩
                    have hBm : wB r f (dg (S k) f) = buR r (r (126 + 4 * (f : Int) + 1 + dg (S k) f)) := if_pos ⟨⟨by omega, by omega⟩, hdb.1, hdl⟩
                    have hge : meR r (r (126 + 4 * (f : Int) + 1 + dg (S k) f)) ≤ melS (wM r) (S k) (m0 96 k) := by rw [← hMm]; exact mel_ge hb1 6 (by omega)
                    have hle : melS (wM r) (S k) (m0 96 k) ≤ buR r (r (126 + 4 * (f : Int) + 1 + dg (S k) f)) := by rw [← hBm]; exact Int.le_trans hok.2 ((bur_le 6).2 f (by omega) hb1)
                    have P2 : PI m0 (fun g => dg (S k) g + (if g < ((f + 1 : Nat) : Int) then bt (m0 96 k) g else 0)) (am_up m 100 f (dg (S k) f + 1)) := P.up (fun g a b => by
                      by_cases e : g = (f : Int)
                      · rw [if_pos e, e, if_pos (by omega), hb1]
                      · by_cases e2 : g < (f : Int)
                        · rw [if_pos (by omega), if_neg e, if_pos e2]
                        · rw [if_neg (by omega), if_neg e, if_neg e2])
                    refine lp_ald_0 (pc := 236) dL_isPlan_236 ?_
                    refine lp_ild_10 (pc := 237) dL_isPlan_237 ?_
                    refine lp_ald_2 (pc := 239) dL_isPlan_239 ?_
                    refine lp_ild_10 (pc := 240) dL_isPlan_240 ?_
                    refine lp_iaload (pc := 242) dL_isPlan_242 ex100 (by omega) (by omega) (by decide) ?_
                    rw [hf1]
                    refine lp_invVR (pc := 243) dL_isPlan_243 mv_RL_27 sh_0 (av := [_, _]) (rest := []) (k_wished I ⟨by omega, by omega⟩ ⟨by omega, by omega⟩) rfl rfl (Nat.le_of_ble_eq_true rfl) (by decide) (by decide) hO ?_
                    rw [vWD_p (by omega) (by omega) (by omega) hdl]
                    refine lp_ist_11 (pc := 246) dL_isPlan_246 (by decide) (by unfold lkO; simp) ?_
                    refine lp_ild_11 (pc := 248) dL_isPlan_248 ?_
                    refine lp_if_lt (pc := 250) 281 dL_isPlan_250 rfl ⟨by omega, by omega⟩ (fun c250 => ?_) (fun c250 => ?_)
                    · skip
                      exfalso; omega
                    · skip
                      refine lp_ild_8 (pc := 253) dL_isPlan_253 ?_
                      refine lp_ald_0 (pc := 255) dL_isPlan_255 ?_
                      refine lp_ild_11 (pc := 256) dL_isPlan_256 ?_
                      refine lp_const (pc := 258) dL_isPlan_258 ?_
                      refine lp_invVR (pc := 259) dL_isPlan_259 mv_RL_30 sh_0 (av := [_, _]) (rest := [_]) (k_colorInfo I ⟨by omega, by omega⟩ ⟨by omega, by omega⟩) rfl rfl (Nat.le_of_ble_eq_true rfl) (by decide) (by decide) hO ?_
                      rw [vCI_0 hco.1 hco.2]
                      refine lp_icmp_lt (pc := 262) 281 dL_isPlan_262 rfl ⟨by omega, by omega⟩ ⟨by omega, by omega⟩ (fun c262 => ?_) (fun c262 => ?_)
                      · skip
                        exfalso; omega
                      · skip
                        refine lp_ild_8 (pc := 265) dL_isPlan_265 ?_
                        refine lp_ald_0 (pc := 267) dL_isPlan_267 ?_
                        refine lp_ild_11 (pc := 268) dL_isPlan_268 ?_
                        refine lp_const (pc := 270) dL_isPlan_270 ?_
                        refine lp_invVR (pc := 271) dL_isPlan_271 mv_RL_30 sh_0 (av := [_, _]) (rest := [_]) (k_colorInfo I ⟨by omega, by omega⟩ ⟨by omega, by omega⟩) rfl rfl (Nat.le_of_ble_eq_true rfl) (by decide) (by decide) hO ?_
                        rw [vCI_1 hco.1 hco.2]
                        refine lp_icmp_gt (pc := 274) 281 dL_isPlan_274 rfl ⟨by omega, by omega⟩ ⟨by omega, by omega⟩ (fun c274 => ?_) (fun c274 => ?_)
                        · skip
                          exfalso; omega
                        · skip
                          refine lp_const (pc := 277) dL_isPlan_277 ?_
                          refine lp_goto (pc := 278) 282 dL_isPlan_278 rfl ?_
                          refine lp_ist_4 (pc := 282) dL_isPlan_282 (by decide) (by unfold lkO; simp) ?_
                          refine lp_ald_0 (pc := 284) dL_isPlan_284 ?_
                          refine lp_ild_11 (pc := 285) dL_isPlan_285 ?_
                          refine lp_const (pc := 287) dL_isPlan_287 ?_
                          refine lp_invVR (pc := 288) dL_isPlan_288 mv_RL_30 sh_0 (av := [_, _]) (rest := []) (k_colorInfo I ⟨by omega, by omega⟩ ⟨by omega, by omega⟩) rfl rfl (Nat.le_of_ble_eq_true rfl) (by decide) (by decide) hO ?_
                          rw [vCI_0 hco.1 hco.2]
                          refine lp_ist_12 (pc := 291) dL_isPlan_291 (by decide) (by unfold lkO; simp) ?_
                          refine lp_ald_0 (pc := 293) dL_isPlan_293 ?_
                          refine lp_ild_11 (pc := 294) dL_isPlan_294 ?_
                          refine lp_const (pc := 296) dL_isPlan_296 ?_
                          refine lp_invVR (pc := 297) dL_isPlan_297 mv_RL_30 sh_0 (av := [_, _]) (rest := []) (k_colorInfo I ⟨by omega, by omega⟩ ⟨by omega, by omega⟩) rfl rfl (Nat.le_of_ble_eq_true rfl) (by decide) (by decide) hO ?_
                          rw [vCI_1 hco.1 hco.2]
                          refine lp_ist_13 (pc := 300) dL_isPlan_300 (by decide) (by unfold lkO; simp) ?_
                          refine lp_ild_12 (pc := 302) dL_isPlan_302 ?_
                          refine lp_ild_9 (pc := 304) dL_isPlan_304 ?_
                          refine lp_icmp_le (pc := 306) 314 dL_isPlan_306 rfl ⟨by omega, by omega⟩ ⟨by omega, by omega⟩ (fun c306 => ?_) (fun c306 => ?_)
                          · skip
                            refine lp_ild_9 (pc := 314) dL_isPlan_314 ?_
                            refine lp_ist_9 (pc := 316) dL_isPlan_316 (by decide) (by unfold lkO; simp) ?_
                            refine lp_ald_2 (pc := 318) dL_isPlan_318 ?_
                            refine lp_ild_10 (pc := 319) dL_isPlan_319 ?_
                            refine lp_dup2 (pc := 321) dL_isPlan_321 ?_
                            refine lp_iaload (pc := 322) dL_isPlan_322 ex100 (by omega) (by omega) (by decide) ?_
                            refine lp_const (pc := 323) dL_isPlan_323 ?_
                            refine lp_iadd (pc := 324) dL_isPlan_324 ?_
                            rw [hf1]
                            refine lp_iastore (pc := 325) dL_isPlan_325 ex100 (by omega) (by omega) (by decide) ?_
                            refine lp_ild_4 (pc := 326) dL_isPlan_326 ?_
                            refine lp_if_eq (pc := 328) 342 dL_isPlan_328 rfl ⟨by omega, by omega⟩ (fun c328 => absurd c328 (by decide)) (fun _ => ?_)
                            refine lp_ild_8 (pc := 331) dL_isPlan_331 ?_
                            refine lp_ild_13 (pc := 333) dL_isPlan_333 ?_
                            refine lp_icmp_gt (pc := 335) 342 dL_isPlan_335 rfl ⟨by omega, by omega⟩ ⟨by omega, by omega⟩ (fun c335 => ?_) (fun c335 => ?_)
                            · skip
                              exfalso; omega
                            · skip
                              refine lp_const (pc := 338) dL_isPlan_338 ?_
                              refine lp_goto (pc := 339) 343 dL_isPlan_339 rfl ?_
                              refine lp_ist_4 (pc := 343) dL_isPlan_343 (by decide) (by unfold lkO; simp) ?_
                              refine lp_iinc_10 (pc := 345) dL_isPlan_345 (by decide) (by unfold lkO; simp) ?_
                              refine lp_goto (pc := 348) 213 dL_isPlan_348 rfl ?_
                              have hbx := bt_bd (m0 96 k) f
                              exact (ihf c217 _ P2).bk ⟨rfl, rfl, rfl, rfl, rfl, rfl, rfl, rfl, rfl, congrArg (fun z => some (Sum.inl z)) (by rw [accL_succ]; show _ = if bt (m0 96 k) f = 1 then max _ (wM r f (dg (S k) f)) else _; first | (rw [if_pos hb1, hMm]; omega) | rw [if_neg (by omega)]), rfl, trivial, trivial, trivial, trivial⟩ rfl
                          · skip
                            refine lp_ild_12 (pc := 309) dL_isPlan_309 ?_
                            refine lp_goto (pc := 311) 316 dL_isPlan_311 rfl ?_
                            refine lp_ist_9 (pc := 316) dL_isPlan_316 (by decide) (by unfold lkO; simp) ?_
                            refine lp_ald_2 (pc := 318) dL_isPlan_318 ?_
                            refine lp_ild_10 (pc := 319) dL_isPlan_319 ?_
                            refine lp_dup2 (pc := 321) dL_isPlan_321 ?_
                            refine lp_iaload (pc := 322) dL_isPlan_322 ex100 (by omega) (by omega) (by decide) ?_
                            refine lp_const (pc := 323) dL_isPlan_323 ?_
                            refine lp_iadd (pc := 324) dL_isPlan_324 ?_
                            rw [hf1]
                            refine lp_iastore (pc := 325) dL_isPlan_325 ex100 (by omega) (by omega) (by decide) ?_
                            refine lp_ild_4 (pc := 326) dL_isPlan_326 ?_
                            refine lp_if_eq (pc := 328) 342 dL_isPlan_328 rfl ⟨by omega, by omega⟩ (fun c328 => absurd c328 (by decide)) (fun _ => ?_)
                            refine lp_ild_8 (pc := 331) dL_isPlan_331 ?_
                            refine lp_ild_13 (pc := 333) dL_isPlan_333 ?_
                            refine lp_icmp_gt (pc := 335) 342 dL_isPlan_335 rfl ⟨by omega, by omega⟩ ⟨by omega, by omega⟩ (fun c335 => ?_) (fun c335 => ?_)
                            · skip
                              exfalso; omega
                            · skip
                              refine lp_const (pc := 338) dL_isPlan_338 ?_
                              refine lp_goto (pc := 339) 343 dL_isPlan_339 rfl ?_
                              refine lp_ist_4 (pc := 343) dL_isPlan_343 (by decide) (by unfold lkO; simp) ?_
                              refine lp_iinc_10 (pc := 345) dL_isPlan_345 (by decide) (by unfold lkO; simp) ?_
                              refine lp_goto (pc := 348) 213 dL_isPlan_348 rfl ?_
                              have hbx := bt_bd (m0 96 k) f
                              exact (ihf c217 _ P2).bk ⟨rfl, rfl, rfl, rfl, rfl, rfl, rfl, rfl, rfl, congrArg (fun z => some (Sum.inl z)) (by rw [accL_succ]; show _ = if bt (m0 96 k) f = 1 then max _ (wM r f (dg (S k) f)) else _; first | (rw [if_pos hb1, hMm]; omega) | rw [if_neg (by omega)]), rfl, trivial, trivial, trivial, trivial⟩ rfl
        refine lp_ild_1 (pc := 134) dL_isPlan_134 ?_
        refine lp_if_gt (pc := 135) 149 dL_isPlan_135 rfl ⟨by omega, by omega⟩ (fun c135 => ?_) (fun c135 => ?_)
        · skip
          exact J149
        · skip
          refine lp_ald_0 (pc := 138) dL_isPlan_138 ?_
          refine lp_const (pc := 139) dL_isPlan_139 ?_
          refine lp_const (pc := 140) dL_isPlan_140 ?_
          refine lp_invVR (pc := 141) dL_isPlan_141 mv_RL_60 sh_0 (av := [_, _]) (rest := []) (kp_planned I P.1 pF z6 hN ⟨by omega, by omega⟩ ⟨by omega, by omega⟩ (by omega) ⟨by omega, by omega⟩) rfl rfl (Nat.le_of_ble_eq_true rfl) (by decide) (by decide) hO ?_
          rw [if_neg (by omega)]
          refine lp_bipush (pc := 144) dL_isPlan_144 bp_m4 ?_
          refine lp_icmp_ne (pc := 146) 153 dL_isPlan_146 rfl (Or.inr ⟨⟨by omega, by omega⟩, ⟨by omega, by omega⟩⟩) (fun c146 => absurd c146 (by decide)) (fun _ => ?_)
          exact J149
      refine lp_ild_1 (pc := 112) dL_isPlan_112 ?_
      refine lp_bipush (pc := 113) dL_isPlan_113 bp_m4 ?_
      refine lp_icmp_eq (pc := 115) 134 dL_isPlan_115 rfl (Or.inr ⟨⟨by omega, by omega⟩, ⟨by omega, by omega⟩⟩) (fun c115 => ?_) (fun c115 => ?_)
      · skip
        exact J134
      · skip
        refine lp_ild_1 (pc := 118) dL_isPlan_118 ?_
        refine lp_ild_5 (pc := 119) dL_isPlan_119 ?_
        refine lp_icmp_lt (pc := 121) 153 dL_isPlan_121 rfl ⟨by omega, by omega⟩ ⟨by omega, by omega⟩ (fun c121 => ?_) (fun c121 => ?_)
        · skip
          have := hmo6 (by omega); exfalso; omega
        · skip
          refine lp_ild_1 (pc := 124) dL_isPlan_124 ?_
          refine lp_ald_0 (pc := 125) dL_isPlan_125 ?_
          refine lp_bipush (pc := 126) dL_isPlan_126 bp_20 ?_
          refine lp_invVR (pc := 128) dL_isPlan_128 mv_RL_13 sh_0 (av := [_]) (rest := [_]) (k_count I ⟨by omega, by omega⟩) rfl rfl (Nat.le_of_ble_eq_true rfl) (by decide) (by decide) hO ?_
          rw [vCN_20]
          refine lp_icmp_gt (pc := 131) 153 dL_isPlan_131 rfl ⟨by omega, by omega⟩ ⟨by omega, by omega⟩ (fun c131 => ?_) (fun c131 => ?_)
          · skip
            exfalso; omega
          · skip
            exact J134
    · skip
      have hw := (wR.2.2.2 f (by omega) (by omega)).1
      have hmo := moA_bd (r := r) (c := 3) (by omega) f (fun g a b => (wR.2.2.2 g a (by omega)).1)
      refine lp_const (pc := 46) dL_isPlan_46 ?_
      refine lp_ist_7 (pc := 47) dL_isPlan_47 (by decide) (by unfold lkO; simp) ?_
      refine lp_const (pc := 49) dL_isPlan_49 ?_
      refine lp_ist_8 (pc := 50) dL_isPlan_50 (by decide) (by unfold lkO; simp) ?_
      refine LQ.bk (up_rec 3 (fun k => LQ 6 Z mL_isPlan [] [] [cHas] 52 [some (.inr 0), some (.inl N), some (.inr 100), some (.inl 1200), some (.inl 1), some (.inl (moA r f)), some (.inl (f : Int)), some (.inl (min (k : Int) (r (126 + 4 * f)))), some (.inl (k : Int)), none, none, none, none, none] [] m (fun v m' => v = some 1 ∧ GI r n H m')) (by omega) (fun k hk ihk => ?_)) ⟨rfl, rfl, rfl, rfl, rfl, rfl, rfl, congrArg (fun z => some (Sum.inl z)) (by omega), rfl, trivial, trivial, trivial, trivial, trivial, trivial⟩ rfl
      refine lp_ild_8 (pc := 52) dL_isPlan_52 ?_
      refine lp_const (pc := 54) dL_isPlan_54 ?_
      refine lp_icmp_ge (pc := 55) 85 dL_isPlan_55 rfl ⟨by omega, by omega⟩ ⟨by omega, by omega⟩ (fun c55 => ?_) (fun c55 => ?_)
      · skip
        have ek : k = 3 := by omega
        subst ek
        refine lp_ild_7 (pc := 85) dL_isPlan_85 ?_
        refine lp_ild_5 (pc := 87) dL_isPlan_87 ?_
        refine lp_icmp_le (pc := 89) 97 dL_isPlan_89 rfl ⟨by omega, by omega⟩ ⟨by omega, by omega⟩ (fun c89 => ?_) (fun c89 => ?_)
        · skip
          refine lp_ild_5 (pc := 97) dL_isPlan_97 ?_
          refine lp_ist_5 (pc := 99) dL_isPlan_99 (by decide) (by unfold lkO; simp) ?_
          refine lp_iinc_6 (pc := 101) dL_isPlan_101 (by decide) (by unfold lkO; simp) ?_
          refine lp_goto (pc := 104) 39 dL_isPlan_104 rfl ?_
          exact (ihf c43).bk ⟨rfl, rfl, rfl, rfl, rfl, congrArg (fun z => some (Sum.inl z)) (by rw [moA_s]; omega), rfl, trivial, trivial, trivial, trivial, trivial, trivial, trivial, trivial⟩ rfl
        · skip
          refine lp_ild_7 (pc := 92) dL_isPlan_92 ?_
          refine lp_goto (pc := 94) 99 dL_isPlan_94 rfl ?_
          refine lp_ist_5 (pc := 99) dL_isPlan_99 (by decide) (by unfold lkO; simp) ?_
          refine lp_iinc_6 (pc := 101) dL_isPlan_101 (by decide) (by unfold lkO; simp) ?_
          refine lp_goto (pc := 104) 39 dL_isPlan_104 rfl ?_
          exact (ihf c43).bk ⟨rfl, rfl, rfl, rfl, rfl, congrArg (fun z => some (Sum.inl z)) (by rw [moA_s]; omega), rfl, trivial, trivial, trivial, trivial, trivial, trivial, trivial, trivial⟩ rfl
      · skip
        have hws := vWD_s wR (f := (f : Int)) (k := (k : Int)) (by omega) (by omega) (by omega)
        refine lp_ild_7 (pc := 58) dL_isPlan_58 ?_
        refine lp_ald_0 (pc := 60) dL_isPlan_60 ?_
        refine lp_ild_6 (pc := 61) dL_isPlan_61 ?_
        refine lp_ild_8 (pc := 63) dL_isPlan_63 ?_
        refine lp_invVR (pc := 65) dL_isPlan_65 mv_RL_27 sh_0 (av := [_, _]) (rest := [_]) (k_wished I ⟨by omega, by omega⟩ ⟨by omega, by omega⟩) rfl rfl (Nat.le_of_ble_eq_true rfl) (by decide) (by decide) hO ?_
        refine lp_if_lt (pc := 68) 75 dL_isPlan_68 rfl ⟨by omega, by omega⟩ (fun c68 => ?_) (fun c68 => ?_)
        · skip
          refine lp_const (pc := 75) dL_isPlan_75 ?_
          refine lp_iadd (pc := 76) dL_isPlan_76 ?_
          refine lp_ist_7 (pc := 77) dL_isPlan_77 (by decide) (by unfold lkO; simp) ?_
          refine lp_iinc_8 (pc := 79) dL_isPlan_79 (by decide) (by unfold lkO; simp) ?_
          refine lp_goto (pc := 82) 52 dL_isPlan_82 rfl ?_
          exact (ihk c55).bk ⟨rfl, rfl, rfl, rfl, rfl, rfl, rfl, congrArg (fun z => some (Sum.inl z)) (by omega), rfl, trivial, trivial, trivial, trivial, trivial, trivial⟩ rfl
        · skip
          refine lp_const (pc := 71) dL_isPlan_71 ?_
          refine lp_goto (pc := 72) 76 dL_isPlan_72 rfl ?_
          refine lp_iadd (pc := 76) dL_isPlan_76 ?_
          refine lp_ist_7 (pc := 77) dL_isPlan_77 (by decide) (by unfold lkO; simp) ?_
          refine lp_iinc_8 (pc := 79) dL_isPlan_79 (by decide) (by unfold lkO; simp) ?_
          refine lp_goto (pc := 82) 52 dL_isPlan_82 rfl ?_
          exact (ihk c55).bk ⟨rfl, rfl, rfl, rfl, rfl, rfl, rfl, congrArg (fun z => some (Sum.inl z)) (by omega), rfl, trivial, trivial, trivial, trivial, trivial, trivial⟩ rfl
  refine lp_ild_1 (pc := 14) dL_isPlan_14 ?_
  refine lp_bipush (pc := 15) dL_isPlan_15 bp_m4 ?_
  refine lp_icmp_eq (pc := 17) 26 dL_isPlan_17 rfl (Or.inr ⟨⟨by omega, by omega⟩, ⟨by omega, by omega⟩⟩) (fun c17 => ?_) (fun c17 => ?_)
  · skip
    exact J26
  · skip
    refine lp_ild_1 (pc := 20) dL_isPlan_20 ?_
    refine lp_bipush (pc := 21) dL_isPlan_21 bp_18 ?_
    refine lp_icmp_gt (pc := 23) 30 dL_isPlan_23 rfl ⟨by omega, by omega⟩ ⟨by omega, by omega⟩ (fun c23 => ?_) (fun c23 => ?_)
    · skip
      exfalso; omega
    · skip
      exact J26

