theorem k_undo0 {r : Int → Int} {H : Int → Int → Int} {m : AM} (I : GI r 0 H m) : CS 5 mX8_undo [.inr 0] m (an (-2) m) :=
  (k_undo I).mono (Nat.le_refl _) (fun v m' q => by
    rcases q.2 with z | z
    · exact absurd rfl z.1
    · exact ⟨by rw [q.1, if_pos rfl], z.2.symm⟩)
set_option maxHeartbeats 8000000 in
theorem l_walk {X : AX} (hX : X.1 ≤ 260) (m : AM) (I : GI rowI 0 (fun _ _ => 0) m) : LQ 10 (zL X) mL_law [] [] [] 8 [some (.inr 1000), some (.inr 0), none, none, none, none, none, none, none, none, none] [] m (fun v _ => v = some 1) := by
  have J := JJ_start
  refine lp_ald_1 (pc := 8) dL_law_8 ?_
  refine lp_invVR (pc := 9) dL_law_9 mv_RL_76 sh_0 (av := []) (rest := []) (k_undo0 I) rfl rfl (Nat.le_of_ble_eq_true rfl) (by decide) (by decide) (ex0_O X) ?_
  refine lp_bipush (pc := 12) dL_law_12 bp_m2 ?_
  refine lp_icmp_ne (pc := 14) 56 dL_law_14 rfl (Or.inr ⟨⟨by omega, by omega⟩, ⟨by omega, by omega⟩⟩) (fun c14 => absurd c14 (by decide)) (fun _ => ?_)
  refine lp_ald_1 (pc := 17) dL_law_17 ?_
  refine lp_invS (pc := 18) dL_law_18 ms_RL_96 (av := [_]) (rest := []) (qL_refused _ I) rfl rfl (Nat.le_of_ble_eq_true rfl) (by decide) (by decide) (ex0_O X) ?_
  rintro _ m1 m ⟨rfl, I⟩ f1 f2
  have I := GI_same f1 I
  refine lp_if_eq (pc := 21) 56 dL_law_21 rfl ⟨by omega, by omega⟩ (fun c21 => absurd c21 (by decide)) (fun _ => ?_)
  refine lp_ald_1 (pc := 24) dL_law_24 ?_
  refine lp_invSR (pc := 25) dL_law_25 ms_RL_72 (av := [_]) (rest := []) (qL_areLayers _ I J) rfl rfl (Nat.le_of_ble_eq_true rfl) (by decide) (by decide) (ex0_O X) ?_
  rintro _ rfl
  refine lp_if_eq (pc := 28) 56 dL_law_28 rfl ⟨by omega, by omega⟩ (fun c28 => absurd c28 (by decide)) (fun _ => ?_)
  refine lp_ald_1 (pc := 31) dL_law_31 ?_
  refine lp_invSP (pc := 32) dL_law_32 ms_RL_99 (av := [_]) (rest := []) (qL_isPlan _ I) rfl rfl (Nat.le_of_ble_eq_true rfl) (by decide) (by decide) (ex0_O X) (by simp [aKeep, rfL, rfS]; try omega) (Nat.le_of_ble_eq_true rfl) (Nat.le_of_ble_eq_true rfl) ?_
  rintro _ m1 m ⟨rfl, I⟩ f1
  have I := GI_same f1 I
  show LQ 10 (zL X) mL_law _ _ (exT 0) _ _ _ _ _
  refine lp_if_eq (pc := 35) 56 dL_law_35 rfl ⟨by omega, by omega⟩ (fun c35 => absurd c35 (by decide)) (fun _ => ?_)
  refine lp_ald_1 (pc := 38) dL_law_38 ?_
  refine lp_invS (pc := 39) dL_law_39 ms_RL_102 (av := [_]) (rest := []) (qL_isBest _ I) rfl rfl (Nat.le_of_ble_eq_true rfl) (by decide) (by decide) (exT_O X (t := 0) (by omega)) ?_
  rintro _ m1 m ⟨rfl, I⟩ f1 f2
  have I := GI_same f1 I
  refine lp_if_eq (pc := 42) 56 dL_law_42 rfl ⟨by omega, by omega⟩ (fun c42 => absurd c42 (by decide)) (fun _ => ?_)
  refine lp_ald_1 (pc := 45) dL_law_45 ?_
  refine lp_invSR (pc := 46) dL_law_46 ms_RL_105 (av := [_]) (rest := []) (qL_isCounter _ I) rfl rfl (Nat.le_of_ble_eq_true rfl) (by decide) (by decide) (exT_O X (t := 0) (by omega)) ?_
  rintro _ rfl
  refine lp_if_eq (pc := 49) 56 dL_law_49 rfl ⟨by omega, by omega⟩ (fun c49 => absurd c49 (by decide)) (fun _ => ?_)
  refine lp_const (pc := 52) dL_law_52 ?_
  refine lp_goto (pc := 53) 57 dL_law_53 rfl ?_
  refine lp_ist_2 (pc := 57) dL_law_57 (by decide) (by unfold lkO; simp) ?_
  refine lp_const (pc := 58) dL_law_58 ?_
  refine lp_ist_3 (pc := 59) dL_law_59 (by decide) (by unfold lkO; simp) ?_
  refine LQ.bk (up_rec 60 (fun t => ∀ (r : Int → Int) (n : Int) (H : Int → Int → Int) (m : AM), GI r n H m → JJ r → LQ 10 (zL X) mL_law [] [] (exT t) 60 [some (.inr 1000), some (.inr 0), some (.inl 1), some (.inl (t : Int)), none, none, none, none, none, none, none] [] m (fun v _ => v = some 1)) (by omega) (fun t ht iht r n H m I J => ?_) _ _ _ _ I J) ⟨rfl, rfl, rfl, rfl, trivial, trivial, trivial, trivial, trivial, trivial, trivial, trivial⟩ rfl
  have hn := GI.n I
  refine lp_ild_3 (pc := 60) dL_law_60 ?_
  refine lp_bipush (pc := 61) dL_law_61 bp_60 ?_
  refine lp_icmp_ge (pc := 63) 395 dL_law_63 rfl ⟨by omega, by omega⟩ ⟨by omega, by omega⟩ (fun c63 => ?_) (fun c63 => ?_)
  · skip
    have et : t = 60 := by omega
    subst et
    refine lp_ild_2 (pc := 395) dL_law_395 ?_
    refine lp_if_eq (pc := 396) 417 dL_law_396 rfl ⟨by omega, by omega⟩ (fun c396 => absurd c396 (by decide)) (fun _ => ?_)
    refine lp_ald_1 (pc := 399) dL_law_399 ?_
    refine lp_invS (pc := 400) dL_law_400 ms_RL_96 (av := [_]) (rest := []) (qL_refused _ I) rfl rfl (Nat.le_of_ble_eq_true rfl) (by decide) (by decide) (exT_O X (t := 60) (by omega)) ?_
    rintro _ m1 m ⟨rfl, I⟩ f1 f2
    have I := GI_same f1 I
    refine lp_if_eq (pc := 403) 417 dL_law_403 rfl ⟨by omega, by omega⟩ (fun c403 => absurd c403 (by decide)) (fun _ => ?_)
    refine lp_ald_1 (pc := 406) dL_law_406 ?_
    refine lp_invSR (pc := 407) dL_law_407 ms_RL_72 (av := [_]) (rest := []) (qL_areLayers _ I J) rfl rfl (Nat.le_of_ble_eq_true rfl) (by decide) (by decide) (exT_O X (t := 60) (by omega)) ?_
    rintro _ rfl
    refine lp_if_eq (pc := 410) 417 dL_law_410 rfl ⟨by omega, by omega⟩ (fun c410 => absurd c410 (by decide)) (fun _ => ?_)
    refine lp_const (pc := 413) dL_law_413 ?_
    refine lp_goto (pc := 414) 418 dL_law_414 rfl ?_
    exact lp_zreturn (pc := 418) dL_law_418 rfl (Or.inr rfl) (by rw [exT_len]; rfl) (by rw [exT_sl]; rfl) rfl rfl
  · skip
    refine lp_ild_2 (pc := 66) dL_law_66 ?_
    refine lp_if_eq (pc := 67) 395 dL_law_67 rfl ⟨by omega, by omega⟩ (fun c67 => absurd c67 (by decide)) (fun _ => ?_)
    have J287 : ∀ (r : Int → Int) (n : Int) (H : Int → Int → Int) (m : AM), GI r n H m → JJ r → ∀ y : Int, (0 ≤ y ∧ y < 1000000) → LQ 10 (zL X) mL_law [] [] (exT t) 287 [some (.inr 1000), some (.inr 0), some (.inl 1), some (.inl (t : Int)), none, some (.inl y), none, none, none, none, none] [] m (fun v _ => v = some 1) := by
      intro r n H m I J y hy
      have ht0 : 0 ≤ (t : Int) ∧ (t : Int) ≤ 1000000 := by omega
      have hy0 : 0 ≤ y ∧ y ≤ 1000000 := by omega
      have b3 := iRem_bd (k := 3) ht0 (by decide)
      have b14 := iRem_bd (k := 14) ht0 (by decide)
      have b4 := iRem_bd (k := 4) ht0 (by decide)
      have b11 := iRem_bd (k := 11) ht0 (by decide)
      have b400 := iRem_bd (k := 400) hy0 (by decide)
      have b8 : iRem (t : Int) 8 = (t : Int) % 8 := iRem_v ⟨by omega, by omega⟩ ⟨by omega, by omega⟩ ht0.1
      refine lp_ild_2 (pc := 287) dL_law_287 ?_
      refine lp_if_eq (pc := 288) 387 dL_law_288 rfl ⟨by omega, by omega⟩ (fun c288 => absurd c288 (by decide)) (fun _ => ?_)
      refine lp_ald_1 (pc := 291) dL_law_291 ?_
      refine lp_invSR (pc := 292) dL_law_292 ms_RL_72 (av := [_]) (rest := []) (qL_areLayers _ I J) rfl rfl (Nat.le_of_ble_eq_true rfl) (by decide) (by decide) (exT_O X (t := t) (by omega)) ?_
      rintro _ rfl
      refine lp_if_eq (pc := 295) 387 dL_law_295 rfl ⟨by omega, by omega⟩ (fun c295 => absurd c295 (by decide)) (fun _ => ?_)
      have J322 : ∀ (n : Int) (H : Int → Int → Int) (m : AM), GI r n H m → LQ 10 (zL X) mL_law [] [] (exT t) 322 [some (.inr 1000), some (.inr 0), some (.inl 1), some (.inl (t : Int)), none, some (.inl y), none, none, none, none, none] [] m (fun v _ => v = some 1) := by
        intro n H m I
        have J338 : ∀ (n : Int) (H : Int → Int → Int) (m : AM), GI r n H m → LQ 10 (zL X) mL_law [] [] (exT t) 338 [some (.inr 1000), some (.inr 0), some (.inl 1), some (.inl (t : Int)), none, some (.inl y), none, none, none, none, none] [] m (fun v _ => v = some 1) := by
          intro n H m I
          have J353 : ∀ (n : Int) (H : Int → Int → Int) (m : AM), GI r n H m → LQ 10 (zL X) mL_law [] [] (exT (t + 1)) 353 [some (.inr 1000), some (.inr 0), some (.inl 1), some (.inl (t : Int)), none, some (.inl y), none, none, none, none, none] [] m (fun v _ => v = some 1) := by
            intro n H m I
            have J367 : ∀ (n : Int) (H : Int → Int → Int) (m : AM), GI r n H m → LQ 10 (zL X) mL_law [] [] (exT (t + 1)) 367 [some (.inr 1000), some (.inr 0), some (.inl 1), some (.inl (t : Int)), none, some (.inl y), none, none, none, none, none] [] m (fun v _ => v = some 1) := by
              intro n H m I
              have J383 : ∀ (n : Int) (H : Int → Int → Int) (m : AM), GI r n H m → LQ 10 (zL X) mL_law [] [] (exT (t + 1)) 383 [some (.inr 1000), some (.inr 0), some (.inl 1), some (.inl (t : Int)), none, some (.inl y), none, none, none, none, none] [] m (fun v _ => v = some 1) := by
                intro n H m I
                refine lp_const (pc := 383) dL_law_383 ?_
                refine lp_goto (pc := 384) 388 dL_law_384 rfl ?_
                refine lp_ist_2 (pc := 388) dL_law_388 (by decide) (by unfold lkO; simp) ?_
                refine lp_iinc_3 (pc := 389) dL_law_389 (by decide) (by unfold lkO; simp) ?_
                refine lp_goto (pc := 392) 60 dL_law_392 rfl ?_
                exact (iht c63 _ _ _ _ I J).bk ⟨rfl, rfl, rfl, rfl, trivial, trivial, trivial, trivial, trivial, trivial, trivial, trivial⟩ rfl
              refine lp_ild_3 (pc := 367) dL_law_367 ?_
              refine lp_bipush (pc := 368) dL_law_368 bp_11 ?_
              refine lp_irem (pc := 370) dL_law_370 ⟨by omega, by omega⟩ (by decide) ?_
              refine lp_bipush (pc := 371) dL_law_371 bp_7 ?_
              refine lp_icmp_ne (pc := 373) 383 dL_law_373 rfl (Or.inr ⟨⟨by omega, by omega⟩, ⟨by omega, by omega⟩⟩) (fun c373 => ?_) (fun c373 => ?_)
              · skip
                exact J383 _ _ _ I
              · skip
                refine lp_ald_1 (pc := 376) dL_law_376 ?_
                refine lp_invS (pc := 377) dL_law_377 ms_RL_96 (av := [_]) (rest := []) (qL_refused _ I) rfl rfl (Nat.le_of_ble_eq_true rfl) (by decide) (by decide) (exT_O X (t := t + 1) (by omega)) ?_
                rintro _ m1 m ⟨rfl, I⟩ f1 f2
                have I := GI_same f1 I
                refine lp_if_eq (pc := 380) 387 dL_law_380 rfl ⟨by omega, by omega⟩ (fun c380 => absurd c380 (by decide)) (fun _ => ?_)
                exact J383 _ _ _ I
            refine lp_ild_3 (pc := 353) dL_law_353 ?_
            refine lp_const (pc := 354) dL_law_354 ?_
            refine lp_irem (pc := 355) dL_law_355 ⟨by omega, by omega⟩ (by decide) ?_
            refine lp_const (pc := 356) dL_law_356 ?_
            refine lp_icmp_ne (pc := 357) 367 dL_law_357 rfl (Or.inr ⟨⟨by omega, by omega⟩, ⟨by omega, by omega⟩⟩) (fun c357 => ?_) (fun c357 => ?_)
            · skip
              exact J367 _ _ _ I
            · skip
              refine lp_ald_1 (pc := 360) dL_law_360 ?_
              refine lp_invSR (pc := 361) dL_law_361 ms_RL_105 (av := [_]) (rest := []) (qL_isCounter _ I) rfl rfl (Nat.le_of_ble_eq_true rfl) (by decide) (by decide) (exT_O X (t := t + 1) (by omega)) ?_
              rintro _ rfl
              refine lp_if_eq (pc := 364) 387 dL_law_364 rfl ⟨by omega, by omega⟩ (fun c364 => absurd c364 (by decide)) (fun _ => ?_)
              exact J367 _ _ _ I
          refine lp_ild_3 (pc := 338) dL_law_338 ?_
          refine lp_bipush (pc := 339) dL_law_339 bp_8 ?_
          refine lp_irem (pc := 341) dL_law_341 ⟨by omega, by omega⟩ (by decide) ?_
          refine lp_const (pc := 342) dL_law_342 ?_
          refine lp_icmp_ne (pc := 343) 353 dL_law_343 rfl (Or.inr ⟨⟨by omega, by omega⟩, ⟨by omega, by omega⟩⟩) (fun c343 => ?_) (fun c343 => ?_)
          · skip
            first | (rw [exT_S (t := t) (by omega)]; exact J353 _ _ _ I) | (rw [exT_N (t := t) (by omega)]; exact J353 _ _ _ I)
          · skip
            refine lp_ald_1 (pc := 346) dL_law_346 ?_
            refine lp_invSP (pc := 347) dL_law_347 ms_RL_99 (av := [_]) (rest := []) (qL_isPlan _ I) rfl rfl (Nat.le_of_ble_eq_true rfl) (by decide) (by decide) (exT_O X (t := t) (by omega)) (by rw [exT_len]; simp [aKeep, rfL, rfS]; unfold nPl; omega) (by show 100 + (exT t).length + 1 ≤ 108; rw [exT_len]; unfold nPl; omega) (by show 5358 + slS (exT t) + 6 ≤ 5406; rw [exT_sl]; unfold nPl; omega) ?_
            rintro _ m1 m ⟨rfl, I⟩ f1
            have I := GI_same f1 I
            refine lp_if_eq (pc := 350) 387 dL_law_350 rfl ⟨by omega, by omega⟩ (fun c350 => absurd c350 (by decide)) (fun _ => ?_)
            first | (rw [exT_S (t := t) (by omega)]; exact J353 _ _ _ I) | (rw [exT_N (t := t) (by omega)]; exact J353 _ _ _ I)
        refine lp_ild_3 (pc := 322) dL_law_322 ?_
        refine lp_bipush (pc := 323) dL_law_323 bp_14 ?_
        refine lp_irem (pc := 325) dL_law_325 ⟨by omega, by omega⟩ (by decide) ?_
        refine lp_bipush (pc := 326) dL_law_326 bp_9 ?_
        refine lp_icmp_ne (pc := 328) 338 dL_law_328 rfl (Or.inr ⟨⟨by omega, by omega⟩, ⟨by omega, by omega⟩⟩) (fun c328 => ?_) (fun c328 => ?_)
        · skip
          exact J338 _ _ _ I
        · skip
          refine lp_ald_1 (pc := 331) dL_law_331 ?_
          refine lp_invS (pc := 332) dL_law_332 ms_RL_102 (av := [_]) (rest := []) (qL_isBest _ I) rfl rfl (Nat.le_of_ble_eq_true rfl) (by decide) (by decide) (exT_O X (t := t) (by omega)) ?_
          rintro _ m1 m ⟨rfl, I⟩ f1 f2
          have I := GI_same f1 I
          refine lp_if_eq (pc := 335) 387 dL_law_335 rfl ⟨by omega, by omega⟩ (fun c335 => absurd c335 (by decide)) (fun _ => ?_)
          exact J338 _ _ _ I
      refine lp_ild_3 (pc := 298) dL_law_298 ?_
      refine lp_const (pc := 299) dL_law_299 ?_
      refine lp_irem (pc := 300) dL_law_300 ⟨by omega, by omega⟩ (by decide) ?_
      refine lp_const (pc := 301) dL_law_301 ?_
      refine lp_icmp_ne (pc := 302) 322 dL_law_302 rfl (Or.inr ⟨⟨by omega, by omega⟩, ⟨by omega, by omega⟩⟩) (fun c302 => ?_) (fun c302 => ?_)
      · skip
        exact J322 _ _ _ I
      · skip
        refine lp_ald_1 (pc := 305) dL_law_305 ?_
        refine lp_sipush (pc := 306) dL_law_306 sp_560 ?_
        refine lp_ild_5 (pc := 309) dL_law_309 ?_
        refine lp_sipush (pc := 311) dL_law_311 sp_400 ?_
        refine lp_irem (pc := 314) dL_law_314 ⟨by omega, by omega⟩ (by decide) ?_
        refine lp_iadd (pc := 315) dL_law_315 ?_
        refine lp_invS (pc := 316) dL_law_316 ms_RL_118 (av := [_, _]) (rest := []) (qL_isFired _ _ I J ⟨by omega, by omega⟩) rfl rfl (Nat.le_of_ble_eq_true rfl) (by decide) (by decide) (exT_O X (t := t) (by omega)) ?_
        rintro _ m1 m ⟨rfl, n1, H1, I⟩ f1 f2
        have I := GI_same f1 I
        refine lp_if_eq (pc := 319) 387 dL_law_319 rfl ⟨by omega, by omega⟩ (fun c319 => absurd c319 (by decide)) (fun _ => ?_)
        exact J322 _ _ _ I
    refine lp_ald_0 (pc := 70) dL_law_70 ?_
    refine lp_const (pc := 71) dL_law_71 ?_
    refine lp_ild_3 (pc := 72) dL_law_72 ?_
    refine lp_imul (pc := 73) dL_law_73 ?_
    refine lp_invSXR (pc := 74) dL_law_74 ms_RL_108 (av := [_, _]) (rest := []) (qL_cell (X := X) _ _ hX ⟨by omega, by omega⟩) rfl rfl (Nat.le_of_ble_eq_true rfl) (by decide) (by decide) (exT_O X (t := t) (by omega)) ?_
    rintro _ ⟨x, rfl, hx⟩
    refine lp_ist_4 (pc := 77) dL_law_77 (by decide) (by unfold lkO; simp) ?_
    refine lp_ald_0 (pc := 79) dL_law_79 ?_
    refine lp_const (pc := 80) dL_law_80 ?_
    refine lp_ild_3 (pc := 81) dL_law_81 ?_
    refine lp_imul (pc := 82) dL_law_82 ?_
    refine lp_const (pc := 83) dL_law_83 ?_
    refine lp_iadd (pc := 84) dL_law_84 ?_
    refine lp_invSXR (pc := 85) dL_law_85 ms_RL_108 (av := [_, _]) (rest := []) (qL_cell (X := X) _ _ hX ⟨by omega, by omega⟩) rfl rfl (Nat.le_of_ble_eq_true rfl) (by decide) (by decide) (exT_O X (t := t) (by omega)) ?_
    rintro _ ⟨x2, rfl, hx2⟩
    refine lp_ldc (pc := 88) dL_law_88 lc_112 ?_
    refine lp_invSR (pc := 90) dL_law_90 ms_RL_89 (av := [_, _]) (rest := []) (qL_low _ _ _ (by decide)) rfl rfl (Nat.le_of_ble_eq_true rfl) (by decide) (by decide) (exT_O X (t := t) (by omega)) ?_
    rintro _ ⟨y, rfl, y0, y1⟩
    refine lp_ist_5 (pc := 93) dL_law_93 (by decide) (by unfold lkO; simp) ?_
    refine lp_ald_1 (pc := 95) dL_law_95 ?_
    refine lp_invSLR (pc := 96) dL_law_96 ms_RL_33 (av := [_]) (qL_print _ I) rfl rfl (Nat.le_of_ble_eq_true rfl) (by decide) (by decide) (exT_O X (t := t) (by omega)) ?_
    refine lp_lst (pc := 99) (i := 6) dL_law_99 (by decide) rfl ?_
    refine lp_ald_1 (pc := 101) dL_law_101 ?_
    refine lp_bipush (pc := 102) dL_law_102 bp_21 ?_
    refine lp_invVR (pc := 104) dL_law_104 mv_RL_13 sh_0 (av := [_]) (rest := []) (k_count I ⟨by omega, by omega⟩) rfl rfl (Nat.le_of_ble_eq_true rfl) (by decide) (by decide) (exT_O X (t := t) (by omega)) ?_
    rw [vCN_21]
    refine lp_ist_8 (pc := 107) dL_law_107 (by decide) (by unfold lkO; simp) ?_
    have J143 : ∀ q : Int, (0 ≤ q ∧ q ≤ 19) → LQ 10 (zL X) mL_law [(6, PR r)] [] (exT t) 143 [some (.inr 1000), some (.inr 0), some (.inl 1), some (.inl (t : Int)), some (.inl x), some (.inl y), none, none, some (.inl n), none, none] [.inl q] m (fun v _ => v = some 1) := by
      intro q hq
      refine lp_ist_9 (pc := 143) dL_law_143 (by decide) (by unfold lkO; simp) ?_
      refine lp_ald_1 (pc := 145) dL_law_145 ?_
      refine lp_bipush (pc := 146) dL_law_146 bp_20 ?_
      refine lp_ild_4 (pc := 148) dL_law_148 ?_
      refine lp_const (pc := 150) dL_law_150 ?_
      refine lp_ishr (pc := 151) dL_law_151 ?_
      refine lp_ldc (pc := 152) dL_law_152 lc_113 ?_
      refine lp_invSR (pc := 154) dL_law_154 ms_RL_89 (av := [_, _]) (rest := [_, _]) (qL_low _ _ _ (by decide)) rfl rfl (Nat.le_of_ble_eq_true rfl) (by decide) (by decide) (exT_O X (t := t) (by omega)) ?_
      rintro _ ⟨g, rfl, g0, g1⟩
      refine lp_imul (pc := 157) dL_law_157 ?_
      refine lp_ild_9 (pc := 158) dL_law_158 ?_
      refine lp_iadd (pc := 160) dL_law_160 ?_
      refine lp_ild_5 (pc := 161) dL_law_161 ?_
      refine lp_invS (pc := 163) dL_law_163 ms_RL_114 (av := [_, _, _]) (rest := []) (qL_acts _ _ _ I J ⟨y0, y1⟩ ⟨by omega, by omega⟩) rfl rfl (Nat.le_of_ble_eq_true rfl) (by decide) (by decide) (exT_O X (t := t) (by omega)) ?_
      rintro _ m1 m ⟨z, rfl, hzb, ⟨hz0, r', J', I⟩ | ⟨hz0, I⟩⟩ f1 f2
      · skip
        have I := GI_same f1 I
        refine lp_ist_10 (pc := 166) dL_law_166 (by decide) (by unfold lkO; simp) ?_
        refine lp_ild_10 (pc := 168) dL_law_168 ?_
        refine lp_bipush (pc := 170) dL_law_170 bp_m4 ?_
        refine lp_icmp_lt (pc := 172) 231 dL_law_172 rfl ⟨by omega, by omega⟩ ⟨by omega, by omega⟩ (fun c172 => ?_) (fun c172 => ?_)
        · skip
          exfalso; omega
        · skip
          refine lp_ild_10 (pc := 175) dL_law_175 ?_
          refine lp_if_lt (pc := 177) 206 dL_law_177 rfl ⟨by omega, by omega⟩ (fun c177 => ?_) (fun c177 => ?_)
          · skip
            exfalso; omega
          · skip
            refine lp_ald_1 (pc := 180) dL_law_180 ?_
            refine lp_bipush (pc := 181) dL_law_181 bp_21 ?_
            refine lp_invVR (pc := 183) dL_law_183 mv_RL_13 sh_0 (av := [_]) (rest := []) (k_count I ⟨by omega, by omega⟩) rfl rfl (Nat.le_of_ble_eq_true rfl) (by decide) (by decide) (exT_O X (t := t) (by omega)) ?_
            rw [vCN_21]
            refine lp_ild_8 (pc := 186) dL_law_186 ?_
            refine lp_const (pc := 188) dL_law_188 ?_
            refine lp_icmp_ne (pc := 189) 196 dL_law_189 rfl (Or.inr ⟨⟨by omega, by omega⟩, ⟨by omega, by omega⟩⟩) (fun c189 => ?_) (fun c189 => ?_)
            · skip
              refine lp_ild_8 (pc := 196) dL_law_196 ?_
              refine lp_const (pc := 198) dL_law_198 ?_
              refine lp_iadd (pc := 199) dL_law_199 ?_
              refine lp_icmp_ne (pc := 200) 231 dL_law_200 rfl (Or.inr ⟨⟨by omega, by omega⟩, ⟨by omega, by omega⟩⟩) (fun c200 => ?_) (fun c200 => ?_)
              · skip
                exfalso; omega
              · skip
                refine lp_goto (pc := 203) 227 dL_law_203 rfl ?_
                refine lp_const (pc := 227) dL_law_227 ?_
                refine lp_goto (pc := 228) 232 dL_law_228 rfl ?_
                refine lp_ist_2 (pc := 232) dL_law_232 (by decide) (by unfold lkO; simp) ?_
                refine lp_ild_2 (pc := 233) dL_law_233 ?_
                refine lp_if_eq (pc := 234) 287 dL_law_234 rfl ⟨by omega, by omega⟩ (fun c234 => absurd c234 (by decide)) (fun _ => ?_)
                refine lp_ild_10 (pc := 237) dL_law_237 ?_
                refine lp_if_lt (pc := 239) 287 dL_law_239 rfl ⟨by omega, by omega⟩ (fun c239 => ?_) (fun c239 => ?_)
                · skip
                  exfalso; omega
                · skip
                  refine lp_ild_4 (pc := 242) dL_law_242 ?_
                  refine lp_bipush (pc := 244) dL_law_244 bp_25 ?_
                  refine lp_ishr (pc := 246) dL_law_246 ?_
                  refine lp_const (pc := 247) dL_law_247 ?_
                  refine lp_iand (pc := 248) dL_law_248 ?_
                  refine lp_if_ne (pc := 249) 287 dL_law_249 rfl (rng_toInt _) (fun c249 => ?_) (fun c249 => ?_)
                  · skip
                    refine LQ.drop ?_
                    exact (J287 _ _ _ _ I (by assumption) y ⟨y0, y1⟩).bk ⟨rfl, rfl, rfl, rfl, trivial, rfl, trivial, trivial, trivial, trivial, trivial, trivial⟩ rfl
                  · skip
                    refine lp_ald_1 (pc := 252) dL_law_252 ?_
                    refine lp_invV (pc := 253) dL_law_253 mv_RL_76 sh_0 (av := []) (rest := []) (ku_undo hn I) rfl rfl (Nat.le_of_ble_eq_true rfl) (by decide) (by decide) (exT_O X (t := t) (by omega)) ?_
                    rintro _ m1 m ⟨rfl, I⟩ f1 f2
                    have I := GI_same f1 I
                    refine lp_ild_8 (pc := 256) dL_law_256 ?_
                    refine lp_const (pc := 258) dL_law_258 ?_
                    refine lp_icmp_ne (pc := 259) 266 dL_law_259 rfl (Or.inr ⟨⟨by omega, by omega⟩, ⟨by omega, by omega⟩⟩) (fun c259 => ?_) (fun c259 => ?_)
                    · skip
                      refine lp_ild_8 (pc := 266) dL_law_266 ?_
                      refine lp_icmp_ne (pc := 268) 285 dL_law_268 rfl (Or.inr ⟨⟨by omega, by omega⟩, ⟨by omega, by omega⟩⟩) (fun c268 => ?_) (fun c268 => ?_)
                      · skip
                        exfalso; omega
                      · skip
                        refine lp_ald_1 (pc := 271) dL_law_271 ?_
                        refine lp_invSLR (pc := 272) dL_law_272 ms_RL_33 (av := [_]) (qL_print _ I) rfl rfl (Nat.le_of_ble_eq_true rfl) (by decide) (by decide) (exT_O X (t := t) (by omega)) ?_
                        refine lp_lld (pc := 275) (i := 6) dL_law_275 (List.mem_singleton.mpr rfl) ?_
                        refine lp_lcmp (pc := 277) dL_law_277 rfl ?_
                        refine lp_if_ne (pc := 278) 285 dL_law_278 rfl ⟨by omega, by omega⟩ (fun c278 => absurd c278 (by decide)) (fun _ => ?_)
                        refine lp_const (pc := 281) dL_law_281 ?_
                        refine lp_goto (pc := 282) 286 dL_law_282 rfl ?_
                        refine lp_ist_2 (pc := 286) dL_law_286 (by decide) (by unfold lkO; simp) ?_
                        refine LQ.drop ?_
                        exact (J287 _ _ _ _ I (by assumption) y ⟨y0, y1⟩).bk ⟨rfl, rfl, rfl, rfl, trivial, rfl, trivial, trivial, trivial, trivial, trivial, trivial⟩ rfl
                    · skip
                      refine lp_const (pc := 262) dL_law_262 ?_
                      refine lp_goto (pc := 263) 268 dL_law_263 rfl ?_
                      refine lp_icmp_ne (pc := 268) 285 dL_law_268 rfl (Or.inr ⟨⟨by omega, by omega⟩, ⟨by omega, by omega⟩⟩) (fun c268 => ?_) (fun c268 => ?_)
                      · skip
                        exfalso; omega
                      · skip
                        refine lp_ald_1 (pc := 271) dL_law_271 ?_
                        refine lp_invSLR (pc := 272) dL_law_272 ms_RL_33 (av := [_]) (qL_print _ I) rfl rfl (Nat.le_of_ble_eq_true rfl) (by decide) (by decide) (exT_O X (t := t) (by omega)) ?_
                        refine lp_lld (pc := 275) (i := 6) dL_law_275 (List.mem_singleton.mpr rfl) ?_
                        refine lp_lcmp (pc := 277) dL_law_277 rfl ?_
                        refine lp_if_ne (pc := 278) 285 dL_law_278 rfl ⟨by omega, by omega⟩ (fun c278 => absurd c278 (by decide)) (fun _ => ?_)
                        refine lp_const (pc := 281) dL_law_281 ?_
                        refine lp_goto (pc := 282) 286 dL_law_282 rfl ?_
                        refine lp_ist_2 (pc := 286) dL_law_286 (by decide) (by unfold lkO; simp) ?_
                        refine LQ.drop ?_
                        exact (J287 _ _ _ _ I (by assumption) y ⟨y0, y1⟩).bk ⟨rfl, rfl, rfl, rfl, trivial, rfl, trivial, trivial, trivial, trivial, trivial, trivial⟩ rfl
            · skip
              refine lp_const (pc := 192) dL_law_192 ?_
              refine lp_goto (pc := 193) 200 dL_law_193 rfl ?_
              refine lp_icmp_ne (pc := 200) 231 dL_law_200 rfl (Or.inr ⟨⟨by omega, by omega⟩, ⟨by omega, by omega⟩⟩) (fun c200 => ?_) (fun c200 => ?_)
              · skip
                exfalso; omega
              · skip
                refine lp_goto (pc := 203) 227 dL_law_203 rfl ?_
                refine lp_const (pc := 227) dL_law_227 ?_
                refine lp_goto (pc := 228) 232 dL_law_228 rfl ?_
                refine lp_ist_2 (pc := 232) dL_law_232 (by decide) (by unfold lkO; simp) ?_
                refine lp_ild_2 (pc := 233) dL_law_233 ?_
                refine lp_if_eq (pc := 234) 287 dL_law_234 rfl ⟨by omega, by omega⟩ (fun c234 => absurd c234 (by decide)) (fun _ => ?_)
                refine lp_ild_10 (pc := 237) dL_law_237 ?_
                refine lp_if_lt (pc := 239) 287 dL_law_239 rfl ⟨by omega, by omega⟩ (fun c239 => ?_) (fun c239 => ?_)
                · skip
                  exfalso; omega
                · skip
                  refine lp_ild_4 (pc := 242) dL_law_242 ?_
                  refine lp_bipush (pc := 244) dL_law_244 bp_25 ?_
                  refine lp_ishr (pc := 246) dL_law_246 ?_
                  refine lp_const (pc := 247) dL_law_247 ?_
                  refine lp_iand (pc := 248) dL_law_248 ?_
                  refine lp_if_ne (pc := 249) 287 dL_law_249 rfl (rng_toInt _) (fun c249 => ?_) (fun c249 => ?_)
                  · skip
                    refine LQ.drop ?_
                    exact (J287 _ _ _ _ I (by assumption) y ⟨y0, y1⟩).bk ⟨rfl, rfl, rfl, rfl, trivial, rfl, trivial, trivial, trivial, trivial, trivial, trivial⟩ rfl
                  · skip
                    refine lp_ald_1 (pc := 252) dL_law_252 ?_
                    refine lp_invV (pc := 253) dL_law_253 mv_RL_76 sh_0 (av := []) (rest := []) (ku_undo hn I) rfl rfl (Nat.le_of_ble_eq_true rfl) (by decide) (by decide) (exT_O X (t := t) (by omega)) ?_
                    rintro _ m1 m ⟨rfl, I⟩ f1 f2
                    have I := GI_same f1 I
                    refine lp_ild_8 (pc := 256) dL_law_256 ?_
                    refine lp_const (pc := 258) dL_law_258 ?_
                    refine lp_icmp_ne (pc := 259) 266 dL_law_259 rfl (Or.inr ⟨⟨by omega, by omega⟩, ⟨by omega, by omega⟩⟩) (fun c259 => ?_) (fun c259 => ?_)
                    · skip
                      refine lp_ild_8 (pc := 266) dL_law_266 ?_
                      refine lp_icmp_ne (pc := 268) 285 dL_law_268 rfl (Or.inr ⟨⟨by omega, by omega⟩, ⟨by omega, by omega⟩⟩) (fun c268 => ?_) (fun c268 => ?_)
                      · skip
                        exfalso; omega
                      · skip
                        refine lp_ald_1 (pc := 271) dL_law_271 ?_
                        refine lp_invSLR (pc := 272) dL_law_272 ms_RL_33 (av := [_]) (qL_print _ I) rfl rfl (Nat.le_of_ble_eq_true rfl) (by decide) (by decide) (exT_O X (t := t) (by omega)) ?_
                        refine lp_lld (pc := 275) (i := 6) dL_law_275 (List.mem_singleton.mpr rfl) ?_
                        refine lp_lcmp (pc := 277) dL_law_277 rfl ?_
                        refine lp_if_ne (pc := 278) 285 dL_law_278 rfl ⟨by omega, by omega⟩ (fun c278 => absurd c278 (by decide)) (fun _ => ?_)
                        refine lp_const (pc := 281) dL_law_281 ?_
                        refine lp_goto (pc := 282) 286 dL_law_282 rfl ?_
                        refine lp_ist_2 (pc := 286) dL_law_286 (by decide) (by unfold lkO; simp) ?_
                        refine LQ.drop ?_
                        exact (J287 _ _ _ _ I (by assumption) y ⟨y0, y1⟩).bk ⟨rfl, rfl, rfl, rfl, trivial, rfl, trivial, trivial, trivial, trivial, trivial, trivial⟩ rfl
                    · skip
                      refine lp_const (pc := 262) dL_law_262 ?_
                      refine lp_goto (pc := 263) 268 dL_law_263 rfl ?_
                      refine lp_icmp_ne (pc := 268) 285 dL_law_268 rfl (Or.inr ⟨⟨by omega, by omega⟩, ⟨by omega, by omega⟩⟩) (fun c268 => ?_) (fun c268 => ?_)
                      · skip
                        exfalso; omega
                      · skip
                        refine lp_ald_1 (pc := 271) dL_law_271 ?_
                        refine lp_invSLR (pc := 272) dL_law_272 ms_RL_33 (av := [_]) (qL_print _ I) rfl rfl (Nat.le_of_ble_eq_true rfl) (by decide) (by decide) (exT_O X (t := t) (by omega)) ?_
                        refine lp_lld (pc := 275) (i := 6) dL_law_275 (List.mem_singleton.mpr rfl) ?_
                        refine lp_lcmp (pc := 277) dL_law_277 rfl ?_
                        refine lp_if_ne (pc := 278) 285 dL_law_278 rfl ⟨by omega, by omega⟩ (fun c278 => absurd c278 (by decide)) (fun _ => ?_)
                        refine lp_const (pc := 281) dL_law_281 ?_
                        refine lp_goto (pc := 282) 286 dL_law_282 rfl ?_
                        refine lp_ist_2 (pc := 286) dL_law_286 (by decide) (by unfold lkO; simp) ?_
                        refine LQ.drop ?_
                        exact (J287 _ _ _ _ I (by assumption) y ⟨y0, y1⟩).bk ⟨rfl, rfl, rfl, rfl, trivial, rfl, trivial, trivial, trivial, trivial, trivial, trivial⟩ rfl
      · skip
        have I := GI_same f1 I
        refine lp_ist_10 (pc := 166) dL_law_166 (by decide) (by unfold lkO; simp) ?_
        refine lp_ild_10 (pc := 168) dL_law_168 ?_
        refine lp_bipush (pc := 170) dL_law_170 bp_m4 ?_
        refine lp_icmp_lt (pc := 172) 231 dL_law_172 rfl ⟨by omega, by omega⟩ ⟨by omega, by omega⟩ (fun c172 => ?_) (fun c172 => ?_)
        · skip
          exfalso; omega
        · skip
          refine lp_ild_10 (pc := 175) dL_law_175 ?_
          refine lp_if_lt (pc := 177) 206 dL_law_177 rfl ⟨by omega, by omega⟩ (fun c177 => ?_) (fun c177 => ?_)
          · skip
            refine lp_ald_1 (pc := 206) dL_law_206 ?_
            refine lp_bipush (pc := 207) dL_law_207 bp_21 ?_
            refine lp_invVR (pc := 209) dL_law_209 mv_RL_13 sh_0 (av := [_]) (rest := []) (k_count I ⟨by omega, by omega⟩) rfl rfl (Nat.le_of_ble_eq_true rfl) (by decide) (by decide) (exT_O X (t := t) (by omega)) ?_
            rw [vCN_21]
            refine lp_ild_8 (pc := 212) dL_law_212 ?_
            refine lp_icmp_ne (pc := 214) 231 dL_law_214 rfl (Or.inr ⟨⟨by omega, by omega⟩, ⟨by omega, by omega⟩⟩) (fun c214 => ?_) (fun c214 => ?_)
            · skip
              exfalso; omega
            · skip
              refine lp_ald_1 (pc := 217) dL_law_217 ?_
              refine lp_invSLR (pc := 218) dL_law_218 ms_RL_33 (av := [_]) (qL_print _ I) rfl rfl (Nat.le_of_ble_eq_true rfl) (by decide) (by decide) (exT_O X (t := t) (by omega)) ?_
              refine lp_lld (pc := 221) (i := 6) dL_law_221 (List.mem_singleton.mpr rfl) ?_
              refine lp_lcmp (pc := 223) dL_law_223 rfl ?_
              refine lp_if_ne (pc := 224) 231 dL_law_224 rfl ⟨by omega, by omega⟩ (fun c224 => absurd c224 (by decide)) (fun _ => ?_)
              refine lp_const (pc := 227) dL_law_227 ?_
              refine lp_goto (pc := 228) 232 dL_law_228 rfl ?_
              refine lp_ist_2 (pc := 232) dL_law_232 (by decide) (by unfold lkO; simp) ?_
              refine lp_ild_2 (pc := 233) dL_law_233 ?_
              refine lp_if_eq (pc := 234) 287 dL_law_234 rfl ⟨by omega, by omega⟩ (fun c234 => absurd c234 (by decide)) (fun _ => ?_)
              refine lp_ild_10 (pc := 237) dL_law_237 ?_
              refine lp_if_lt (pc := 239) 287 dL_law_239 rfl ⟨by omega, by omega⟩ (fun c239 => ?_) (fun c239 => ?_)
              · skip
                refine LQ.drop ?_
                exact (J287 _ _ _ _ I (by assumption) y ⟨y0, y1⟩).bk ⟨rfl, rfl, rfl, rfl, trivial, rfl, trivial, trivial, trivial, trivial, trivial, trivial⟩ rfl
              · skip
                exfalso; omega
          · skip
            exfalso; omega
    refine lp_ild_3 (pc := 109) dL_law_109 ?_
    refine lp_const (pc := 110) dL_law_110 ?_
    refine lp_icmp_ge (pc := 111) 118 dL_law_111 rfl ⟨by omega, by omega⟩ ⟨by omega, by omega⟩ (fun c111 => ?_) (fun c111 => ?_)
    · skip
      refine lp_ild_3 (pc := 118) dL_law_118 ?_
      refine lp_bipush (pc := 119) dL_law_119 bp_13 ?_
      refine lp_icmp_ge (pc := 121) 136 dL_law_121 rfl ⟨by omega, by omega⟩ ⟨by omega, by omega⟩ (fun c121 => ?_) (fun c121 => ?_)
      · skip
        refine lp_ild_4 (pc := 136) dL_law_136 ?_
        refine lp_bipush (pc := 138) dL_law_138 bp_20 ?_
        refine lp_invSR (pc := 140) dL_law_140 ms_RL_89 (av := [_, _]) (rest := []) (qL_low _ _ _ (by decide)) rfl rfl (Nat.le_of_ble_eq_true rfl) (by decide) (by decide) (exT_O X (t := t) (by omega)) ?_
        rintro _ ⟨q, rfl, q0, q1⟩
        exact J143 _ ⟨by omega, by omega⟩
      · skip
        refine lp_const (pc := 124) dL_law_124 ?_
        refine lp_ild_4 (pc := 125) dL_law_125 ?_
        refine lp_bipush (pc := 127) dL_law_127 bp_12 ?_
        refine lp_invSR (pc := 129) dL_law_129 ms_RL_89 (av := [_, _]) (rest := [_]) (qL_low _ _ _ (by decide)) rfl rfl (Nat.le_of_ble_eq_true rfl) (by decide) (by decide) (exT_O X (t := t) (by omega)) ?_
        rintro _ ⟨q, rfl, q0, q1⟩
        refine lp_iadd (pc := 132) dL_law_132 ?_
        refine lp_goto (pc := 133) 143 dL_law_133 rfl ?_
        exact J143 _ ⟨by omega, by omega⟩
    · skip
      refine lp_const (pc := 114) dL_law_114 ?_
      refine lp_goto (pc := 115) 143 dL_law_115 rfl ?_
      exact J143 _ ⟨by omega, by omega⟩
